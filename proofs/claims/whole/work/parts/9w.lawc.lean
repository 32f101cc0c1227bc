/-! THE LAW: one call -/
def LI (L : Nat) (xs : Nat → Int32) (G0 : Nat) (j : Nat) (M : pMem) : Prop := (∃ a ak img n b fl, LwS M a ak img n b fl (1386 * j)) ∧ (gN M ≤ 200 + 4 * j ∧ gL M ≤ G0 + 500 * j) ∧ gS M 100 = (101, 1) ∧ gS M 900000 = (103, L) ∧ ∀ k, gI M 900000 k = xs k
section LWC
variable {n n' p q f g m K dd k e L G0 j : Nat} {xs : Nat → Int32} {b b' : Nat → Nat} {a a' ak ak' : Nat → Int32} {img img' fc : Bool} {fl fl' : Int32} {M M1 M2 M' : pMem} {x y z v w : Int32} {z5 z6 : Option Value} {Q : pOut → pMem → Prop}
theorem lg_self {x : Int64} : lg_cmp x x = nN 0 := by
  unfold lg_cmp
  simp [Int64.lt_irrefl]
  rfl
theorem LI.next (h : LI L xs G0 j M) (hj : j < 512) (c : CI M1 a' ak' img' n' b' fl') (q : CQ M 4 500 M1) (B1 : BM M1) (m : MI M2 86 a' ak' img' n' b' fl') (A : Ag (XU 86) M1 M2) (B2 : BM M2) (G : GdS a' ak' img' n' b' (1386 * j + 1386)) : LI L xs G0 (j + 1) M2 := by
  obtain ⟨⟨a, ak, img, n, b, fl, S⟩, ⟨h1, h2⟩, h3, h4, h5⟩ := h
  obtain ⟨⟨F1, F2, F3⟩, F4, F5, F6⟩ := q
  have N : ∀ h k, h < 86 ∨ 100 ≤ h → ¬ XU 86 h k := fun h k h1 z => by have := z.1; have := z.2; omega
  have f1 : gN M2 = gN M1 := A.N
  have f2 : gL M2 = gL M1 := A.L
  have eK : 1386 * (j + 1) = 1386 * j + 1386 := Nat.mul_succ 1386 j
  refine ⟨⟨a', ak', img', n', b', fl', ?_⟩, ⟨by omega, by omega⟩, ?_, ?_, fun k => ?_⟩
  · rw [eK]
    exact LwS.mk (c.md A) m G (F4.ag A) B2 (by omega) (by omega)
  · rw [A.S, F3 100 (Or.inl (by omega))]; exact h3
  · rw [A.S, F3 900000 (Or.inr (by omega))]; exact h4
  · rw [A.I (N _ _ (by omega)), F1 _ _ (Or.inr rfl)]; exact h5 k
theorem B_town (h : LI L xs G0 j M) (hL : L ≤ 3072) (hj : 6 * j + 6 ≤ L) (go : ∀ M' z5 z6, LI L xs G0 (j + 1) M' → bw 101 279 98 ([some (.ref 900000), some (.ref 0), some (.ref 86), some (.ref 100), some (.int (nN (6 * j))), z5, z6], [], M') Q) : bw 101 279 4 ([some (.ref 900000), some (.ref 0), some (.ref 86), some (.ref 100), some (.int (nN (6 * j))), z5, z6], [], M) Q := by
  have hI := h
  obtain ⟨⟨a, ak, img, n, b, fl, S⟩, ⟨h1, h2⟩, h3, h4, h5⟩ := h
  have l1 : 6 * j + 1 < L := by omega
  have l2 : 6 * j + 2 < L := by omega
  have l3 : 6 * j + 3 < L := by omega
  have l4 : 6 * j + 4 < L := by omega
  have l5 : 6 * j + 5 < L := by omega
  have s0 := S.ci.sh.k0
  rw [e_279_4]
  simp (disch := omega) only [q_aload1, q_aload1N, q_aload3, q_aload3N, q_invs2_22, q_istore5, q_aload2, q_aload2N, q_invv0, inv_1, q_istore6, q_iload5, q_ic_eq, q_iconst, q_zret, e_279_4, L_0, k_some, k_none, pRm_i, pRm_r, pRm_0, pF_1, pF_2, inv_s, h4, h5, l1, l2, l3, l4, l5, pIn_n, pIx_n, nN_add, eq_self, Nat.reduceLT, Bool.false_eq_true, Nat.add_zero, Nat.zero_add, Nat.reduceAdd, Nat.reduceMul, Nat.reduceSub, Nat.zero_le, Nat.reduceLeDiff, Nat.reduceEqDiff, Nat.le_refl, not_false_eq_true, not_true_eq_false, false_implies, true_implies, forall_const, true_and, and_true, if_true, if_false, implies_true, and_self, ne_eq, false_and, and_false, or_false, false_or, true_or, or_true]
  obtain ⟨k, v, a', ak', img', n', b', fl', C, T, G⟩ := P_town  S
  refine mw_mono (mw_bm (X_town s0 h3 C) S.bm) ?_
  rintro _ M1 ⟨⟨rfl, kb, hv, c, q⟩, B1⟩
  have m1 := S.mi.mf q.1
  have t0 : gS M1 86 = (12, 0) := m1.mr.1.k0
  have t4 : gS M1 900000 = (103, L) := by rw [q.1.2.2 900000 (Or.inr (by omega))]; exact h4
  have t5 : ∀ k, gI M1 900000 k = xs k := fun k => by rw [q.1.1 _ _ (Or.inr rfl)]; exact h5 k
  simp (disch := omega) only [q_aload1, q_aload1N, q_aload3, q_aload3N, q_invs2_22, q_istore5, q_aload2, q_aload2N, q_invv0, inv_1, q_istore6, q_iload5, q_ic_eq, q_iconst, q_zret, e_279_4, L_0, k_some, k_none, pRm_i, pRm_r, pRm_0, pF_1, pF_2, inv_s, t0, t4, t5, l1, l2, l3, l4, l5, pIn_n, pIx_n, nN_add, eq_self, Nat.reduceLT, Bool.false_eq_true, Nat.add_zero, Nat.zero_add, Nat.reduceAdd, Nat.reduceMul, Nat.reduceSub, Nat.zero_le, Nat.reduceLeDiff, Nat.reduceEqDiff, Nat.le_refl, not_false_eq_true, not_true_eq_false, false_implies, true_implies, forall_const, true_and, and_true, if_true, if_false, implies_true, and_self, ne_eq, false_and, and_false, or_false, false_or, true_or, or_true]
  refine mw_mono (mw_bm (T M1 m1 B1) B1) ?_
  rintro o M2 ⟨⟨⟨⟨w, rfl, hw⟩, th⟩, m2, A2⟩, B2⟩
  have u0 : gS M2 86 = (12, 0) := m2.mr.1.k0
  have NN := LI.next hI (by omega) c q B1 m2 A2 B2 G
  simp (disch := omega) only [q_aload1, q_aload1N, q_aload3, q_aload3N, q_invs2_22, q_istore5, q_aload2, q_aload2N, q_invv0, inv_1, q_istore6, q_iload5, q_ic_eq, q_iconst, q_zret, e_279_4, L_0, k_some, k_none, pRm_i, pRm_r, pRm_0, pF_1, pF_2, inv_s, m_51, q_aload0, q_aload0N, q_get_i, pTag_1, pRf_s, q_iret, e_51_0, u0, th, eq_self, Nat.reduceLT, Bool.false_eq_true, Nat.add_zero, Nat.zero_add, Nat.reduceAdd, Nat.reduceMul, Nat.reduceSub, Nat.zero_le, Nat.reduceLeDiff, Nat.reduceEqDiff, Nat.le_refl, not_false_eq_true, not_true_eq_false, false_implies, true_implies, forall_const, true_and, and_true, if_true, if_false, implies_true, and_self, ne_eq, false_and, and_false, or_false, false_or, true_or, or_true]
  rw [e_279_5]
  by_cases k0 : k = 0
  · subst k0
    have hv := hv rfl
    have hw := hw rfl
    subst hw
    have u3 : gS M2 100 = (101, 1) := NN.2.2.1
    have gj : gJ M2 100 0 = w.toInt64 := by rw [A2.J]; exact hv
    simp (disch := omega) only [q_iload5, q_if_ne, q_aload3, q_aload3N, q_iconst, q_lald, q_iload6, q_i2l, q_lcmp, q_if_eq, q_zret, q_goto, e_279_5, e_279_6, L_0, u3, gj, lg_self, pIn_n, pIx_n, nN_le, nN_lt, nN_eq, nN_add, nN_mul, nN_lt0, nN_ge0, nN_gt0, nN_le0, nN_eq0, nN_eq1, nN_neN, pIn_n, pIx_n, eq_self, Nat.reduceLT, Bool.false_eq_true, Nat.add_zero, Nat.zero_add, Nat.reduceAdd, Nat.reduceMul, Nat.reduceSub, Nat.zero_le, Nat.reduceLeDiff, Nat.reduceEqDiff, Nat.le_refl, not_false_eq_true, not_true_eq_false, false_implies, true_implies, forall_const, true_and, and_true, if_true, if_false, implies_true, and_self, ne_eq, false_and, and_false, or_false, false_or, true_or, or_true]
    exact go M2 _ _ NN
  · have k1 : ¬ nN k = 0 := by rw [nN_eq0 (by omega)]; exact k0
    simp (disch := omega) only [q_iload5, q_if_ne, q_aload3, q_aload3N, q_iconst, q_lald, q_iload6, q_i2l, q_lcmp, q_if_eq, q_zret, q_goto, e_279_5, e_279_6, L_0, k1, eq_self, Nat.reduceLT, Bool.false_eq_true, Nat.add_zero, Nat.zero_add, Nat.reduceAdd, Nat.reduceMul, Nat.reduceSub, Nat.zero_le, Nat.reduceLeDiff, Nat.reduceEqDiff, Nat.le_refl, not_false_eq_true, not_true_eq_false, false_implies, true_implies, forall_const, true_and, and_true, if_true, if_false, implies_true, and_self, ne_eq, false_and, and_false, or_false, false_or, true_or, or_true]
    exact go M2 _ _ NN
theorem B_temper (h : LI L xs G0 j M) (hL : L ≤ 3072) (hj : 6 * j + 6 ≤ L) (go : ∀ M' z5 z6, LI L xs G0 (j + 1) M' → bw 101 279 98 ([some (.ref 900000), some (.ref 0), some (.ref 86), some (.ref 100), some (.int (nN (6 * j))), z5, z6], [], M') Q) : bw 101 279 7 ([some (.ref 900000), some (.ref 0), some (.ref 86), some (.ref 100), some (.int (nN (6 * j))), z5, z6], [], M) Q := by
  have hI := h
  obtain ⟨⟨a, ak, img, n, b, fl, S⟩, ⟨h1, h2⟩, h3, h4, h5⟩ := h
  have l1 : 6 * j + 1 < L := by omega
  have l2 : 6 * j + 2 < L := by omega
  have l3 : 6 * j + 3 < L := by omega
  have l4 : 6 * j + 4 < L := by omega
  have l5 : 6 * j + 5 < L := by omega
  have s0 := S.ci.sh.k0
  rw [e_279_7]
  simp (disch := omega) only [q_aload1, q_aload1N, q_aload3, q_aload3N, q_invs2_22, q_istore5, q_aload2, q_aload2N, q_invv0, inv_1, q_istore6, q_iload5, q_ic_eq, q_iconst, q_zret, e_279_7, L_0, k_some, k_none, pRm_i, pRm_r, pRm_0, pF_1, pF_2, inv_s, h4, h5, l1, l2, l3, l4, l5, pIn_n, pIx_n, nN_add, eq_self, Nat.reduceLT, Bool.false_eq_true, Nat.add_zero, Nat.zero_add, Nat.reduceAdd, Nat.reduceMul, Nat.reduceSub, Nat.zero_le, Nat.reduceLeDiff, Nat.reduceEqDiff, Nat.le_refl, not_false_eq_true, not_true_eq_false, false_implies, true_implies, forall_const, true_and, and_true, if_true, if_false, implies_true, and_self, ne_eq, false_and, and_false, or_false, false_or, true_or, or_true]
  obtain ⟨k, v, a', ak', img', n', b', fl', C, T, G⟩ := P_temper  S
  refine mw_mono (mw_bm (X_temper s0 h3 C) S.bm) ?_
  rintro _ M1 ⟨⟨rfl, kb, hv, c, q⟩, B1⟩
  have m1 := S.mi.mf q.1
  have t0 : gS M1 86 = (12, 0) := m1.mr.1.k0
  have t4 : gS M1 900000 = (103, L) := by rw [q.1.2.2 900000 (Or.inr (by omega))]; exact h4
  have t5 : ∀ k, gI M1 900000 k = xs k := fun k => by rw [q.1.1 _ _ (Or.inr rfl)]; exact h5 k
  simp (disch := omega) only [q_aload1, q_aload1N, q_aload3, q_aload3N, q_invs2_22, q_istore5, q_aload2, q_aload2N, q_invv0, inv_1, q_istore6, q_iload5, q_ic_eq, q_iconst, q_zret, e_279_7, L_0, k_some, k_none, pRm_i, pRm_r, pRm_0, pF_1, pF_2, inv_s, t0, t4, t5, l1, l2, l3, l4, l5, pIn_n, pIx_n, nN_add, eq_self, Nat.reduceLT, Bool.false_eq_true, Nat.add_zero, Nat.zero_add, Nat.reduceAdd, Nat.reduceMul, Nat.reduceSub, Nat.zero_le, Nat.reduceLeDiff, Nat.reduceEqDiff, Nat.le_refl, not_false_eq_true, not_true_eq_false, false_implies, true_implies, forall_const, true_and, and_true, if_true, if_false, implies_true, and_self, ne_eq, false_and, and_false, or_false, false_or, true_or, or_true]
  refine mw_mono (mw_bm (T M1 m1 B1) B1) ?_
  rintro o M2 ⟨⟨⟨⟨w, rfl, hw⟩, th⟩, m2, A2⟩, B2⟩
  have u0 : gS M2 86 = (12, 0) := m2.mr.1.k0
  have NN := LI.next hI (by omega) c q B1 m2 A2 B2 G
  simp (disch := omega) only [q_aload1, q_aload1N, q_aload3, q_aload3N, q_invs2_22, q_istore5, q_aload2, q_aload2N, q_invv0, inv_1, q_istore6, q_iload5, q_ic_eq, q_iconst, q_zret, e_279_7, L_0, k_some, k_none, pRm_i, pRm_r, pRm_0, pF_1, pF_2, inv_s, m_51, q_aload0, q_aload0N, q_get_i, pTag_1, pRf_s, q_iret, e_51_0, u0, th, eq_self, Nat.reduceLT, Bool.false_eq_true, Nat.add_zero, Nat.zero_add, Nat.reduceAdd, Nat.reduceMul, Nat.reduceSub, Nat.zero_le, Nat.reduceLeDiff, Nat.reduceEqDiff, Nat.le_refl, not_false_eq_true, not_true_eq_false, false_implies, true_implies, forall_const, true_and, and_true, if_true, if_false, implies_true, and_self, ne_eq, false_and, and_false, or_false, false_or, true_or, or_true]
  rw [e_279_8]
  by_cases k0 : k = 0
  · subst k0
    have hv := hv rfl
    have hw := hw rfl
    subst hw
    have u3 : gS M2 100 = (101, 1) := NN.2.2.1
    have gj : gJ M2 100 0 = w.toInt64 := by rw [A2.J]; exact hv
    simp (disch := omega) only [q_iload5, q_if_ne, q_aload3, q_aload3N, q_iconst, q_lald, q_iload6, q_i2l, q_lcmp, q_if_eq, q_zret, q_goto, e_279_8, e_279_9, L_0, u3, gj, lg_self, pIn_n, pIx_n, nN_le, nN_lt, nN_eq, nN_add, nN_mul, nN_lt0, nN_ge0, nN_gt0, nN_le0, nN_eq0, nN_eq1, nN_neN, pIn_n, pIx_n, eq_self, Nat.reduceLT, Bool.false_eq_true, Nat.add_zero, Nat.zero_add, Nat.reduceAdd, Nat.reduceMul, Nat.reduceSub, Nat.zero_le, Nat.reduceLeDiff, Nat.reduceEqDiff, Nat.le_refl, not_false_eq_true, not_true_eq_false, false_implies, true_implies, forall_const, true_and, and_true, if_true, if_false, implies_true, and_self, ne_eq, false_and, and_false, or_false, false_or, true_or, or_true]
    exact go M2 _ _ NN
  · have k1 : ¬ nN k = 0 := by rw [nN_eq0 (by omega)]; exact k0
    simp (disch := omega) only [q_iload5, q_if_ne, q_aload3, q_aload3N, q_iconst, q_lald, q_iload6, q_i2l, q_lcmp, q_if_eq, q_zret, q_goto, e_279_8, e_279_9, L_0, k1, eq_self, Nat.reduceLT, Bool.false_eq_true, Nat.add_zero, Nat.zero_add, Nat.reduceAdd, Nat.reduceMul, Nat.reduceSub, Nat.zero_le, Nat.reduceLeDiff, Nat.reduceEqDiff, Nat.le_refl, not_false_eq_true, not_true_eq_false, false_implies, true_implies, forall_const, true_and, and_true, if_true, if_false, implies_true, and_self, ne_eq, false_and, and_false, or_false, false_or, true_or, or_true]
    exact go M2 _ _ NN
theorem B_has (h : LI L xs G0 j M) (hL : L ≤ 3072) (hj : 6 * j + 6 ≤ L) (go : ∀ M' z5 z6, LI L xs G0 (j + 1) M' → bw 101 279 98 ([some (.ref 900000), some (.ref 0), some (.ref 86), some (.ref 100), some (.int (nN (6 * j))), z5, z6], [], M') Q) : bw 101 279 11 ([some (.ref 900000), some (.ref 0), some (.ref 86), some (.ref 100), some (.int (nN (6 * j))), z5, z6], [], M) Q := by
  have hI := h
  obtain ⟨⟨a, ak, img, n, b, fl, S⟩, ⟨h1, h2⟩, h3, h4, h5⟩ := h
  have l1 : 6 * j + 1 < L := by omega
  have l2 : 6 * j + 2 < L := by omega
  have l3 : 6 * j + 3 < L := by omega
  have l4 : 6 * j + 4 < L := by omega
  have l5 : 6 * j + 5 < L := by omega
  have s0 := S.ci.sh.k0
  rw [e_279_11]
  simp (disch := omega) only [q_aload1, q_aload1N, q_aload0, q_aload0N, q_iload4, q_iconst, q_iadd, q_iald, q_aload3, q_aload3N, q_invs4_22, q_istore5, q_aload2, q_aload2N, q_invv2, inv_1, q_istore6, q_invv0, q_iload5, q_ic_eq, q_zret, e_279_11, L_0, L_1, L_2, k_some, k_none, pRm_i, pRm_r, pRm_0, pF_1, pF_2, inv_s, h4, h5, l1, l2, l3, l4, l5, pIn_n, pIx_n, nN_add, eq_self, Nat.reduceLT, Bool.false_eq_true, Nat.add_zero, Nat.zero_add, Nat.reduceAdd, Nat.reduceMul, Nat.reduceSub, Nat.zero_le, Nat.reduceLeDiff, Nat.reduceEqDiff, Nat.le_refl, not_false_eq_true, not_true_eq_false, false_implies, true_implies, forall_const, true_and, and_true, if_true, if_false, implies_true, and_self, ne_eq, false_and, and_false, or_false, false_or, true_or, or_true]
  obtain ⟨k, v, a', ak', img', n', b', fl', C, T, G⟩ := P_has (x := xs (6 * j + 1)) (y := xs (6 * j + 2)) S
  refine mw_mono (mw_bm (X_has s0 h3 C) S.bm) ?_
  rintro _ M1 ⟨⟨rfl, kb, hv, c, q⟩, B1⟩
  have m1 := S.mi.mf q.1
  have t0 : gS M1 86 = (12, 0) := m1.mr.1.k0
  have t4 : gS M1 900000 = (103, L) := by rw [q.1.2.2 900000 (Or.inr (by omega))]; exact h4
  have t5 : ∀ k, gI M1 900000 k = xs k := fun k => by rw [q.1.1 _ _ (Or.inr rfl)]; exact h5 k
  simp (disch := omega) only [q_aload1, q_aload1N, q_aload0, q_aload0N, q_iload4, q_iconst, q_iadd, q_iald, q_aload3, q_aload3N, q_invs4_22, q_istore5, q_aload2, q_aload2N, q_invv2, inv_1, q_istore6, q_invv0, q_iload5, q_ic_eq, q_zret, e_279_11, L_0, L_1, L_2, k_some, k_none, pRm_i, pRm_r, pRm_0, pF_1, pF_2, inv_s, t0, t4, t5, l1, l2, l3, l4, l5, pIn_n, pIx_n, nN_add, eq_self, Nat.reduceLT, Bool.false_eq_true, Nat.add_zero, Nat.zero_add, Nat.reduceAdd, Nat.reduceMul, Nat.reduceSub, Nat.zero_le, Nat.reduceLeDiff, Nat.reduceEqDiff, Nat.le_refl, not_false_eq_true, not_true_eq_false, false_implies, true_implies, forall_const, true_and, and_true, if_true, if_false, implies_true, and_self, ne_eq, false_and, and_false, or_false, false_or, true_or, or_true]
  refine mw_mono (mw_bm (T M1 m1 B1) B1) ?_
  rintro o M2 ⟨⟨⟨⟨w, rfl, hw⟩, th⟩, m2, A2⟩, B2⟩
  have u0 : gS M2 86 = (12, 0) := m2.mr.1.k0
  have NN := LI.next hI (by omega) c q B1 m2 A2 B2 G
  simp (disch := omega) only [q_aload1, q_aload1N, q_aload0, q_aload0N, q_iload4, q_iconst, q_iadd, q_iald, q_aload3, q_aload3N, q_invs4_22, q_istore5, q_aload2, q_aload2N, q_invv2, inv_1, q_istore6, q_invv0, q_iload5, q_ic_eq, q_zret, e_279_11, L_0, L_1, L_2, k_some, k_none, pRm_i, pRm_r, pRm_0, pF_1, pF_2, inv_s, m_51, q_aload0, q_aload0N, q_get_i, pTag_1, pRf_s, q_iret, e_51_0, u0, th, eq_self, Nat.reduceLT, Bool.false_eq_true, Nat.add_zero, Nat.zero_add, Nat.reduceAdd, Nat.reduceMul, Nat.reduceSub, Nat.zero_le, Nat.reduceLeDiff, Nat.reduceEqDiff, Nat.le_refl, not_false_eq_true, not_true_eq_false, false_implies, true_implies, forall_const, true_and, and_true, if_true, if_false, implies_true, and_self, ne_eq, false_and, and_false, or_false, false_or, true_or, or_true]
  rw [e_279_12]
  by_cases k0 : k = 0
  · subst k0
    have hv := hv rfl
    have hw := hw rfl
    subst hw
    have u3 : gS M2 100 = (101, 1) := NN.2.2.1
    have gj : gJ M2 100 0 = w.toInt64 := by rw [A2.J]; exact hv
    simp (disch := omega) only [q_iload5, q_if_ne, q_aload3, q_aload3N, q_iconst, q_lald, q_iload6, q_i2l, q_lcmp, q_if_eq, q_zret, q_goto, e_279_12, e_279_13, L_0, u3, gj, lg_self, pIn_n, pIx_n, nN_le, nN_lt, nN_eq, nN_add, nN_mul, nN_lt0, nN_ge0, nN_gt0, nN_le0, nN_eq0, nN_eq1, nN_neN, pIn_n, pIx_n, eq_self, Nat.reduceLT, Bool.false_eq_true, Nat.add_zero, Nat.zero_add, Nat.reduceAdd, Nat.reduceMul, Nat.reduceSub, Nat.zero_le, Nat.reduceLeDiff, Nat.reduceEqDiff, Nat.le_refl, not_false_eq_true, not_true_eq_false, false_implies, true_implies, forall_const, true_and, and_true, if_true, if_false, implies_true, and_self, ne_eq, false_and, and_false, or_false, false_or, true_or, or_true]
    exact go M2 _ _ NN
  · have k1 : ¬ nN k = 0 := by rw [nN_eq0 (by omega)]; exact k0
    simp (disch := omega) only [q_iload5, q_if_ne, q_aload3, q_aload3N, q_iconst, q_lald, q_iload6, q_i2l, q_lcmp, q_if_eq, q_zret, q_goto, e_279_12, e_279_13, L_0, k1, eq_self, Nat.reduceLT, Bool.false_eq_true, Nat.add_zero, Nat.zero_add, Nat.reduceAdd, Nat.reduceMul, Nat.reduceSub, Nat.zero_le, Nat.reduceLeDiff, Nat.reduceEqDiff, Nat.le_refl, not_false_eq_true, not_true_eq_false, false_implies, true_implies, forall_const, true_and, and_true, if_true, if_false, implies_true, and_self, ne_eq, false_and, and_false, or_false, false_or, true_or, or_true]
    exact go M2 _ _ NN
theorem B_pass (h : LI L xs G0 j M) (hL : L ≤ 3072) (hj : 6 * j + 6 ≤ L) (go : ∀ M' z5 z6, LI L xs G0 (j + 1) M' → bw 101 279 98 ([some (.ref 900000), some (.ref 0), some (.ref 86), some (.ref 100), some (.int (nN (6 * j))), z5, z6], [], M') Q) : bw 101 279 21 ([some (.ref 900000), some (.ref 0), some (.ref 86), some (.ref 100), some (.int (nN (6 * j))), z5, z6], [], M) Q := by
  have hI := h
  obtain ⟨⟨a, ak, img, n, b, fl, S⟩, ⟨h1, h2⟩, h3, h4, h5⟩ := h
  have l1 : 6 * j + 1 < L := by omega
  have l2 : 6 * j + 2 < L := by omega
  have l3 : 6 * j + 3 < L := by omega
  have l4 : 6 * j + 4 < L := by omega
  have l5 : 6 * j + 5 < L := by omega
  have s0 := S.ci.sh.k0
  rw [e_279_21]
  simp (disch := omega) only [q_aload1, q_aload1N, q_aload0, q_aload0N, q_iload4, q_iconst, q_iadd, q_iald, q_aload3, q_aload3N, q_invs4_22, q_istore5, q_aload2, q_aload2N, q_invv2, inv_1, q_istore6, q_invv0, q_iload5, q_ic_eq, q_zret, e_279_21, L_0, L_1, L_2, k_some, k_none, pRm_i, pRm_r, pRm_0, pF_1, pF_2, inv_s, h4, h5, l1, l2, l3, l4, l5, pIn_n, pIx_n, nN_add, eq_self, Nat.reduceLT, Bool.false_eq_true, Nat.add_zero, Nat.zero_add, Nat.reduceAdd, Nat.reduceMul, Nat.reduceSub, Nat.zero_le, Nat.reduceLeDiff, Nat.reduceEqDiff, Nat.le_refl, not_false_eq_true, not_true_eq_false, false_implies, true_implies, forall_const, true_and, and_true, if_true, if_false, implies_true, and_self, ne_eq, false_and, and_false, or_false, false_or, true_or, or_true]
  obtain ⟨k, v, a', ak', img', n', b', fl', C, T, G⟩ := P_pass (x := xs (6 * j + 1)) (y := xs (6 * j + 2)) S
  refine mw_mono (mw_bm (X_pass s0 h3 C) S.bm) ?_
  rintro _ M1 ⟨⟨rfl, kb, hv, c, q⟩, B1⟩
  have m1 := S.mi.mf q.1
  have t0 : gS M1 86 = (12, 0) := m1.mr.1.k0
  have t4 : gS M1 900000 = (103, L) := by rw [q.1.2.2 900000 (Or.inr (by omega))]; exact h4
  have t5 : ∀ k, gI M1 900000 k = xs k := fun k => by rw [q.1.1 _ _ (Or.inr rfl)]; exact h5 k
  simp (disch := omega) only [q_aload1, q_aload1N, q_aload0, q_aload0N, q_iload4, q_iconst, q_iadd, q_iald, q_aload3, q_aload3N, q_invs4_22, q_istore5, q_aload2, q_aload2N, q_invv2, inv_1, q_istore6, q_invv0, q_iload5, q_ic_eq, q_zret, e_279_21, L_0, L_1, L_2, k_some, k_none, pRm_i, pRm_r, pRm_0, pF_1, pF_2, inv_s, t0, t4, t5, l1, l2, l3, l4, l5, pIn_n, pIx_n, nN_add, eq_self, Nat.reduceLT, Bool.false_eq_true, Nat.add_zero, Nat.zero_add, Nat.reduceAdd, Nat.reduceMul, Nat.reduceSub, Nat.zero_le, Nat.reduceLeDiff, Nat.reduceEqDiff, Nat.le_refl, not_false_eq_true, not_true_eq_false, false_implies, true_implies, forall_const, true_and, and_true, if_true, if_false, implies_true, and_self, ne_eq, false_and, and_false, or_false, false_or, true_or, or_true]
  refine mw_mono (mw_bm (T M1 m1 B1) B1) ?_
  rintro o M2 ⟨⟨⟨⟨w, rfl, hw⟩, th⟩, m2, A2⟩, B2⟩
  have u0 : gS M2 86 = (12, 0) := m2.mr.1.k0
  have NN := LI.next hI (by omega) c q B1 m2 A2 B2 G
  simp (disch := omega) only [q_aload1, q_aload1N, q_aload0, q_aload0N, q_iload4, q_iconst, q_iadd, q_iald, q_aload3, q_aload3N, q_invs4_22, q_istore5, q_aload2, q_aload2N, q_invv2, inv_1, q_istore6, q_invv0, q_iload5, q_ic_eq, q_zret, e_279_21, L_0, L_1, L_2, k_some, k_none, pRm_i, pRm_r, pRm_0, pF_1, pF_2, inv_s, m_51, q_aload0, q_aload0N, q_get_i, pTag_1, pRf_s, q_iret, e_51_0, u0, th, eq_self, Nat.reduceLT, Bool.false_eq_true, Nat.add_zero, Nat.zero_add, Nat.reduceAdd, Nat.reduceMul, Nat.reduceSub, Nat.zero_le, Nat.reduceLeDiff, Nat.reduceEqDiff, Nat.le_refl, not_false_eq_true, not_true_eq_false, false_implies, true_implies, forall_const, true_and, and_true, if_true, if_false, implies_true, and_self, ne_eq, false_and, and_false, or_false, false_or, true_or, or_true]
  rw [e_279_22]
  by_cases k0 : k = 0
  · subst k0
    have hv := hv rfl
    have hw := hw rfl
    subst hw
    have u3 : gS M2 100 = (101, 1) := NN.2.2.1
    have gj : gJ M2 100 0 = w.toInt64 := by rw [A2.J]; exact hv
    simp (disch := omega) only [q_iload5, q_if_ne, q_aload3, q_aload3N, q_iconst, q_lald, q_iload6, q_i2l, q_lcmp, q_if_eq, q_zret, q_goto, e_279_22, e_279_23, L_0, u3, gj, lg_self, pIn_n, pIx_n, nN_le, nN_lt, nN_eq, nN_add, nN_mul, nN_lt0, nN_ge0, nN_gt0, nN_le0, nN_eq0, nN_eq1, nN_neN, pIn_n, pIx_n, eq_self, Nat.reduceLT, Bool.false_eq_true, Nat.add_zero, Nat.zero_add, Nat.reduceAdd, Nat.reduceMul, Nat.reduceSub, Nat.zero_le, Nat.reduceLeDiff, Nat.reduceEqDiff, Nat.le_refl, not_false_eq_true, not_true_eq_false, false_implies, true_implies, forall_const, true_and, and_true, if_true, if_false, implies_true, and_self, ne_eq, false_and, and_false, or_false, false_or, true_or, or_true]
    exact go M2 _ _ NN
  · have k1 : ¬ nN k = 0 := by rw [nN_eq0 (by omega)]; exact k0
    simp (disch := omega) only [q_iload5, q_if_ne, q_aload3, q_aload3N, q_iconst, q_lald, q_iload6, q_i2l, q_lcmp, q_if_eq, q_zret, q_goto, e_279_22, e_279_23, L_0, k1, eq_self, Nat.reduceLT, Bool.false_eq_true, Nat.add_zero, Nat.zero_add, Nat.reduceAdd, Nat.reduceMul, Nat.reduceSub, Nat.zero_le, Nat.reduceLeDiff, Nat.reduceEqDiff, Nat.le_refl, not_false_eq_true, not_true_eq_false, false_implies, true_implies, forall_const, true_and, and_true, if_true, if_false, implies_true, and_self, ne_eq, false_and, and_false, or_false, false_or, true_or, or_true]
    exact go M2 _ _ NN
theorem B_call (h : LI L xs G0 j M) (hL : L ≤ 3072) (hj : 6 * j + 6 ≤ L) (go : ∀ M' z5 z6, LI L xs G0 (j + 1) M' → bw 101 279 98 ([some (.ref 900000), some (.ref 0), some (.ref 86), some (.ref 100), some (.int (nN (6 * j))), z5, z6], [], M') Q) : bw 101 279 24 ([some (.ref 900000), some (.ref 0), some (.ref 86), some (.ref 100), some (.int (nN (6 * j))), z5, z6], [], M) Q := by
  have hI := h
  obtain ⟨⟨a, ak, img, n, b, fl, S⟩, ⟨h1, h2⟩, h3, h4, h5⟩ := h
  have l1 : 6 * j + 1 < L := by omega
  have l2 : 6 * j + 2 < L := by omega
  have l3 : 6 * j + 3 < L := by omega
  have l4 : 6 * j + 4 < L := by omega
  have l5 : 6 * j + 5 < L := by omega
  have s0 := S.ci.sh.k0
  rw [e_279_24]
  simp (disch := omega) only [q_aload1, q_aload1N, q_aload0, q_aload0N, q_iload4, q_iconst, q_iadd, q_iald, q_aload3, q_aload3N, q_invs3_22, q_istore5, q_aload2, q_aload2N, q_invv1, inv_1, q_istore6, q_invv0, q_iload5, q_ic_eq, q_zret, e_279_24, L_0, L_1, k_some, k_none, pRm_i, pRm_r, pRm_0, pF_1, pF_2, inv_s, h4, h5, l1, l2, l3, l4, l5, pIn_n, pIx_n, nN_add, eq_self, Nat.reduceLT, Bool.false_eq_true, Nat.add_zero, Nat.zero_add, Nat.reduceAdd, Nat.reduceMul, Nat.reduceSub, Nat.zero_le, Nat.reduceLeDiff, Nat.reduceEqDiff, Nat.le_refl, not_false_eq_true, not_true_eq_false, false_implies, true_implies, forall_const, true_and, and_true, if_true, if_false, implies_true, and_self, ne_eq, false_and, and_false, or_false, false_or, true_or, or_true]
  obtain ⟨k, v, a', ak', img', n', b', fl', C, T, G⟩ := P_call (x := xs (6 * j + 1)) S
  refine mw_mono (mw_bm (X_call s0 h3 C) S.bm) ?_
  rintro _ M1 ⟨⟨rfl, kb, hv, c, q⟩, B1⟩
  have m1 := S.mi.mf q.1
  have t0 : gS M1 86 = (12, 0) := m1.mr.1.k0
  have t4 : gS M1 900000 = (103, L) := by rw [q.1.2.2 900000 (Or.inr (by omega))]; exact h4
  have t5 : ∀ k, gI M1 900000 k = xs k := fun k => by rw [q.1.1 _ _ (Or.inr rfl)]; exact h5 k
  simp (disch := omega) only [q_aload1, q_aload1N, q_aload0, q_aload0N, q_iload4, q_iconst, q_iadd, q_iald, q_aload3, q_aload3N, q_invs3_22, q_istore5, q_aload2, q_aload2N, q_invv1, inv_1, q_istore6, q_invv0, q_iload5, q_ic_eq, q_zret, e_279_24, L_0, L_1, k_some, k_none, pRm_i, pRm_r, pRm_0, pF_1, pF_2, inv_s, t0, t4, t5, l1, l2, l3, l4, l5, pIn_n, pIx_n, nN_add, eq_self, Nat.reduceLT, Bool.false_eq_true, Nat.add_zero, Nat.zero_add, Nat.reduceAdd, Nat.reduceMul, Nat.reduceSub, Nat.zero_le, Nat.reduceLeDiff, Nat.reduceEqDiff, Nat.le_refl, not_false_eq_true, not_true_eq_false, false_implies, true_implies, forall_const, true_and, and_true, if_true, if_false, implies_true, and_self, ne_eq, false_and, and_false, or_false, false_or, true_or, or_true]
  refine mw_mono (mw_bm (T M1 m1 B1) B1) ?_
  rintro o M2 ⟨⟨⟨⟨w, rfl, hw⟩, th⟩, m2, A2⟩, B2⟩
  have u0 : gS M2 86 = (12, 0) := m2.mr.1.k0
  have NN := LI.next hI (by omega) c q B1 m2 A2 B2 G
  simp (disch := omega) only [q_aload1, q_aload1N, q_aload0, q_aload0N, q_iload4, q_iconst, q_iadd, q_iald, q_aload3, q_aload3N, q_invs3_22, q_istore5, q_aload2, q_aload2N, q_invv1, inv_1, q_istore6, q_invv0, q_iload5, q_ic_eq, q_zret, e_279_24, L_0, L_1, k_some, k_none, pRm_i, pRm_r, pRm_0, pF_1, pF_2, inv_s, m_51, q_aload0, q_aload0N, q_get_i, pTag_1, pRf_s, q_iret, e_51_0, u0, th, eq_self, Nat.reduceLT, Bool.false_eq_true, Nat.add_zero, Nat.zero_add, Nat.reduceAdd, Nat.reduceMul, Nat.reduceSub, Nat.zero_le, Nat.reduceLeDiff, Nat.reduceEqDiff, Nat.le_refl, not_false_eq_true, not_true_eq_false, false_implies, true_implies, forall_const, true_and, and_true, if_true, if_false, implies_true, and_self, ne_eq, false_and, and_false, or_false, false_or, true_or, or_true]
  rw [e_279_25]
  by_cases k0 : k = 0
  · subst k0
    have hv := hv rfl
    have hw := hw rfl
    subst hw
    have u3 : gS M2 100 = (101, 1) := NN.2.2.1
    have gj : gJ M2 100 0 = w.toInt64 := by rw [A2.J]; exact hv
    simp (disch := omega) only [q_iload5, q_if_ne, q_aload3, q_aload3N, q_iconst, q_lald, q_iload6, q_i2l, q_lcmp, q_if_eq, q_zret, q_goto, e_279_25, e_279_26, L_0, u3, gj, lg_self, pIn_n, pIx_n, nN_le, nN_lt, nN_eq, nN_add, nN_mul, nN_lt0, nN_ge0, nN_gt0, nN_le0, nN_eq0, nN_eq1, nN_neN, pIn_n, pIx_n, eq_self, Nat.reduceLT, Bool.false_eq_true, Nat.add_zero, Nat.zero_add, Nat.reduceAdd, Nat.reduceMul, Nat.reduceSub, Nat.zero_le, Nat.reduceLeDiff, Nat.reduceEqDiff, Nat.le_refl, not_false_eq_true, not_true_eq_false, false_implies, true_implies, forall_const, true_and, and_true, if_true, if_false, implies_true, and_self, ne_eq, false_and, and_false, or_false, false_or, true_or, or_true]
    exact go M2 _ _ NN
  · have k1 : ¬ nN k = 0 := by rw [nN_eq0 (by omega)]; exact k0
    simp (disch := omega) only [q_iload5, q_if_ne, q_aload3, q_aload3N, q_iconst, q_lald, q_iload6, q_i2l, q_lcmp, q_if_eq, q_zret, q_goto, e_279_25, e_279_26, L_0, k1, eq_self, Nat.reduceLT, Bool.false_eq_true, Nat.add_zero, Nat.zero_add, Nat.reduceAdd, Nat.reduceMul, Nat.reduceSub, Nat.zero_le, Nat.reduceLeDiff, Nat.reduceEqDiff, Nat.le_refl, not_false_eq_true, not_true_eq_false, false_implies, true_implies, forall_const, true_and, and_true, if_true, if_false, implies_true, and_self, ne_eq, false_and, and_false, or_false, false_or, true_or, or_true]
    exact go M2 _ _ NN
theorem B_days (h : LI L xs G0 j M) (hL : L ≤ 3072) (hj : 6 * j + 6 ≤ L) (go : ∀ M' z5 z6, LI L xs G0 (j + 1) M' → bw 101 279 98 ([some (.ref 900000), some (.ref 0), some (.ref 86), some (.ref 100), some (.int (nN (6 * j))), z5, z6], [], M') Q) : bw 101 279 27 ([some (.ref 900000), some (.ref 0), some (.ref 86), some (.ref 100), some (.int (nN (6 * j))), z5, z6], [], M) Q := by
  have hI := h
  obtain ⟨⟨a, ak, img, n, b, fl, S⟩, ⟨h1, h2⟩, h3, h4, h5⟩ := h
  have l1 : 6 * j + 1 < L := by omega
  have l2 : 6 * j + 2 < L := by omega
  have l3 : 6 * j + 3 < L := by omega
  have l4 : 6 * j + 4 < L := by omega
  have l5 : 6 * j + 5 < L := by omega
  have s0 := S.ci.sh.k0
  rw [e_279_27]
  simp (disch := omega) only [q_aload1, q_aload1N, q_aload0, q_aload0N, q_iload4, q_iconst, q_iadd, q_iald, q_aload3, q_aload3N, q_invs3_22, q_istore5, q_aload2, q_aload2N, q_invv1, inv_1, q_istore6, q_invv0, q_iload5, q_ic_eq, q_zret, e_279_27, L_0, L_1, k_some, k_none, pRm_i, pRm_r, pRm_0, pF_1, pF_2, inv_s, h4, h5, l1, l2, l3, l4, l5, pIn_n, pIx_n, nN_add, eq_self, Nat.reduceLT, Bool.false_eq_true, Nat.add_zero, Nat.zero_add, Nat.reduceAdd, Nat.reduceMul, Nat.reduceSub, Nat.zero_le, Nat.reduceLeDiff, Nat.reduceEqDiff, Nat.le_refl, not_false_eq_true, not_true_eq_false, false_implies, true_implies, forall_const, true_and, and_true, if_true, if_false, implies_true, and_self, ne_eq, false_and, and_false, or_false, false_or, true_or, or_true]
  obtain ⟨k, v, a', ak', img', n', b', fl', C, T, G⟩ := P_days (x := xs (6 * j + 1)) S
  refine mw_mono (mw_bm (X_days s0 h3 C) S.bm) ?_
  rintro _ M1 ⟨⟨rfl, kb, hv, c, q⟩, B1⟩
  have m1 := S.mi.mf q.1
  have t0 : gS M1 86 = (12, 0) := m1.mr.1.k0
  have t4 : gS M1 900000 = (103, L) := by rw [q.1.2.2 900000 (Or.inr (by omega))]; exact h4
  have t5 : ∀ k, gI M1 900000 k = xs k := fun k => by rw [q.1.1 _ _ (Or.inr rfl)]; exact h5 k
  simp (disch := omega) only [q_aload1, q_aload1N, q_aload0, q_aload0N, q_iload4, q_iconst, q_iadd, q_iald, q_aload3, q_aload3N, q_invs3_22, q_istore5, q_aload2, q_aload2N, q_invv1, inv_1, q_istore6, q_invv0, q_iload5, q_ic_eq, q_zret, e_279_27, L_0, L_1, k_some, k_none, pRm_i, pRm_r, pRm_0, pF_1, pF_2, inv_s, t0, t4, t5, l1, l2, l3, l4, l5, pIn_n, pIx_n, nN_add, eq_self, Nat.reduceLT, Bool.false_eq_true, Nat.add_zero, Nat.zero_add, Nat.reduceAdd, Nat.reduceMul, Nat.reduceSub, Nat.zero_le, Nat.reduceLeDiff, Nat.reduceEqDiff, Nat.le_refl, not_false_eq_true, not_true_eq_false, false_implies, true_implies, forall_const, true_and, and_true, if_true, if_false, implies_true, and_self, ne_eq, false_and, and_false, or_false, false_or, true_or, or_true]
  refine mw_mono (mw_bm (T M1 m1 B1) B1) ?_
  rintro o M2 ⟨⟨⟨⟨w, rfl, hw⟩, th⟩, m2, A2⟩, B2⟩
  have u0 : gS M2 86 = (12, 0) := m2.mr.1.k0
  have NN := LI.next hI (by omega) c q B1 m2 A2 B2 G
  simp (disch := omega) only [q_aload1, q_aload1N, q_aload0, q_aload0N, q_iload4, q_iconst, q_iadd, q_iald, q_aload3, q_aload3N, q_invs3_22, q_istore5, q_aload2, q_aload2N, q_invv1, inv_1, q_istore6, q_invv0, q_iload5, q_ic_eq, q_zret, e_279_27, L_0, L_1, k_some, k_none, pRm_i, pRm_r, pRm_0, pF_1, pF_2, inv_s, m_51, q_aload0, q_aload0N, q_get_i, pTag_1, pRf_s, q_iret, e_51_0, u0, th, eq_self, Nat.reduceLT, Bool.false_eq_true, Nat.add_zero, Nat.zero_add, Nat.reduceAdd, Nat.reduceMul, Nat.reduceSub, Nat.zero_le, Nat.reduceLeDiff, Nat.reduceEqDiff, Nat.le_refl, not_false_eq_true, not_true_eq_false, false_implies, true_implies, forall_const, true_and, and_true, if_true, if_false, implies_true, and_self, ne_eq, false_and, and_false, or_false, false_or, true_or, or_true]
  rw [e_279_28]
  by_cases k0 : k = 0
  · subst k0
    have hv := hv rfl
    have hw := hw rfl
    subst hw
    have u3 : gS M2 100 = (101, 1) := NN.2.2.1
    have gj : gJ M2 100 0 = w.toInt64 := by rw [A2.J]; exact hv
    simp (disch := omega) only [q_iload5, q_if_ne, q_aload3, q_aload3N, q_iconst, q_lald, q_iload6, q_i2l, q_lcmp, q_if_eq, q_zret, q_goto, e_279_28, e_279_29, L_0, u3, gj, lg_self, pIn_n, pIx_n, nN_le, nN_lt, nN_eq, nN_add, nN_mul, nN_lt0, nN_ge0, nN_gt0, nN_le0, nN_eq0, nN_eq1, nN_neN, pIn_n, pIx_n, eq_self, Nat.reduceLT, Bool.false_eq_true, Nat.add_zero, Nat.zero_add, Nat.reduceAdd, Nat.reduceMul, Nat.reduceSub, Nat.zero_le, Nat.reduceLeDiff, Nat.reduceEqDiff, Nat.le_refl, not_false_eq_true, not_true_eq_false, false_implies, true_implies, forall_const, true_and, and_true, if_true, if_false, implies_true, and_self, ne_eq, false_and, and_false, or_false, false_or, true_or, or_true]
    exact go M2 _ _ NN
  · have k1 : ¬ nN k = 0 := by rw [nN_eq0 (by omega)]; exact k0
    simp (disch := omega) only [q_iload5, q_if_ne, q_aload3, q_aload3N, q_iconst, q_lald, q_iload6, q_i2l, q_lcmp, q_if_eq, q_zret, q_goto, e_279_28, e_279_29, L_0, k1, eq_self, Nat.reduceLT, Bool.false_eq_true, Nat.add_zero, Nat.zero_add, Nat.reduceAdd, Nat.reduceMul, Nat.reduceSub, Nat.zero_le, Nat.reduceLeDiff, Nat.reduceEqDiff, Nat.le_refl, not_false_eq_true, not_true_eq_false, false_implies, true_implies, forall_const, true_and, and_true, if_true, if_false, implies_true, and_self, ne_eq, false_and, and_false, or_false, false_or, true_or, or_true]
    exact go M2 _ _ NN
theorem B_look (h : LI L xs G0 j M) (hL : L ≤ 3072) (hj : 6 * j + 6 ≤ L) (go : ∀ M' z5 z6, LI L xs G0 (j + 1) M' → bw 101 279 98 ([some (.ref 900000), some (.ref 0), some (.ref 86), some (.ref 100), some (.int (nN (6 * j))), z5, z6], [], M') Q) : bw 101 279 30 ([some (.ref 900000), some (.ref 0), some (.ref 86), some (.ref 100), some (.int (nN (6 * j))), z5, z6], [], M) Q := by
  have hI := h
  obtain ⟨⟨a, ak, img, n, b, fl, S⟩, ⟨h1, h2⟩, h3, h4, h5⟩ := h
  have l1 : 6 * j + 1 < L := by omega
  have l2 : 6 * j + 2 < L := by omega
  have l3 : 6 * j + 3 < L := by omega
  have l4 : 6 * j + 4 < L := by omega
  have l5 : 6 * j + 5 < L := by omega
  have s0 := S.ci.sh.k0
  rw [e_279_30]
  simp (disch := omega) only [q_aload1, q_aload1N, q_aload0, q_aload0N, q_iload4, q_iconst, q_iadd, q_iald, q_aload3, q_aload3N, q_invs4_22, q_istore5, q_aload2, q_aload2N, q_invv2, inv_1, q_istore6, q_invv0, q_iload5, q_ic_eq, q_zret, e_279_30, L_0, L_1, L_2, k_some, k_none, pRm_i, pRm_r, pRm_0, pF_1, pF_2, inv_s, h4, h5, l1, l2, l3, l4, l5, pIn_n, pIx_n, nN_add, eq_self, Nat.reduceLT, Bool.false_eq_true, Nat.add_zero, Nat.zero_add, Nat.reduceAdd, Nat.reduceMul, Nat.reduceSub, Nat.zero_le, Nat.reduceLeDiff, Nat.reduceEqDiff, Nat.le_refl, not_false_eq_true, not_true_eq_false, false_implies, true_implies, forall_const, true_and, and_true, if_true, if_false, implies_true, and_self, ne_eq, false_and, and_false, or_false, false_or, true_or, or_true]
  obtain ⟨k, v, a', ak', img', n', b', fl', C, T, G⟩ := P_look (x := xs (6 * j + 1)) (y := xs (6 * j + 2)) S
  refine mw_mono (mw_bm (X_look s0 h3 C) S.bm) ?_
  rintro _ M1 ⟨⟨rfl, kb, hv, c, q⟩, B1⟩
  have m1 := S.mi.mf q.1
  have t0 : gS M1 86 = (12, 0) := m1.mr.1.k0
  have t4 : gS M1 900000 = (103, L) := by rw [q.1.2.2 900000 (Or.inr (by omega))]; exact h4
  have t5 : ∀ k, gI M1 900000 k = xs k := fun k => by rw [q.1.1 _ _ (Or.inr rfl)]; exact h5 k
  simp (disch := omega) only [q_aload1, q_aload1N, q_aload0, q_aload0N, q_iload4, q_iconst, q_iadd, q_iald, q_aload3, q_aload3N, q_invs4_22, q_istore5, q_aload2, q_aload2N, q_invv2, inv_1, q_istore6, q_invv0, q_iload5, q_ic_eq, q_zret, e_279_30, L_0, L_1, L_2, k_some, k_none, pRm_i, pRm_r, pRm_0, pF_1, pF_2, inv_s, t0, t4, t5, l1, l2, l3, l4, l5, pIn_n, pIx_n, nN_add, eq_self, Nat.reduceLT, Bool.false_eq_true, Nat.add_zero, Nat.zero_add, Nat.reduceAdd, Nat.reduceMul, Nat.reduceSub, Nat.zero_le, Nat.reduceLeDiff, Nat.reduceEqDiff, Nat.le_refl, not_false_eq_true, not_true_eq_false, false_implies, true_implies, forall_const, true_and, and_true, if_true, if_false, implies_true, and_self, ne_eq, false_and, and_false, or_false, false_or, true_or, or_true]
  refine mw_mono (mw_bm (T M1 m1 B1) B1) ?_
  rintro o M2 ⟨⟨⟨⟨w, rfl, hw⟩, th⟩, m2, A2⟩, B2⟩
  have u0 : gS M2 86 = (12, 0) := m2.mr.1.k0
  have NN := LI.next hI (by omega) c q B1 m2 A2 B2 G
  simp (disch := omega) only [q_aload1, q_aload1N, q_aload0, q_aload0N, q_iload4, q_iconst, q_iadd, q_iald, q_aload3, q_aload3N, q_invs4_22, q_istore5, q_aload2, q_aload2N, q_invv2, inv_1, q_istore6, q_invv0, q_iload5, q_ic_eq, q_zret, e_279_30, L_0, L_1, L_2, k_some, k_none, pRm_i, pRm_r, pRm_0, pF_1, pF_2, inv_s, m_51, q_aload0, q_aload0N, q_get_i, pTag_1, pRf_s, q_iret, e_51_0, u0, th, eq_self, Nat.reduceLT, Bool.false_eq_true, Nat.add_zero, Nat.zero_add, Nat.reduceAdd, Nat.reduceMul, Nat.reduceSub, Nat.zero_le, Nat.reduceLeDiff, Nat.reduceEqDiff, Nat.le_refl, not_false_eq_true, not_true_eq_false, false_implies, true_implies, forall_const, true_and, and_true, if_true, if_false, implies_true, and_self, ne_eq, false_and, and_false, or_false, false_or, true_or, or_true]
  rw [e_279_31]
  by_cases k0 : k = 0
  · subst k0
    have hv := hv rfl
    have hw := hw rfl
    subst hw
    have u3 : gS M2 100 = (101, 1) := NN.2.2.1
    have gj : gJ M2 100 0 = w.toInt64 := by rw [A2.J]; exact hv
    simp (disch := omega) only [q_iload5, q_if_ne, q_aload3, q_aload3N, q_iconst, q_lald, q_iload6, q_i2l, q_lcmp, q_if_eq, q_zret, q_goto, e_279_31, e_279_32, L_0, u3, gj, lg_self, pIn_n, pIx_n, nN_le, nN_lt, nN_eq, nN_add, nN_mul, nN_lt0, nN_ge0, nN_gt0, nN_le0, nN_eq0, nN_eq1, nN_neN, pIn_n, pIx_n, eq_self, Nat.reduceLT, Bool.false_eq_true, Nat.add_zero, Nat.zero_add, Nat.reduceAdd, Nat.reduceMul, Nat.reduceSub, Nat.zero_le, Nat.reduceLeDiff, Nat.reduceEqDiff, Nat.le_refl, not_false_eq_true, not_true_eq_false, false_implies, true_implies, forall_const, true_and, and_true, if_true, if_false, implies_true, and_self, ne_eq, false_and, and_false, or_false, false_or, true_or, or_true]
    exact go M2 _ _ NN
  · have k1 : ¬ nN k = 0 := by rw [nN_eq0 (by omega)]; exact k0
    simp (disch := omega) only [q_iload5, q_if_ne, q_aload3, q_aload3N, q_iconst, q_lald, q_iload6, q_i2l, q_lcmp, q_if_eq, q_zret, q_goto, e_279_31, e_279_32, L_0, k1, eq_self, Nat.reduceLT, Bool.false_eq_true, Nat.add_zero, Nat.zero_add, Nat.reduceAdd, Nat.reduceMul, Nat.reduceSub, Nat.zero_le, Nat.reduceLeDiff, Nat.reduceEqDiff, Nat.le_refl, not_false_eq_true, not_true_eq_false, false_implies, true_implies, forall_const, true_and, and_true, if_true, if_false, implies_true, and_self, ne_eq, false_and, and_false, or_false, false_or, true_or, or_true]
    exact go M2 _ _ NN
theorem B_hand (h : LI L xs G0 j M) (hL : L ≤ 3072) (hj : 6 * j + 6 ≤ L) (go : ∀ M' z5 z6, LI L xs G0 (j + 1) M' → bw 101 279 98 ([some (.ref 900000), some (.ref 0), some (.ref 86), some (.ref 100), some (.int (nN (6 * j))), z5, z6], [], M') Q) : bw 101 279 33 ([some (.ref 900000), some (.ref 0), some (.ref 86), some (.ref 100), some (.int (nN (6 * j))), z5, z6], [], M) Q := by
  have hI := h
  obtain ⟨⟨a, ak, img, n, b, fl, S⟩, ⟨h1, h2⟩, h3, h4, h5⟩ := h
  have l1 : 6 * j + 1 < L := by omega
  have l2 : 6 * j + 2 < L := by omega
  have l3 : 6 * j + 3 < L := by omega
  have l4 : 6 * j + 4 < L := by omega
  have l5 : 6 * j + 5 < L := by omega
  have s0 := S.ci.sh.k0
  rw [e_279_33]
  simp (disch := omega) only [q_aload1, q_aload1N, q_aload0, q_aload0N, q_iload4, q_iconst, q_iadd, q_iald, q_aload3, q_aload3N, q_invs4_22, q_istore5, q_aload2, q_aload2N, q_invv2, inv_1, q_istore6, q_invv0, q_iload5, q_ic_eq, q_zret, e_279_33, L_0, L_1, L_2, k_some, k_none, pRm_i, pRm_r, pRm_0, pF_1, pF_2, inv_s, h4, h5, l1, l2, l3, l4, l5, pIn_n, pIx_n, nN_add, eq_self, Nat.reduceLT, Bool.false_eq_true, Nat.add_zero, Nat.zero_add, Nat.reduceAdd, Nat.reduceMul, Nat.reduceSub, Nat.zero_le, Nat.reduceLeDiff, Nat.reduceEqDiff, Nat.le_refl, not_false_eq_true, not_true_eq_false, false_implies, true_implies, forall_const, true_and, and_true, if_true, if_false, implies_true, and_self, ne_eq, false_and, and_false, or_false, false_or, true_or, or_true]
  obtain ⟨k, v, a', ak', img', n', b', fl', C, T, G⟩ := P_hand (x := xs (6 * j + 1)) (y := xs (6 * j + 2)) S
  refine mw_mono (mw_bm (X_hand s0 h3 C) S.bm) ?_
  rintro _ M1 ⟨⟨rfl, kb, hv, c, q⟩, B1⟩
  have m1 := S.mi.mf q.1
  have t0 : gS M1 86 = (12, 0) := m1.mr.1.k0
  have t4 : gS M1 900000 = (103, L) := by rw [q.1.2.2 900000 (Or.inr (by omega))]; exact h4
  have t5 : ∀ k, gI M1 900000 k = xs k := fun k => by rw [q.1.1 _ _ (Or.inr rfl)]; exact h5 k
  simp (disch := omega) only [q_aload1, q_aload1N, q_aload0, q_aload0N, q_iload4, q_iconst, q_iadd, q_iald, q_aload3, q_aload3N, q_invs4_22, q_istore5, q_aload2, q_aload2N, q_invv2, inv_1, q_istore6, q_invv0, q_iload5, q_ic_eq, q_zret, e_279_33, L_0, L_1, L_2, k_some, k_none, pRm_i, pRm_r, pRm_0, pF_1, pF_2, inv_s, t0, t4, t5, l1, l2, l3, l4, l5, pIn_n, pIx_n, nN_add, eq_self, Nat.reduceLT, Bool.false_eq_true, Nat.add_zero, Nat.zero_add, Nat.reduceAdd, Nat.reduceMul, Nat.reduceSub, Nat.zero_le, Nat.reduceLeDiff, Nat.reduceEqDiff, Nat.le_refl, not_false_eq_true, not_true_eq_false, false_implies, true_implies, forall_const, true_and, and_true, if_true, if_false, implies_true, and_self, ne_eq, false_and, and_false, or_false, false_or, true_or, or_true]
  refine mw_mono (mw_bm (T M1 m1 B1) B1) ?_
  rintro o M2 ⟨⟨⟨⟨w, rfl, hw⟩, th⟩, m2, A2⟩, B2⟩
  have u0 : gS M2 86 = (12, 0) := m2.mr.1.k0
  have NN := LI.next hI (by omega) c q B1 m2 A2 B2 G
  simp (disch := omega) only [q_aload1, q_aload1N, q_aload0, q_aload0N, q_iload4, q_iconst, q_iadd, q_iald, q_aload3, q_aload3N, q_invs4_22, q_istore5, q_aload2, q_aload2N, q_invv2, inv_1, q_istore6, q_invv0, q_iload5, q_ic_eq, q_zret, e_279_33, L_0, L_1, L_2, k_some, k_none, pRm_i, pRm_r, pRm_0, pF_1, pF_2, inv_s, m_51, q_aload0, q_aload0N, q_get_i, pTag_1, pRf_s, q_iret, e_51_0, u0, th, eq_self, Nat.reduceLT, Bool.false_eq_true, Nat.add_zero, Nat.zero_add, Nat.reduceAdd, Nat.reduceMul, Nat.reduceSub, Nat.zero_le, Nat.reduceLeDiff, Nat.reduceEqDiff, Nat.le_refl, not_false_eq_true, not_true_eq_false, false_implies, true_implies, forall_const, true_and, and_true, if_true, if_false, implies_true, and_self, ne_eq, false_and, and_false, or_false, false_or, true_or, or_true]
  rw [e_279_34]
  by_cases k0 : k = 0
  · subst k0
    have hv := hv rfl
    have hw := hw rfl
    subst hw
    have u3 : gS M2 100 = (101, 1) := NN.2.2.1
    have gj : gJ M2 100 0 = w.toInt64 := by rw [A2.J]; exact hv
    simp (disch := omega) only [q_iload5, q_if_ne, q_aload3, q_aload3N, q_iconst, q_lald, q_iload6, q_i2l, q_lcmp, q_if_eq, q_zret, q_goto, e_279_34, e_279_35, L_0, u3, gj, lg_self, pIn_n, pIx_n, nN_le, nN_lt, nN_eq, nN_add, nN_mul, nN_lt0, nN_ge0, nN_gt0, nN_le0, nN_eq0, nN_eq1, nN_neN, pIn_n, pIx_n, eq_self, Nat.reduceLT, Bool.false_eq_true, Nat.add_zero, Nat.zero_add, Nat.reduceAdd, Nat.reduceMul, Nat.reduceSub, Nat.zero_le, Nat.reduceLeDiff, Nat.reduceEqDiff, Nat.le_refl, not_false_eq_true, not_true_eq_false, false_implies, true_implies, forall_const, true_and, and_true, if_true, if_false, implies_true, and_self, ne_eq, false_and, and_false, or_false, false_or, true_or, or_true]
    exact go M2 _ _ NN
  · have k1 : ¬ nN k = 0 := by rw [nN_eq0 (by omega)]; exact k0
    simp (disch := omega) only [q_iload5, q_if_ne, q_aload3, q_aload3N, q_iconst, q_lald, q_iload6, q_i2l, q_lcmp, q_if_eq, q_zret, q_goto, e_279_34, e_279_35, L_0, k1, eq_self, Nat.reduceLT, Bool.false_eq_true, Nat.add_zero, Nat.zero_add, Nat.reduceAdd, Nat.reduceMul, Nat.reduceSub, Nat.zero_le, Nat.reduceLeDiff, Nat.reduceEqDiff, Nat.le_refl, not_false_eq_true, not_true_eq_false, false_implies, true_implies, forall_const, true_and, and_true, if_true, if_false, implies_true, and_self, ne_eq, false_and, and_false, or_false, false_or, true_or, or_true]
    exact go M2 _ _ NN
theorem B_rich (h : LI L xs G0 j M) (hL : L ≤ 3072) (hj : 6 * j + 6 ≤ L) (go : ∀ M' z5 z6, LI L xs G0 (j + 1) M' → bw 101 279 98 ([some (.ref 900000), some (.ref 0), some (.ref 86), some (.ref 100), some (.int (nN (6 * j))), z5, z6], [], M') Q) : bw 101 279 41 ([some (.ref 900000), some (.ref 0), some (.ref 86), some (.ref 100), some (.int (nN (6 * j))), z5, z6], [], M) Q := by
  have hI := h
  obtain ⟨⟨a, ak, img, n, b, fl, S⟩, ⟨h1, h2⟩, h3, h4, h5⟩ := h
  have l1 : 6 * j + 1 < L := by omega
  have l2 : 6 * j + 2 < L := by omega
  have l3 : 6 * j + 3 < L := by omega
  have l4 : 6 * j + 4 < L := by omega
  have l5 : 6 * j + 5 < L := by omega
  have s0 := S.ci.sh.k0
  rw [e_279_41]
  simp (disch := omega) only [q_aload1, q_aload1N, q_aload0, q_aload0N, q_iload4, q_iconst, q_iadd, q_iald, q_aload3, q_aload3N, q_invs3_22, q_istore5, q_aload2, q_aload2N, q_invv1, inv_1, q_istore6, q_invv0, q_iload5, q_ic_eq, q_zret, e_279_41, L_0, L_1, k_some, k_none, pRm_i, pRm_r, pRm_0, pF_1, pF_2, inv_s, h4, h5, l1, l2, l3, l4, l5, pIn_n, pIx_n, nN_add, eq_self, Nat.reduceLT, Bool.false_eq_true, Nat.add_zero, Nat.zero_add, Nat.reduceAdd, Nat.reduceMul, Nat.reduceSub, Nat.zero_le, Nat.reduceLeDiff, Nat.reduceEqDiff, Nat.le_refl, not_false_eq_true, not_true_eq_false, false_implies, true_implies, forall_const, true_and, and_true, if_true, if_false, implies_true, and_self, ne_eq, false_and, and_false, or_false, false_or, true_or, or_true]
  obtain ⟨k, v, a', ak', img', n', b', fl', C, T, G⟩ := P_rich (x := xs (6 * j + 1)) S
  refine mw_mono (mw_bm (X_rich s0 h3 C) S.bm) ?_
  rintro _ M1 ⟨⟨rfl, kb, hv, c, q⟩, B1⟩
  have m1 := S.mi.mf q.1
  have t0 : gS M1 86 = (12, 0) := m1.mr.1.k0
  have t4 : gS M1 900000 = (103, L) := by rw [q.1.2.2 900000 (Or.inr (by omega))]; exact h4
  have t5 : ∀ k, gI M1 900000 k = xs k := fun k => by rw [q.1.1 _ _ (Or.inr rfl)]; exact h5 k
  simp (disch := omega) only [q_aload1, q_aload1N, q_aload0, q_aload0N, q_iload4, q_iconst, q_iadd, q_iald, q_aload3, q_aload3N, q_invs3_22, q_istore5, q_aload2, q_aload2N, q_invv1, inv_1, q_istore6, q_invv0, q_iload5, q_ic_eq, q_zret, e_279_41, L_0, L_1, k_some, k_none, pRm_i, pRm_r, pRm_0, pF_1, pF_2, inv_s, t0, t4, t5, l1, l2, l3, l4, l5, pIn_n, pIx_n, nN_add, eq_self, Nat.reduceLT, Bool.false_eq_true, Nat.add_zero, Nat.zero_add, Nat.reduceAdd, Nat.reduceMul, Nat.reduceSub, Nat.zero_le, Nat.reduceLeDiff, Nat.reduceEqDiff, Nat.le_refl, not_false_eq_true, not_true_eq_false, false_implies, true_implies, forall_const, true_and, and_true, if_true, if_false, implies_true, and_self, ne_eq, false_and, and_false, or_false, false_or, true_or, or_true]
  refine mw_mono (mw_bm (T M1 m1 B1) B1) ?_
  rintro o M2 ⟨⟨⟨⟨w, rfl, hw⟩, th⟩, m2, A2⟩, B2⟩
  have u0 : gS M2 86 = (12, 0) := m2.mr.1.k0
  have NN := LI.next hI (by omega) c q B1 m2 A2 B2 G
  simp (disch := omega) only [q_aload1, q_aload1N, q_aload0, q_aload0N, q_iload4, q_iconst, q_iadd, q_iald, q_aload3, q_aload3N, q_invs3_22, q_istore5, q_aload2, q_aload2N, q_invv1, inv_1, q_istore6, q_invv0, q_iload5, q_ic_eq, q_zret, e_279_41, L_0, L_1, k_some, k_none, pRm_i, pRm_r, pRm_0, pF_1, pF_2, inv_s, m_51, q_aload0, q_aload0N, q_get_i, pTag_1, pRf_s, q_iret, e_51_0, u0, th, eq_self, Nat.reduceLT, Bool.false_eq_true, Nat.add_zero, Nat.zero_add, Nat.reduceAdd, Nat.reduceMul, Nat.reduceSub, Nat.zero_le, Nat.reduceLeDiff, Nat.reduceEqDiff, Nat.le_refl, not_false_eq_true, not_true_eq_false, false_implies, true_implies, forall_const, true_and, and_true, if_true, if_false, implies_true, and_self, ne_eq, false_and, and_false, or_false, false_or, true_or, or_true]
  rw [e_279_42]
  by_cases k0 : k = 0
  · subst k0
    have hv := hv rfl
    have hw := hw rfl
    subst hw
    have u3 : gS M2 100 = (101, 1) := NN.2.2.1
    have gj : gJ M2 100 0 = w.toInt64 := by rw [A2.J]; exact hv
    simp (disch := omega) only [q_iload5, q_if_ne, q_aload3, q_aload3N, q_iconst, q_lald, q_iload6, q_i2l, q_lcmp, q_if_eq, q_zret, q_goto, e_279_42, e_279_43, L_0, u3, gj, lg_self, pIn_n, pIx_n, nN_le, nN_lt, nN_eq, nN_add, nN_mul, nN_lt0, nN_ge0, nN_gt0, nN_le0, nN_eq0, nN_eq1, nN_neN, pIn_n, pIx_n, eq_self, Nat.reduceLT, Bool.false_eq_true, Nat.add_zero, Nat.zero_add, Nat.reduceAdd, Nat.reduceMul, Nat.reduceSub, Nat.zero_le, Nat.reduceLeDiff, Nat.reduceEqDiff, Nat.le_refl, not_false_eq_true, not_true_eq_false, false_implies, true_implies, forall_const, true_and, and_true, if_true, if_false, implies_true, and_self, ne_eq, false_and, and_false, or_false, false_or, true_or, or_true]
    exact go M2 _ _ NN
  · have k1 : ¬ nN k = 0 := by rw [nN_eq0 (by omega)]; exact k0
    simp (disch := omega) only [q_iload5, q_if_ne, q_aload3, q_aload3N, q_iconst, q_lald, q_iload6, q_i2l, q_lcmp, q_if_eq, q_zret, q_goto, e_279_42, e_279_43, L_0, k1, eq_self, Nat.reduceLT, Bool.false_eq_true, Nat.add_zero, Nat.zero_add, Nat.reduceAdd, Nat.reduceMul, Nat.reduceSub, Nat.zero_le, Nat.reduceLeDiff, Nat.reduceEqDiff, Nat.le_refl, not_false_eq_true, not_true_eq_false, false_implies, true_implies, forall_const, true_and, and_true, if_true, if_false, implies_true, and_self, ne_eq, false_and, and_false, or_false, false_or, true_or, or_true]
    exact go M2 _ _ NN
theorem B_debt (h : LI L xs G0 j M) (hL : L ≤ 3072) (hj : 6 * j + 6 ≤ L) (go : ∀ M' z5 z6, LI L xs G0 (j + 1) M' → bw 101 279 98 ([some (.ref 900000), some (.ref 0), some (.ref 86), some (.ref 100), some (.int (nN (6 * j))), z5, z6], [], M') Q) : bw 101 279 44 ([some (.ref 900000), some (.ref 0), some (.ref 86), some (.ref 100), some (.int (nN (6 * j))), z5, z6], [], M) Q := by
  have hI := h
  obtain ⟨⟨a, ak, img, n, b, fl, S⟩, ⟨h1, h2⟩, h3, h4, h5⟩ := h
  have l1 : 6 * j + 1 < L := by omega
  have l2 : 6 * j + 2 < L := by omega
  have l3 : 6 * j + 3 < L := by omega
  have l4 : 6 * j + 4 < L := by omega
  have l5 : 6 * j + 5 < L := by omega
  have s0 := S.ci.sh.k0
  rw [e_279_44]
  simp (disch := omega) only [q_aload1, q_aload1N, q_aload0, q_aload0N, q_iload4, q_iconst, q_iadd, q_iald, q_aload3, q_aload3N, q_invs3_22, q_istore5, q_aload2, q_aload2N, q_invv1, inv_1, q_istore6, q_invv0, q_iload5, q_ic_eq, q_zret, e_279_44, L_0, L_1, k_some, k_none, pRm_i, pRm_r, pRm_0, pF_1, pF_2, inv_s, h4, h5, l1, l2, l3, l4, l5, pIn_n, pIx_n, nN_add, eq_self, Nat.reduceLT, Bool.false_eq_true, Nat.add_zero, Nat.zero_add, Nat.reduceAdd, Nat.reduceMul, Nat.reduceSub, Nat.zero_le, Nat.reduceLeDiff, Nat.reduceEqDiff, Nat.le_refl, not_false_eq_true, not_true_eq_false, false_implies, true_implies, forall_const, true_and, and_true, if_true, if_false, implies_true, and_self, ne_eq, false_and, and_false, or_false, false_or, true_or, or_true]
  obtain ⟨k, v, a', ak', img', n', b', fl', C, T, G⟩ := P_debt (x := xs (6 * j + 1)) S
  refine mw_mono (mw_bm (X_debt s0 h3 C) S.bm) ?_
  rintro _ M1 ⟨⟨rfl, kb, hv, c, q⟩, B1⟩
  have m1 := S.mi.mf q.1
  have t0 : gS M1 86 = (12, 0) := m1.mr.1.k0
  have t4 : gS M1 900000 = (103, L) := by rw [q.1.2.2 900000 (Or.inr (by omega))]; exact h4
  have t5 : ∀ k, gI M1 900000 k = xs k := fun k => by rw [q.1.1 _ _ (Or.inr rfl)]; exact h5 k
  simp (disch := omega) only [q_aload1, q_aload1N, q_aload0, q_aload0N, q_iload4, q_iconst, q_iadd, q_iald, q_aload3, q_aload3N, q_invs3_22, q_istore5, q_aload2, q_aload2N, q_invv1, inv_1, q_istore6, q_invv0, q_iload5, q_ic_eq, q_zret, e_279_44, L_0, L_1, k_some, k_none, pRm_i, pRm_r, pRm_0, pF_1, pF_2, inv_s, t0, t4, t5, l1, l2, l3, l4, l5, pIn_n, pIx_n, nN_add, eq_self, Nat.reduceLT, Bool.false_eq_true, Nat.add_zero, Nat.zero_add, Nat.reduceAdd, Nat.reduceMul, Nat.reduceSub, Nat.zero_le, Nat.reduceLeDiff, Nat.reduceEqDiff, Nat.le_refl, not_false_eq_true, not_true_eq_false, false_implies, true_implies, forall_const, true_and, and_true, if_true, if_false, implies_true, and_self, ne_eq, false_and, and_false, or_false, false_or, true_or, or_true]
  refine mw_mono (mw_bm (T M1 m1 B1) B1) ?_
  rintro o M2 ⟨⟨⟨⟨w, rfl, hw⟩, th⟩, m2, A2⟩, B2⟩
  have u0 : gS M2 86 = (12, 0) := m2.mr.1.k0
  have NN := LI.next hI (by omega) c q B1 m2 A2 B2 G
  simp (disch := omega) only [q_aload1, q_aload1N, q_aload0, q_aload0N, q_iload4, q_iconst, q_iadd, q_iald, q_aload3, q_aload3N, q_invs3_22, q_istore5, q_aload2, q_aload2N, q_invv1, inv_1, q_istore6, q_invv0, q_iload5, q_ic_eq, q_zret, e_279_44, L_0, L_1, k_some, k_none, pRm_i, pRm_r, pRm_0, pF_1, pF_2, inv_s, m_51, q_aload0, q_aload0N, q_get_i, pTag_1, pRf_s, q_iret, e_51_0, u0, th, eq_self, Nat.reduceLT, Bool.false_eq_true, Nat.add_zero, Nat.zero_add, Nat.reduceAdd, Nat.reduceMul, Nat.reduceSub, Nat.zero_le, Nat.reduceLeDiff, Nat.reduceEqDiff, Nat.le_refl, not_false_eq_true, not_true_eq_false, false_implies, true_implies, forall_const, true_and, and_true, if_true, if_false, implies_true, and_self, ne_eq, false_and, and_false, or_false, false_or, true_or, or_true]
  rw [e_279_45]
  by_cases k0 : k = 0
  · subst k0
    have hv := hv rfl
    have hw := hw rfl
    subst hw
    have u3 : gS M2 100 = (101, 1) := NN.2.2.1
    have gj : gJ M2 100 0 = w.toInt64 := by rw [A2.J]; exact hv
    simp (disch := omega) only [q_iload5, q_if_ne, q_aload3, q_aload3N, q_iconst, q_lald, q_iload6, q_i2l, q_lcmp, q_if_eq, q_zret, q_goto, e_279_45, e_279_46, L_0, u3, gj, lg_self, pIn_n, pIx_n, nN_le, nN_lt, nN_eq, nN_add, nN_mul, nN_lt0, nN_ge0, nN_gt0, nN_le0, nN_eq0, nN_eq1, nN_neN, pIn_n, pIx_n, eq_self, Nat.reduceLT, Bool.false_eq_true, Nat.add_zero, Nat.zero_add, Nat.reduceAdd, Nat.reduceMul, Nat.reduceSub, Nat.zero_le, Nat.reduceLeDiff, Nat.reduceEqDiff, Nat.le_refl, not_false_eq_true, not_true_eq_false, false_implies, true_implies, forall_const, true_and, and_true, if_true, if_false, implies_true, and_self, ne_eq, false_and, and_false, or_false, false_or, true_or, or_true]
    exact go M2 _ _ NN
  · have k1 : ¬ nN k = 0 := by rw [nN_eq0 (by omega)]; exact k0
    simp (disch := omega) only [q_iload5, q_if_ne, q_aload3, q_aload3N, q_iconst, q_lald, q_iload6, q_i2l, q_lcmp, q_if_eq, q_zret, q_goto, e_279_45, e_279_46, L_0, k1, eq_self, Nat.reduceLT, Bool.false_eq_true, Nat.add_zero, Nat.zero_add, Nat.reduceAdd, Nat.reduceMul, Nat.reduceSub, Nat.zero_le, Nat.reduceLeDiff, Nat.reduceEqDiff, Nat.le_refl, not_false_eq_true, not_true_eq_false, false_implies, true_implies, forall_const, true_and, and_true, if_true, if_false, implies_true, and_self, ne_eq, false_and, and_false, or_false, false_or, true_or, or_true]
    exact go M2 _ _ NN
theorem B_owes (h : LI L xs G0 j M) (hL : L ≤ 3072) (hj : 6 * j + 6 ≤ L) (go : ∀ M' z5 z6, LI L xs G0 (j + 1) M' → bw 101 279 98 ([some (.ref 900000), some (.ref 0), some (.ref 86), some (.ref 100), some (.int (nN (6 * j))), z5, z6], [], M') Q) : bw 101 279 47 ([some (.ref 900000), some (.ref 0), some (.ref 86), some (.ref 100), some (.int (nN (6 * j))), z5, z6], [], M) Q := by
  have hI := h
  obtain ⟨⟨a, ak, img, n, b, fl, S⟩, ⟨h1, h2⟩, h3, h4, h5⟩ := h
  have l1 : 6 * j + 1 < L := by omega
  have l2 : 6 * j + 2 < L := by omega
  have l3 : 6 * j + 3 < L := by omega
  have l4 : 6 * j + 4 < L := by omega
  have l5 : 6 * j + 5 < L := by omega
  have s0 := S.ci.sh.k0
  rw [e_279_47]
  simp (disch := omega) only [q_aload1, q_aload1N, q_aload0, q_aload0N, q_iload4, q_iconst, q_iadd, q_iald, q_aload3, q_aload3N, q_invs4_22, q_istore5, q_aload2, q_aload2N, q_invv2, inv_1, q_istore6, q_invv0, q_iload5, q_ic_eq, q_zret, e_279_47, L_0, L_1, L_2, k_some, k_none, pRm_i, pRm_r, pRm_0, pF_1, pF_2, inv_s, h4, h5, l1, l2, l3, l4, l5, pIn_n, pIx_n, nN_add, eq_self, Nat.reduceLT, Bool.false_eq_true, Nat.add_zero, Nat.zero_add, Nat.reduceAdd, Nat.reduceMul, Nat.reduceSub, Nat.zero_le, Nat.reduceLeDiff, Nat.reduceEqDiff, Nat.le_refl, not_false_eq_true, not_true_eq_false, false_implies, true_implies, forall_const, true_and, and_true, if_true, if_false, implies_true, and_self, ne_eq, false_and, and_false, or_false, false_or, true_or, or_true]
  obtain ⟨k, v, a', ak', img', n', b', fl', C, T, G⟩ := P_owes (x := xs (6 * j + 1)) (y := xs (6 * j + 2)) S
  refine mw_mono (mw_bm (X_owes s0 h3 C) S.bm) ?_
  rintro _ M1 ⟨⟨rfl, kb, hv, c, q⟩, B1⟩
  have m1 := S.mi.mf q.1
  have t0 : gS M1 86 = (12, 0) := m1.mr.1.k0
  have t4 : gS M1 900000 = (103, L) := by rw [q.1.2.2 900000 (Or.inr (by omega))]; exact h4
  have t5 : ∀ k, gI M1 900000 k = xs k := fun k => by rw [q.1.1 _ _ (Or.inr rfl)]; exact h5 k
  simp (disch := omega) only [q_aload1, q_aload1N, q_aload0, q_aload0N, q_iload4, q_iconst, q_iadd, q_iald, q_aload3, q_aload3N, q_invs4_22, q_istore5, q_aload2, q_aload2N, q_invv2, inv_1, q_istore6, q_invv0, q_iload5, q_ic_eq, q_zret, e_279_47, L_0, L_1, L_2, k_some, k_none, pRm_i, pRm_r, pRm_0, pF_1, pF_2, inv_s, t0, t4, t5, l1, l2, l3, l4, l5, pIn_n, pIx_n, nN_add, eq_self, Nat.reduceLT, Bool.false_eq_true, Nat.add_zero, Nat.zero_add, Nat.reduceAdd, Nat.reduceMul, Nat.reduceSub, Nat.zero_le, Nat.reduceLeDiff, Nat.reduceEqDiff, Nat.le_refl, not_false_eq_true, not_true_eq_false, false_implies, true_implies, forall_const, true_and, and_true, if_true, if_false, implies_true, and_self, ne_eq, false_and, and_false, or_false, false_or, true_or, or_true]
  refine mw_mono (mw_bm (T M1 m1 B1) B1) ?_
  rintro o M2 ⟨⟨⟨⟨w, rfl, hw⟩, th⟩, m2, A2⟩, B2⟩
  have u0 : gS M2 86 = (12, 0) := m2.mr.1.k0
  have NN := LI.next hI (by omega) c q B1 m2 A2 B2 G
  simp (disch := omega) only [q_aload1, q_aload1N, q_aload0, q_aload0N, q_iload4, q_iconst, q_iadd, q_iald, q_aload3, q_aload3N, q_invs4_22, q_istore5, q_aload2, q_aload2N, q_invv2, inv_1, q_istore6, q_invv0, q_iload5, q_ic_eq, q_zret, e_279_47, L_0, L_1, L_2, k_some, k_none, pRm_i, pRm_r, pRm_0, pF_1, pF_2, inv_s, m_51, q_aload0, q_aload0N, q_get_i, pTag_1, pRf_s, q_iret, e_51_0, u0, th, eq_self, Nat.reduceLT, Bool.false_eq_true, Nat.add_zero, Nat.zero_add, Nat.reduceAdd, Nat.reduceMul, Nat.reduceSub, Nat.zero_le, Nat.reduceLeDiff, Nat.reduceEqDiff, Nat.le_refl, not_false_eq_true, not_true_eq_false, false_implies, true_implies, forall_const, true_and, and_true, if_true, if_false, implies_true, and_self, ne_eq, false_and, and_false, or_false, false_or, true_or, or_true]
  rw [e_279_48]
  by_cases k0 : k = 0
  · subst k0
    have hv := hv rfl
    have hw := hw rfl
    subst hw
    have u3 : gS M2 100 = (101, 1) := NN.2.2.1
    have gj : gJ M2 100 0 = w.toInt64 := by rw [A2.J]; exact hv
    simp (disch := omega) only [q_iload5, q_if_ne, q_aload3, q_aload3N, q_iconst, q_lald, q_iload6, q_i2l, q_lcmp, q_if_eq, q_zret, q_goto, e_279_48, e_279_49, L_0, u3, gj, lg_self, pIn_n, pIx_n, nN_le, nN_lt, nN_eq, nN_add, nN_mul, nN_lt0, nN_ge0, nN_gt0, nN_le0, nN_eq0, nN_eq1, nN_neN, pIn_n, pIx_n, eq_self, Nat.reduceLT, Bool.false_eq_true, Nat.add_zero, Nat.zero_add, Nat.reduceAdd, Nat.reduceMul, Nat.reduceSub, Nat.zero_le, Nat.reduceLeDiff, Nat.reduceEqDiff, Nat.le_refl, not_false_eq_true, not_true_eq_false, false_implies, true_implies, forall_const, true_and, and_true, if_true, if_false, implies_true, and_self, ne_eq, false_and, and_false, or_false, false_or, true_or, or_true]
    exact go M2 _ _ NN
  · have k1 : ¬ nN k = 0 := by rw [nN_eq0 (by omega)]; exact k0
    simp (disch := omega) only [q_iload5, q_if_ne, q_aload3, q_aload3N, q_iconst, q_lald, q_iload6, q_i2l, q_lcmp, q_if_eq, q_zret, q_goto, e_279_48, e_279_49, L_0, k1, eq_self, Nat.reduceLT, Bool.false_eq_true, Nat.add_zero, Nat.zero_add, Nat.reduceAdd, Nat.reduceMul, Nat.reduceSub, Nat.zero_le, Nat.reduceLeDiff, Nat.reduceEqDiff, Nat.le_refl, not_false_eq_true, not_true_eq_false, false_implies, true_implies, forall_const, true_and, and_true, if_true, if_false, implies_true, and_self, ne_eq, false_and, and_false, or_false, false_or, true_or, or_true]
    exact go M2 _ _ NN
theorem B_pays (h : LI L xs G0 j M) (hL : L ≤ 3072) (hj : 6 * j + 6 ≤ L) (go : ∀ M' z5 z6, LI L xs G0 (j + 1) M' → bw 101 279 98 ([some (.ref 900000), some (.ref 0), some (.ref 86), some (.ref 100), some (.int (nN (6 * j))), z5, z6], [], M') Q) : bw 101 279 50 ([some (.ref 900000), some (.ref 0), some (.ref 86), some (.ref 100), some (.int (nN (6 * j))), z5, z6], [], M) Q := by
  have hI := h
  obtain ⟨⟨a, ak, img, n, b, fl, S⟩, ⟨h1, h2⟩, h3, h4, h5⟩ := h
  have l1 : 6 * j + 1 < L := by omega
  have l2 : 6 * j + 2 < L := by omega
  have l3 : 6 * j + 3 < L := by omega
  have l4 : 6 * j + 4 < L := by omega
  have l5 : 6 * j + 5 < L := by omega
  have s0 := S.ci.sh.k0
  rw [e_279_50]
  simp (disch := omega) only [q_aload1, q_aload1N, q_aload0, q_aload0N, q_iload4, q_iconst, q_iadd, q_iald, q_aload3, q_aload3N, q_invs5_22, q_istore5, q_aload2, q_aload2N, q_invv3, inv_1, q_istore6, q_invv0, q_iload5, q_ic_eq, q_zret, e_279_50, L_0, L_1, L_2, L_3, k_some, k_none, pRm_i, pRm_r, pRm_0, pF_1, pF_2, inv_s, h4, h5, l1, l2, l3, l4, l5, pIn_n, pIx_n, nN_add, eq_self, Nat.reduceLT, Bool.false_eq_true, Nat.add_zero, Nat.zero_add, Nat.reduceAdd, Nat.reduceMul, Nat.reduceSub, Nat.zero_le, Nat.reduceLeDiff, Nat.reduceEqDiff, Nat.le_refl, not_false_eq_true, not_true_eq_false, false_implies, true_implies, forall_const, true_and, and_true, if_true, if_false, implies_true, and_self, ne_eq, false_and, and_false, or_false, false_or, true_or, or_true]
  obtain ⟨k, v, a', ak', img', n', b', fl', C, T, G⟩ := P_pays (x := xs (6 * j + 1)) (y := xs (6 * j + 2)) (z := xs (6 * j + 3)) S
  refine mw_mono (mw_bm (X_pays s0 h3 C) S.bm) ?_
  rintro _ M1 ⟨⟨rfl, kb, hv, c, q⟩, B1⟩
  have m1 := S.mi.mf q.1
  have t0 : gS M1 86 = (12, 0) := m1.mr.1.k0
  have t4 : gS M1 900000 = (103, L) := by rw [q.1.2.2 900000 (Or.inr (by omega))]; exact h4
  have t5 : ∀ k, gI M1 900000 k = xs k := fun k => by rw [q.1.1 _ _ (Or.inr rfl)]; exact h5 k
  simp (disch := omega) only [q_aload1, q_aload1N, q_aload0, q_aload0N, q_iload4, q_iconst, q_iadd, q_iald, q_aload3, q_aload3N, q_invs5_22, q_istore5, q_aload2, q_aload2N, q_invv3, inv_1, q_istore6, q_invv0, q_iload5, q_ic_eq, q_zret, e_279_50, L_0, L_1, L_2, L_3, k_some, k_none, pRm_i, pRm_r, pRm_0, pF_1, pF_2, inv_s, t0, t4, t5, l1, l2, l3, l4, l5, pIn_n, pIx_n, nN_add, eq_self, Nat.reduceLT, Bool.false_eq_true, Nat.add_zero, Nat.zero_add, Nat.reduceAdd, Nat.reduceMul, Nat.reduceSub, Nat.zero_le, Nat.reduceLeDiff, Nat.reduceEqDiff, Nat.le_refl, not_false_eq_true, not_true_eq_false, false_implies, true_implies, forall_const, true_and, and_true, if_true, if_false, implies_true, and_self, ne_eq, false_and, and_false, or_false, false_or, true_or, or_true]
  refine mw_mono (mw_bm (T M1 m1 B1) B1) ?_
  rintro o M2 ⟨⟨⟨⟨w, rfl, hw⟩, th⟩, m2, A2⟩, B2⟩
  have u0 : gS M2 86 = (12, 0) := m2.mr.1.k0
  have NN := LI.next hI (by omega) c q B1 m2 A2 B2 G
  simp (disch := omega) only [q_aload1, q_aload1N, q_aload0, q_aload0N, q_iload4, q_iconst, q_iadd, q_iald, q_aload3, q_aload3N, q_invs5_22, q_istore5, q_aload2, q_aload2N, q_invv3, inv_1, q_istore6, q_invv0, q_iload5, q_ic_eq, q_zret, e_279_50, L_0, L_1, L_2, L_3, k_some, k_none, pRm_i, pRm_r, pRm_0, pF_1, pF_2, inv_s, m_51, q_aload0, q_aload0N, q_get_i, pTag_1, pRf_s, q_iret, e_51_0, u0, th, eq_self, Nat.reduceLT, Bool.false_eq_true, Nat.add_zero, Nat.zero_add, Nat.reduceAdd, Nat.reduceMul, Nat.reduceSub, Nat.zero_le, Nat.reduceLeDiff, Nat.reduceEqDiff, Nat.le_refl, not_false_eq_true, not_true_eq_false, false_implies, true_implies, forall_const, true_and, and_true, if_true, if_false, implies_true, and_self, ne_eq, false_and, and_false, or_false, false_or, true_or, or_true]
  rw [e_279_51]
  by_cases k0 : k = 0
  · subst k0
    have hv := hv rfl
    have hw := hw rfl
    subst hw
    have u3 : gS M2 100 = (101, 1) := NN.2.2.1
    have gj : gJ M2 100 0 = w.toInt64 := by rw [A2.J]; exact hv
    simp (disch := omega) only [q_iload5, q_if_ne, q_aload3, q_aload3N, q_iconst, q_lald, q_iload6, q_i2l, q_lcmp, q_if_eq, q_zret, q_goto, e_279_51, e_279_52, L_0, u3, gj, lg_self, pIn_n, pIx_n, nN_le, nN_lt, nN_eq, nN_add, nN_mul, nN_lt0, nN_ge0, nN_gt0, nN_le0, nN_eq0, nN_eq1, nN_neN, pIn_n, pIx_n, eq_self, Nat.reduceLT, Bool.false_eq_true, Nat.add_zero, Nat.zero_add, Nat.reduceAdd, Nat.reduceMul, Nat.reduceSub, Nat.zero_le, Nat.reduceLeDiff, Nat.reduceEqDiff, Nat.le_refl, not_false_eq_true, not_true_eq_false, false_implies, true_implies, forall_const, true_and, and_true, if_true, if_false, implies_true, and_self, ne_eq, false_and, and_false, or_false, false_or, true_or, or_true]
    exact go M2 _ _ NN
  · have k1 : ¬ nN k = 0 := by rw [nN_eq0 (by omega)]; exact k0
    simp (disch := omega) only [q_iload5, q_if_ne, q_aload3, q_aload3N, q_iconst, q_lald, q_iload6, q_i2l, q_lcmp, q_if_eq, q_zret, q_goto, e_279_51, e_279_52, L_0, k1, eq_self, Nat.reduceLT, Bool.false_eq_true, Nat.add_zero, Nat.zero_add, Nat.reduceAdd, Nat.reduceMul, Nat.reduceSub, Nat.zero_le, Nat.reduceLeDiff, Nat.reduceEqDiff, Nat.le_refl, not_false_eq_true, not_true_eq_false, false_implies, true_implies, forall_const, true_and, and_true, if_true, if_false, implies_true, and_self, ne_eq, false_and, and_false, or_false, false_or, true_or, or_true]
    exact go M2 _ _ NN
theorem B_meet (h : LI L xs G0 j M) (hL : L ≤ 3072) (hj : 6 * j + 6 ≤ L) (go : ∀ M' z5 z6, LI L xs G0 (j + 1) M' → bw 101 279 98 ([some (.ref 900000), some (.ref 0), some (.ref 86), some (.ref 100), some (.int (nN (6 * j))), z5, z6], [], M') Q) : bw 101 279 58 ([some (.ref 900000), some (.ref 0), some (.ref 86), some (.ref 100), some (.int (nN (6 * j))), z5, z6], [], M) Q := by
  have hI := h
  obtain ⟨⟨a, ak, img, n, b, fl, S⟩, ⟨h1, h2⟩, h3, h4, h5⟩ := h
  have l1 : 6 * j + 1 < L := by omega
  have l2 : 6 * j + 2 < L := by omega
  have l3 : 6 * j + 3 < L := by omega
  have l4 : 6 * j + 4 < L := by omega
  have l5 : 6 * j + 5 < L := by omega
  have s0 := S.ci.sh.k0
  rw [e_279_58]
  simp (disch := omega) only [q_aload1, q_aload1N, q_aload0, q_aload0N, q_iload4, q_iconst, q_iadd, q_iald, q_aload3, q_aload3N, q_invs3_22, q_istore5, q_aload2, q_aload2N, q_invv1, inv_1, q_istore6, q_invv0, q_iload5, q_ic_eq, q_zret, e_279_58, L_0, L_1, k_some, k_none, pRm_i, pRm_r, pRm_0, pF_1, pF_2, inv_s, h4, h5, l1, l2, l3, l4, l5, pIn_n, pIx_n, nN_add, eq_self, Nat.reduceLT, Bool.false_eq_true, Nat.add_zero, Nat.zero_add, Nat.reduceAdd, Nat.reduceMul, Nat.reduceSub, Nat.zero_le, Nat.reduceLeDiff, Nat.reduceEqDiff, Nat.le_refl, not_false_eq_true, not_true_eq_false, false_implies, true_implies, forall_const, true_and, and_true, if_true, if_false, implies_true, and_self, ne_eq, false_and, and_false, or_false, false_or, true_or, or_true]
  obtain ⟨k, v, a', ak', img', n', b', fl', C, T, G⟩ := P_meet (x := xs (6 * j + 1)) S
  refine mw_mono (mw_bm (X_meet s0 h3 C) S.bm) ?_
  rintro _ M1 ⟨⟨rfl, kb, hv, c, q⟩, B1⟩
  have m1 := S.mi.mf q.1
  have t0 : gS M1 86 = (12, 0) := m1.mr.1.k0
  have t4 : gS M1 900000 = (103, L) := by rw [q.1.2.2 900000 (Or.inr (by omega))]; exact h4
  have t5 : ∀ k, gI M1 900000 k = xs k := fun k => by rw [q.1.1 _ _ (Or.inr rfl)]; exact h5 k
  simp (disch := omega) only [q_aload1, q_aload1N, q_aload0, q_aload0N, q_iload4, q_iconst, q_iadd, q_iald, q_aload3, q_aload3N, q_invs3_22, q_istore5, q_aload2, q_aload2N, q_invv1, inv_1, q_istore6, q_invv0, q_iload5, q_ic_eq, q_zret, e_279_58, L_0, L_1, k_some, k_none, pRm_i, pRm_r, pRm_0, pF_1, pF_2, inv_s, t0, t4, t5, l1, l2, l3, l4, l5, pIn_n, pIx_n, nN_add, eq_self, Nat.reduceLT, Bool.false_eq_true, Nat.add_zero, Nat.zero_add, Nat.reduceAdd, Nat.reduceMul, Nat.reduceSub, Nat.zero_le, Nat.reduceLeDiff, Nat.reduceEqDiff, Nat.le_refl, not_false_eq_true, not_true_eq_false, false_implies, true_implies, forall_const, true_and, and_true, if_true, if_false, implies_true, and_self, ne_eq, false_and, and_false, or_false, false_or, true_or, or_true]
  refine mw_mono (mw_bm (T M1 m1 B1) B1) ?_
  rintro o M2 ⟨⟨⟨⟨w, rfl, hw⟩, th⟩, m2, A2⟩, B2⟩
  have u0 : gS M2 86 = (12, 0) := m2.mr.1.k0
  have NN := LI.next hI (by omega) c q B1 m2 A2 B2 G
  simp (disch := omega) only [q_aload1, q_aload1N, q_aload0, q_aload0N, q_iload4, q_iconst, q_iadd, q_iald, q_aload3, q_aload3N, q_invs3_22, q_istore5, q_aload2, q_aload2N, q_invv1, inv_1, q_istore6, q_invv0, q_iload5, q_ic_eq, q_zret, e_279_58, L_0, L_1, k_some, k_none, pRm_i, pRm_r, pRm_0, pF_1, pF_2, inv_s, m_51, q_aload0, q_aload0N, q_get_i, pTag_1, pRf_s, q_iret, e_51_0, u0, th, eq_self, Nat.reduceLT, Bool.false_eq_true, Nat.add_zero, Nat.zero_add, Nat.reduceAdd, Nat.reduceMul, Nat.reduceSub, Nat.zero_le, Nat.reduceLeDiff, Nat.reduceEqDiff, Nat.le_refl, not_false_eq_true, not_true_eq_false, false_implies, true_implies, forall_const, true_and, and_true, if_true, if_false, implies_true, and_self, ne_eq, false_and, and_false, or_false, false_or, true_or, or_true]
  rw [e_279_59]
  by_cases k0 : k = 0
  · subst k0
    have hv := hv rfl
    have hw := hw rfl
    subst hw
    have u3 : gS M2 100 = (101, 1) := NN.2.2.1
    have gj : gJ M2 100 0 = w.toInt64 := by rw [A2.J]; exact hv
    simp (disch := omega) only [q_iload5, q_if_ne, q_aload3, q_aload3N, q_iconst, q_lald, q_iload6, q_i2l, q_lcmp, q_if_eq, q_zret, q_goto, e_279_59, e_279_60, L_0, u3, gj, lg_self, pIn_n, pIx_n, nN_le, nN_lt, nN_eq, nN_add, nN_mul, nN_lt0, nN_ge0, nN_gt0, nN_le0, nN_eq0, nN_eq1, nN_neN, pIn_n, pIx_n, eq_self, Nat.reduceLT, Bool.false_eq_true, Nat.add_zero, Nat.zero_add, Nat.reduceAdd, Nat.reduceMul, Nat.reduceSub, Nat.zero_le, Nat.reduceLeDiff, Nat.reduceEqDiff, Nat.le_refl, not_false_eq_true, not_true_eq_false, false_implies, true_implies, forall_const, true_and, and_true, if_true, if_false, implies_true, and_self, ne_eq, false_and, and_false, or_false, false_or, true_or, or_true]
    exact go M2 _ _ NN
  · have k1 : ¬ nN k = 0 := by rw [nN_eq0 (by omega)]; exact k0
    simp (disch := omega) only [q_iload5, q_if_ne, q_aload3, q_aload3N, q_iconst, q_lald, q_iload6, q_i2l, q_lcmp, q_if_eq, q_zret, q_goto, e_279_59, e_279_60, L_0, k1, eq_self, Nat.reduceLT, Bool.false_eq_true, Nat.add_zero, Nat.zero_add, Nat.reduceAdd, Nat.reduceMul, Nat.reduceSub, Nat.zero_le, Nat.reduceLeDiff, Nat.reduceEqDiff, Nat.le_refl, not_false_eq_true, not_true_eq_false, false_implies, true_implies, forall_const, true_and, and_true, if_true, if_false, implies_true, and_self, ne_eq, false_and, and_false, or_false, false_or, true_or, or_true]
    exact go M2 _ _ NN
theorem B_port (h : LI L xs G0 j M) (hL : L ≤ 3072) (hj : 6 * j + 6 ≤ L) (go : ∀ M' z5 z6, LI L xs G0 (j + 1) M' → bw 101 279 98 ([some (.ref 900000), some (.ref 0), some (.ref 86), some (.ref 100), some (.int (nN (6 * j))), z5, z6], [], M') Q) : bw 101 279 65 ([some (.ref 900000), some (.ref 0), some (.ref 86), some (.ref 100), some (.int (nN (6 * j))), z5, z6], [], M) Q := by
  have hI := h
  obtain ⟨⟨a, ak, img, n, b, fl, S⟩, ⟨h1, h2⟩, h3, h4, h5⟩ := h
  have l1 : 6 * j + 1 < L := by omega
  have l2 : 6 * j + 2 < L := by omega
  have l3 : 6 * j + 3 < L := by omega
  have l4 : 6 * j + 4 < L := by omega
  have l5 : 6 * j + 5 < L := by omega
  have s0 := S.ci.sh.k0
  rw [e_279_65]
  simp (disch := omega) only [q_aload1, q_aload1N, q_aload0, q_aload0N, q_iload4, q_iconst, q_iadd, q_iald, q_aload3, q_aload3N, q_invs4_22, q_istore5, q_aload2, q_aload2N, q_invv2, inv_1, q_istore6, q_invv0, q_iload5, q_ic_eq, q_zret, e_279_65, L_0, L_1, L_2, k_some, k_none, pRm_i, pRm_r, pRm_0, pF_1, pF_2, inv_s, h4, h5, l1, l2, l3, l4, l5, pIn_n, pIx_n, nN_add, eq_self, Nat.reduceLT, Bool.false_eq_true, Nat.add_zero, Nat.zero_add, Nat.reduceAdd, Nat.reduceMul, Nat.reduceSub, Nat.zero_le, Nat.reduceLeDiff, Nat.reduceEqDiff, Nat.le_refl, not_false_eq_true, not_true_eq_false, false_implies, true_implies, forall_const, true_and, and_true, if_true, if_false, implies_true, and_self, ne_eq, false_and, and_false, or_false, false_or, true_or, or_true]
  obtain ⟨k, v, a', ak', img', n', b', fl', C, T, G⟩ := P_port (x := xs (6 * j + 1)) (y := xs (6 * j + 2)) S
  refine mw_mono (mw_bm (X_port s0 h3 C) S.bm) ?_
  rintro _ M1 ⟨⟨rfl, kb, hv, c, q⟩, B1⟩
  have m1 := S.mi.mf q.1
  have t0 : gS M1 86 = (12, 0) := m1.mr.1.k0
  have t4 : gS M1 900000 = (103, L) := by rw [q.1.2.2 900000 (Or.inr (by omega))]; exact h4
  have t5 : ∀ k, gI M1 900000 k = xs k := fun k => by rw [q.1.1 _ _ (Or.inr rfl)]; exact h5 k
  simp (disch := omega) only [q_aload1, q_aload1N, q_aload0, q_aload0N, q_iload4, q_iconst, q_iadd, q_iald, q_aload3, q_aload3N, q_invs4_22, q_istore5, q_aload2, q_aload2N, q_invv2, inv_1, q_istore6, q_invv0, q_iload5, q_ic_eq, q_zret, e_279_65, L_0, L_1, L_2, k_some, k_none, pRm_i, pRm_r, pRm_0, pF_1, pF_2, inv_s, t0, t4, t5, l1, l2, l3, l4, l5, pIn_n, pIx_n, nN_add, eq_self, Nat.reduceLT, Bool.false_eq_true, Nat.add_zero, Nat.zero_add, Nat.reduceAdd, Nat.reduceMul, Nat.reduceSub, Nat.zero_le, Nat.reduceLeDiff, Nat.reduceEqDiff, Nat.le_refl, not_false_eq_true, not_true_eq_false, false_implies, true_implies, forall_const, true_and, and_true, if_true, if_false, implies_true, and_self, ne_eq, false_and, and_false, or_false, false_or, true_or, or_true]
  refine mw_mono (mw_bm (T M1 m1 B1) B1) ?_
  rintro o M2 ⟨⟨⟨⟨w, rfl, hw⟩, th⟩, m2, A2⟩, B2⟩
  have u0 : gS M2 86 = (12, 0) := m2.mr.1.k0
  have NN := LI.next hI (by omega) c q B1 m2 A2 B2 G
  simp (disch := omega) only [q_aload1, q_aload1N, q_aload0, q_aload0N, q_iload4, q_iconst, q_iadd, q_iald, q_aload3, q_aload3N, q_invs4_22, q_istore5, q_aload2, q_aload2N, q_invv2, inv_1, q_istore6, q_invv0, q_iload5, q_ic_eq, q_zret, e_279_65, L_0, L_1, L_2, k_some, k_none, pRm_i, pRm_r, pRm_0, pF_1, pF_2, inv_s, m_51, q_aload0, q_aload0N, q_get_i, pTag_1, pRf_s, q_iret, e_51_0, u0, th, eq_self, Nat.reduceLT, Bool.false_eq_true, Nat.add_zero, Nat.zero_add, Nat.reduceAdd, Nat.reduceMul, Nat.reduceSub, Nat.zero_le, Nat.reduceLeDiff, Nat.reduceEqDiff, Nat.le_refl, not_false_eq_true, not_true_eq_false, false_implies, true_implies, forall_const, true_and, and_true, if_true, if_false, implies_true, and_self, ne_eq, false_and, and_false, or_false, false_or, true_or, or_true]
  rw [e_279_66]
  by_cases k0 : k = 0
  · subst k0
    have hv := hv rfl
    have hw := hw rfl
    subst hw
    have u3 : gS M2 100 = (101, 1) := NN.2.2.1
    have gj : gJ M2 100 0 = w.toInt64 := by rw [A2.J]; exact hv
    simp (disch := omega) only [q_iload5, q_if_ne, q_aload3, q_aload3N, q_iconst, q_lald, q_iload6, q_i2l, q_lcmp, q_if_eq, q_zret, q_goto, e_279_66, e_279_67, L_0, u3, gj, lg_self, pIn_n, pIx_n, nN_le, nN_lt, nN_eq, nN_add, nN_mul, nN_lt0, nN_ge0, nN_gt0, nN_le0, nN_eq0, nN_eq1, nN_neN, pIn_n, pIx_n, eq_self, Nat.reduceLT, Bool.false_eq_true, Nat.add_zero, Nat.zero_add, Nat.reduceAdd, Nat.reduceMul, Nat.reduceSub, Nat.zero_le, Nat.reduceLeDiff, Nat.reduceEqDiff, Nat.le_refl, not_false_eq_true, not_true_eq_false, false_implies, true_implies, forall_const, true_and, and_true, if_true, if_false, implies_true, and_self, ne_eq, false_and, and_false, or_false, false_or, true_or, or_true]
    exact go M2 _ _ NN
  · have k1 : ¬ nN k = 0 := by rw [nN_eq0 (by omega)]; exact k0
    simp (disch := omega) only [q_iload5, q_if_ne, q_aload3, q_aload3N, q_iconst, q_lald, q_iload6, q_i2l, q_lcmp, q_if_eq, q_zret, q_goto, e_279_66, e_279_67, L_0, k1, eq_self, Nat.reduceLT, Bool.false_eq_true, Nat.add_zero, Nat.zero_add, Nat.reduceAdd, Nat.reduceMul, Nat.reduceSub, Nat.zero_le, Nat.reduceLeDiff, Nat.reduceEqDiff, Nat.le_refl, not_false_eq_true, not_true_eq_false, false_implies, true_implies, forall_const, true_and, and_true, if_true, if_false, implies_true, and_self, ne_eq, false_and, and_false, or_false, false_or, true_or, or_true]
    exact go M2 _ _ NN
theorem B_most (h : LI L xs G0 j M) (hL : L ≤ 3072) (hj : 6 * j + 6 ≤ L) (go : ∀ M' z5 z6, LI L xs G0 (j + 1) M' → bw 101 279 98 ([some (.ref 900000), some (.ref 0), some (.ref 86), some (.ref 100), some (.int (nN (6 * j))), z5, z6], [], M') Q) : bw 101 279 68 ([some (.ref 900000), some (.ref 0), some (.ref 86), some (.ref 100), some (.int (nN (6 * j))), z5, z6], [], M) Q := by
  have hI := h
  obtain ⟨⟨a, ak, img, n, b, fl, S⟩, ⟨h1, h2⟩, h3, h4, h5⟩ := h
  have l1 : 6 * j + 1 < L := by omega
  have l2 : 6 * j + 2 < L := by omega
  have l3 : 6 * j + 3 < L := by omega
  have l4 : 6 * j + 4 < L := by omega
  have l5 : 6 * j + 5 < L := by omega
  have s0 := S.ci.sh.k0
  rw [e_279_68]
  simp (disch := omega) only [q_aload1, q_aload1N, q_aload0, q_aload0N, q_iload4, q_iconst, q_iadd, q_iald, q_aload3, q_aload3N, q_invs4_22, q_istore5, q_aload2, q_aload2N, q_invv2, inv_1, q_istore6, q_invv0, q_iload5, q_ic_eq, q_zret, e_279_68, L_0, L_1, L_2, k_some, k_none, pRm_i, pRm_r, pRm_0, pF_1, pF_2, inv_s, h4, h5, l1, l2, l3, l4, l5, pIn_n, pIx_n, nN_add, eq_self, Nat.reduceLT, Bool.false_eq_true, Nat.add_zero, Nat.zero_add, Nat.reduceAdd, Nat.reduceMul, Nat.reduceSub, Nat.zero_le, Nat.reduceLeDiff, Nat.reduceEqDiff, Nat.le_refl, not_false_eq_true, not_true_eq_false, false_implies, true_implies, forall_const, true_and, and_true, if_true, if_false, implies_true, and_self, ne_eq, false_and, and_false, or_false, false_or, true_or, or_true]
  obtain ⟨k, v, a', ak', img', n', b', fl', C, T, G⟩ := P_most (x := xs (6 * j + 1)) (y := xs (6 * j + 2)) S
  refine mw_mono (mw_bm (X_most s0 h3 C) S.bm) ?_
  rintro _ M1 ⟨⟨rfl, kb, hv, c, q⟩, B1⟩
  have m1 := S.mi.mf q.1
  have t0 : gS M1 86 = (12, 0) := m1.mr.1.k0
  have t4 : gS M1 900000 = (103, L) := by rw [q.1.2.2 900000 (Or.inr (by omega))]; exact h4
  have t5 : ∀ k, gI M1 900000 k = xs k := fun k => by rw [q.1.1 _ _ (Or.inr rfl)]; exact h5 k
  simp (disch := omega) only [q_aload1, q_aload1N, q_aload0, q_aload0N, q_iload4, q_iconst, q_iadd, q_iald, q_aload3, q_aload3N, q_invs4_22, q_istore5, q_aload2, q_aload2N, q_invv2, inv_1, q_istore6, q_invv0, q_iload5, q_ic_eq, q_zret, e_279_68, L_0, L_1, L_2, k_some, k_none, pRm_i, pRm_r, pRm_0, pF_1, pF_2, inv_s, t0, t4, t5, l1, l2, l3, l4, l5, pIn_n, pIx_n, nN_add, eq_self, Nat.reduceLT, Bool.false_eq_true, Nat.add_zero, Nat.zero_add, Nat.reduceAdd, Nat.reduceMul, Nat.reduceSub, Nat.zero_le, Nat.reduceLeDiff, Nat.reduceEqDiff, Nat.le_refl, not_false_eq_true, not_true_eq_false, false_implies, true_implies, forall_const, true_and, and_true, if_true, if_false, implies_true, and_self, ne_eq, false_and, and_false, or_false, false_or, true_or, or_true]
  refine mw_mono (mw_bm (T M1 m1 B1) B1) ?_
  rintro o M2 ⟨⟨⟨⟨w, rfl, hw⟩, th⟩, m2, A2⟩, B2⟩
  have u0 : gS M2 86 = (12, 0) := m2.mr.1.k0
  have NN := LI.next hI (by omega) c q B1 m2 A2 B2 G
  simp (disch := omega) only [q_aload1, q_aload1N, q_aload0, q_aload0N, q_iload4, q_iconst, q_iadd, q_iald, q_aload3, q_aload3N, q_invs4_22, q_istore5, q_aload2, q_aload2N, q_invv2, inv_1, q_istore6, q_invv0, q_iload5, q_ic_eq, q_zret, e_279_68, L_0, L_1, L_2, k_some, k_none, pRm_i, pRm_r, pRm_0, pF_1, pF_2, inv_s, m_51, q_aload0, q_aload0N, q_get_i, pTag_1, pRf_s, q_iret, e_51_0, u0, th, eq_self, Nat.reduceLT, Bool.false_eq_true, Nat.add_zero, Nat.zero_add, Nat.reduceAdd, Nat.reduceMul, Nat.reduceSub, Nat.zero_le, Nat.reduceLeDiff, Nat.reduceEqDiff, Nat.le_refl, not_false_eq_true, not_true_eq_false, false_implies, true_implies, forall_const, true_and, and_true, if_true, if_false, implies_true, and_self, ne_eq, false_and, and_false, or_false, false_or, true_or, or_true]
  rw [e_279_69]
  by_cases k0 : k = 0
  · subst k0
    have hv := hv rfl
    have hw := hw rfl
    subst hw
    have u3 : gS M2 100 = (101, 1) := NN.2.2.1
    have gj : gJ M2 100 0 = w.toInt64 := by rw [A2.J]; exact hv
    simp (disch := omega) only [q_iload5, q_if_ne, q_aload3, q_aload3N, q_iconst, q_lald, q_iload6, q_i2l, q_lcmp, q_if_eq, q_zret, q_goto, e_279_69, e_279_70, L_0, u3, gj, lg_self, pIn_n, pIx_n, nN_le, nN_lt, nN_eq, nN_add, nN_mul, nN_lt0, nN_ge0, nN_gt0, nN_le0, nN_eq0, nN_eq1, nN_neN, pIn_n, pIx_n, eq_self, Nat.reduceLT, Bool.false_eq_true, Nat.add_zero, Nat.zero_add, Nat.reduceAdd, Nat.reduceMul, Nat.reduceSub, Nat.zero_le, Nat.reduceLeDiff, Nat.reduceEqDiff, Nat.le_refl, not_false_eq_true, not_true_eq_false, false_implies, true_implies, forall_const, true_and, and_true, if_true, if_false, implies_true, and_self, ne_eq, false_and, and_false, or_false, false_or, true_or, or_true]
    exact go M2 _ _ NN
  · have k1 : ¬ nN k = 0 := by rw [nN_eq0 (by omega)]; exact k0
    simp (disch := omega) only [q_iload5, q_if_ne, q_aload3, q_aload3N, q_iconst, q_lald, q_iload6, q_i2l, q_lcmp, q_if_eq, q_zret, q_goto, e_279_69, e_279_70, L_0, k1, eq_self, Nat.reduceLT, Bool.false_eq_true, Nat.add_zero, Nat.zero_add, Nat.reduceAdd, Nat.reduceMul, Nat.reduceSub, Nat.zero_le, Nat.reduceLeDiff, Nat.reduceEqDiff, Nat.le_refl, not_false_eq_true, not_true_eq_false, false_implies, true_implies, forall_const, true_and, and_true, if_true, if_false, implies_true, and_self, ne_eq, false_and, and_false, or_false, false_or, true_or, or_true]
    exact go M2 _ _ NN
theorem B_cut (h : LI L xs G0 j M) (hL : L ≤ 3072) (hj : 6 * j + 6 ≤ L) (go : ∀ M' z5 z6, LI L xs G0 (j + 1) M' → bw 101 279 98 ([some (.ref 900000), some (.ref 0), some (.ref 86), some (.ref 100), some (.int (nN (6 * j))), z5, z6], [], M') Q) : bw 101 279 71 ([some (.ref 900000), some (.ref 0), some (.ref 86), some (.ref 100), some (.int (nN (6 * j))), z5, z6], [], M) Q := by
  have hI := h
  obtain ⟨⟨a, ak, img, n, b, fl, S⟩, ⟨h1, h2⟩, h3, h4, h5⟩ := h
  have l1 : 6 * j + 1 < L := by omega
  have l2 : 6 * j + 2 < L := by omega
  have l3 : 6 * j + 3 < L := by omega
  have l4 : 6 * j + 4 < L := by omega
  have l5 : 6 * j + 5 < L := by omega
  have s0 := S.ci.sh.k0
  rw [e_279_71]
  simp (disch := omega) only [q_aload1, q_aload1N, q_aload0, q_aload0N, q_iload4, q_iconst, q_iadd, q_iald, q_aload3, q_aload3N, q_invs4_22, q_istore5, q_aload2, q_aload2N, q_invv2, inv_1, q_istore6, q_invv0, q_iload5, q_ic_eq, q_zret, e_279_71, L_0, L_1, L_2, k_some, k_none, pRm_i, pRm_r, pRm_0, pF_1, pF_2, inv_s, h4, h5, l1, l2, l3, l4, l5, pIn_n, pIx_n, nN_add, eq_self, Nat.reduceLT, Bool.false_eq_true, Nat.add_zero, Nat.zero_add, Nat.reduceAdd, Nat.reduceMul, Nat.reduceSub, Nat.zero_le, Nat.reduceLeDiff, Nat.reduceEqDiff, Nat.le_refl, not_false_eq_true, not_true_eq_false, false_implies, true_implies, forall_const, true_and, and_true, if_true, if_false, implies_true, and_self, ne_eq, false_and, and_false, or_false, false_or, true_or, or_true]
  obtain ⟨k, v, a', ak', img', n', b', fl', C, T, G⟩ := P_cut (x := xs (6 * j + 1)) (y := xs (6 * j + 2)) S
  refine mw_mono (mw_bm (X_cut s0 h3 C) S.bm) ?_
  rintro _ M1 ⟨⟨rfl, kb, hv, c, q⟩, B1⟩
  have m1 := S.mi.mf q.1
  have t0 : gS M1 86 = (12, 0) := m1.mr.1.k0
  have t4 : gS M1 900000 = (103, L) := by rw [q.1.2.2 900000 (Or.inr (by omega))]; exact h4
  have t5 : ∀ k, gI M1 900000 k = xs k := fun k => by rw [q.1.1 _ _ (Or.inr rfl)]; exact h5 k
  simp (disch := omega) only [q_aload1, q_aload1N, q_aload0, q_aload0N, q_iload4, q_iconst, q_iadd, q_iald, q_aload3, q_aload3N, q_invs4_22, q_istore5, q_aload2, q_aload2N, q_invv2, inv_1, q_istore6, q_invv0, q_iload5, q_ic_eq, q_zret, e_279_71, L_0, L_1, L_2, k_some, k_none, pRm_i, pRm_r, pRm_0, pF_1, pF_2, inv_s, t0, t4, t5, l1, l2, l3, l4, l5, pIn_n, pIx_n, nN_add, eq_self, Nat.reduceLT, Bool.false_eq_true, Nat.add_zero, Nat.zero_add, Nat.reduceAdd, Nat.reduceMul, Nat.reduceSub, Nat.zero_le, Nat.reduceLeDiff, Nat.reduceEqDiff, Nat.le_refl, not_false_eq_true, not_true_eq_false, false_implies, true_implies, forall_const, true_and, and_true, if_true, if_false, implies_true, and_self, ne_eq, false_and, and_false, or_false, false_or, true_or, or_true]
  refine mw_mono (mw_bm (T M1 m1 B1) B1) ?_
  rintro o M2 ⟨⟨⟨⟨w, rfl, hw⟩, th⟩, m2, A2⟩, B2⟩
  have u0 : gS M2 86 = (12, 0) := m2.mr.1.k0
  have NN := LI.next hI (by omega) c q B1 m2 A2 B2 G
  simp (disch := omega) only [q_aload1, q_aload1N, q_aload0, q_aload0N, q_iload4, q_iconst, q_iadd, q_iald, q_aload3, q_aload3N, q_invs4_22, q_istore5, q_aload2, q_aload2N, q_invv2, inv_1, q_istore6, q_invv0, q_iload5, q_ic_eq, q_zret, e_279_71, L_0, L_1, L_2, k_some, k_none, pRm_i, pRm_r, pRm_0, pF_1, pF_2, inv_s, m_51, q_aload0, q_aload0N, q_get_i, pTag_1, pRf_s, q_iret, e_51_0, u0, th, eq_self, Nat.reduceLT, Bool.false_eq_true, Nat.add_zero, Nat.zero_add, Nat.reduceAdd, Nat.reduceMul, Nat.reduceSub, Nat.zero_le, Nat.reduceLeDiff, Nat.reduceEqDiff, Nat.le_refl, not_false_eq_true, not_true_eq_false, false_implies, true_implies, forall_const, true_and, and_true, if_true, if_false, implies_true, and_self, ne_eq, false_and, and_false, or_false, false_or, true_or, or_true]
  rw [e_279_72]
  by_cases k0 : k = 0
  · subst k0
    have hv := hv rfl
    have hw := hw rfl
    subst hw
    have u3 : gS M2 100 = (101, 1) := NN.2.2.1
    have gj : gJ M2 100 0 = w.toInt64 := by rw [A2.J]; exact hv
    simp (disch := omega) only [q_iload5, q_if_ne, q_aload3, q_aload3N, q_iconst, q_lald, q_iload6, q_i2l, q_lcmp, q_if_eq, q_zret, q_goto, e_279_72, e_279_73, L_0, u3, gj, lg_self, pIn_n, pIx_n, nN_le, nN_lt, nN_eq, nN_add, nN_mul, nN_lt0, nN_ge0, nN_gt0, nN_le0, nN_eq0, nN_eq1, nN_neN, pIn_n, pIx_n, eq_self, Nat.reduceLT, Bool.false_eq_true, Nat.add_zero, Nat.zero_add, Nat.reduceAdd, Nat.reduceMul, Nat.reduceSub, Nat.zero_le, Nat.reduceLeDiff, Nat.reduceEqDiff, Nat.le_refl, not_false_eq_true, not_true_eq_false, false_implies, true_implies, forall_const, true_and, and_true, if_true, if_false, implies_true, and_self, ne_eq, false_and, and_false, or_false, false_or, true_or, or_true]
    exact go M2 _ _ NN
  · have k1 : ¬ nN k = 0 := by rw [nN_eq0 (by omega)]; exact k0
    simp (disch := omega) only [q_iload5, q_if_ne, q_aload3, q_aload3N, q_iconst, q_lald, q_iload6, q_i2l, q_lcmp, q_if_eq, q_zret, q_goto, e_279_72, e_279_73, L_0, k1, eq_self, Nat.reduceLT, Bool.false_eq_true, Nat.add_zero, Nat.zero_add, Nat.reduceAdd, Nat.reduceMul, Nat.reduceSub, Nat.zero_le, Nat.reduceLeDiff, Nat.reduceEqDiff, Nat.le_refl, not_false_eq_true, not_true_eq_false, false_implies, true_implies, forall_const, true_and, and_true, if_true, if_false, implies_true, and_self, ne_eq, false_and, and_false, or_false, false_or, true_or, or_true]
    exact go M2 _ _ NN
theorem B_chain (h : LI L xs G0 j M) (hL : L ≤ 3072) (hj : 6 * j + 6 ≤ L) (go : ∀ M' z5 z6, LI L xs G0 (j + 1) M' → bw 101 279 98 ([some (.ref 900000), some (.ref 0), some (.ref 86), some (.ref 100), some (.int (nN (6 * j))), z5, z6], [], M') Q) : bw 101 279 74 ([some (.ref 900000), some (.ref 0), some (.ref 86), some (.ref 100), some (.int (nN (6 * j))), z5, z6], [], M) Q := by
  have hI := h
  obtain ⟨⟨a, ak, img, n, b, fl, S⟩, ⟨h1, h2⟩, h3, h4, h5⟩ := h
  have l1 : 6 * j + 1 < L := by omega
  have l2 : 6 * j + 2 < L := by omega
  have l3 : 6 * j + 3 < L := by omega
  have l4 : 6 * j + 4 < L := by omega
  have l5 : 6 * j + 5 < L := by omega
  have s0 := S.ci.sh.k0
  rw [e_279_74]
  simp (disch := omega) only [q_aload1, q_aload1N, q_aload0, q_aload0N, q_iload4, q_iconst, q_iadd, q_iald, q_aload3, q_aload3N, q_invs6_22, q_istore5, q_aload2, q_aload2N, q_invv4, inv_1, q_istore6, q_invv0, q_iload5, q_ic_eq, q_zret, e_279_74, L_0, L_1, L_2, L_3, L_4, k_some, k_none, pRm_i, pRm_r, pRm_0, pF_1, pF_2, inv_s, h4, h5, l1, l2, l3, l4, l5, pIn_n, pIx_n, nN_add, eq_self, Nat.reduceLT, Bool.false_eq_true, Nat.add_zero, Nat.zero_add, Nat.reduceAdd, Nat.reduceMul, Nat.reduceSub, Nat.zero_le, Nat.reduceLeDiff, Nat.reduceEqDiff, Nat.le_refl, not_false_eq_true, not_true_eq_false, false_implies, true_implies, forall_const, true_and, and_true, if_true, if_false, implies_true, and_self, ne_eq, false_and, and_false, or_false, false_or, true_or, or_true]
  obtain ⟨k, v, a', ak', img', n', b', fl', C, T, G⟩ := P_chain (x := xs (6 * j + 1)) (y := xs (6 * j + 2)) (w := xs (6 * j + 3)) (z := xs (6 * j + 4)) S
  refine mw_mono (mw_bm (X_chain s0 h3 C) S.bm) ?_
  rintro _ M1 ⟨⟨rfl, kb, hv, c, q⟩, B1⟩
  have m1 := S.mi.mf q.1
  have t0 : gS M1 86 = (12, 0) := m1.mr.1.k0
  have t4 : gS M1 900000 = (103, L) := by rw [q.1.2.2 900000 (Or.inr (by omega))]; exact h4
  have t5 : ∀ k, gI M1 900000 k = xs k := fun k => by rw [q.1.1 _ _ (Or.inr rfl)]; exact h5 k
  simp (disch := omega) only [q_aload1, q_aload1N, q_aload0, q_aload0N, q_iload4, q_iconst, q_iadd, q_iald, q_aload3, q_aload3N, q_invs6_22, q_istore5, q_aload2, q_aload2N, q_invv4, inv_1, q_istore6, q_invv0, q_iload5, q_ic_eq, q_zret, e_279_74, L_0, L_1, L_2, L_3, L_4, k_some, k_none, pRm_i, pRm_r, pRm_0, pF_1, pF_2, inv_s, t0, t4, t5, l1, l2, l3, l4, l5, pIn_n, pIx_n, nN_add, eq_self, Nat.reduceLT, Bool.false_eq_true, Nat.add_zero, Nat.zero_add, Nat.reduceAdd, Nat.reduceMul, Nat.reduceSub, Nat.zero_le, Nat.reduceLeDiff, Nat.reduceEqDiff, Nat.le_refl, not_false_eq_true, not_true_eq_false, false_implies, true_implies, forall_const, true_and, and_true, if_true, if_false, implies_true, and_self, ne_eq, false_and, and_false, or_false, false_or, true_or, or_true]
  refine mw_mono (mw_bm (T M1 m1 B1) B1) ?_
  rintro o M2 ⟨⟨⟨⟨w, rfl, hw⟩, th⟩, m2, A2⟩, B2⟩
  have u0 : gS M2 86 = (12, 0) := m2.mr.1.k0
  have NN := LI.next hI (by omega) c q B1 m2 A2 B2 G
  simp (disch := omega) only [q_aload1, q_aload1N, q_aload0, q_aload0N, q_iload4, q_iconst, q_iadd, q_iald, q_aload3, q_aload3N, q_invs6_22, q_istore5, q_aload2, q_aload2N, q_invv4, inv_1, q_istore6, q_invv0, q_iload5, q_ic_eq, q_zret, e_279_74, L_0, L_1, L_2, L_3, L_4, k_some, k_none, pRm_i, pRm_r, pRm_0, pF_1, pF_2, inv_s, m_51, q_aload0, q_aload0N, q_get_i, pTag_1, pRf_s, q_iret, e_51_0, u0, th, eq_self, Nat.reduceLT, Bool.false_eq_true, Nat.add_zero, Nat.zero_add, Nat.reduceAdd, Nat.reduceMul, Nat.reduceSub, Nat.zero_le, Nat.reduceLeDiff, Nat.reduceEqDiff, Nat.le_refl, not_false_eq_true, not_true_eq_false, false_implies, true_implies, forall_const, true_and, and_true, if_true, if_false, implies_true, and_self, ne_eq, false_and, and_false, or_false, false_or, true_or, or_true]
  rw [e_279_75]
  by_cases k0 : k = 0
  · subst k0
    have hv := hv rfl
    have hw := hw rfl
    subst hw
    have u3 : gS M2 100 = (101, 1) := NN.2.2.1
    have gj : gJ M2 100 0 = w.toInt64 := by rw [A2.J]; exact hv
    simp (disch := omega) only [q_iload5, q_if_ne, q_aload3, q_aload3N, q_iconst, q_lald, q_iload6, q_i2l, q_lcmp, q_if_eq, q_zret, q_goto, e_279_75, e_279_76, L_0, u3, gj, lg_self, pIn_n, pIx_n, nN_le, nN_lt, nN_eq, nN_add, nN_mul, nN_lt0, nN_ge0, nN_gt0, nN_le0, nN_eq0, nN_eq1, nN_neN, pIn_n, pIx_n, eq_self, Nat.reduceLT, Bool.false_eq_true, Nat.add_zero, Nat.zero_add, Nat.reduceAdd, Nat.reduceMul, Nat.reduceSub, Nat.zero_le, Nat.reduceLeDiff, Nat.reduceEqDiff, Nat.le_refl, not_false_eq_true, not_true_eq_false, false_implies, true_implies, forall_const, true_and, and_true, if_true, if_false, implies_true, and_self, ne_eq, false_and, and_false, or_false, false_or, true_or, or_true]
    exact go M2 _ _ NN
  · have k1 : ¬ nN k = 0 := by rw [nN_eq0 (by omega)]; exact k0
    simp (disch := omega) only [q_iload5, q_if_ne, q_aload3, q_aload3N, q_iconst, q_lald, q_iload6, q_i2l, q_lcmp, q_if_eq, q_zret, q_goto, e_279_75, e_279_76, L_0, k1, eq_self, Nat.reduceLT, Bool.false_eq_true, Nat.add_zero, Nat.zero_add, Nat.reduceAdd, Nat.reduceMul, Nat.reduceSub, Nat.zero_le, Nat.reduceLeDiff, Nat.reduceEqDiff, Nat.le_refl, not_false_eq_true, not_true_eq_false, false_implies, true_implies, forall_const, true_and, and_true, if_true, if_false, implies_true, and_self, ne_eq, false_and, and_false, or_false, false_or, true_or, or_true]
    exact go M2 _ _ NN
theorem B_ring (h : LI L xs G0 j M) (hL : L ≤ 3072) (hj : 6 * j + 6 ≤ L) (go : ∀ M' z5 z6, LI L xs G0 (j + 1) M' → bw 101 279 98 ([some (.ref 900000), some (.ref 0), some (.ref 86), some (.ref 100), some (.int (nN (6 * j))), z5, z6], [], M') Q) : bw 101 279 77 ([some (.ref 900000), some (.ref 0), some (.ref 86), some (.ref 100), some (.int (nN (6 * j))), z5, z6], [], M) Q := by
  have hI := h
  obtain ⟨⟨a, ak, img, n, b, fl, S⟩, ⟨h1, h2⟩, h3, h4, h5⟩ := h
  have l1 : 6 * j + 1 < L := by omega
  have l2 : 6 * j + 2 < L := by omega
  have l3 : 6 * j + 3 < L := by omega
  have l4 : 6 * j + 4 < L := by omega
  have l5 : 6 * j + 5 < L := by omega
  have s0 := S.ci.sh.k0
  rw [e_279_77]
  simp (disch := omega) only [q_aload1, q_aload1N, q_aload3, q_aload3N, q_invs2_22, q_istore5, q_aload2, q_aload2N, q_invv0, inv_1, q_istore6, q_iload5, q_ic_eq, q_iconst, q_zret, e_279_77, L_0, k_some, k_none, pRm_i, pRm_r, pRm_0, pF_1, pF_2, inv_s, h4, h5, l1, l2, l3, l4, l5, pIn_n, pIx_n, nN_add, eq_self, Nat.reduceLT, Bool.false_eq_true, Nat.add_zero, Nat.zero_add, Nat.reduceAdd, Nat.reduceMul, Nat.reduceSub, Nat.zero_le, Nat.reduceLeDiff, Nat.reduceEqDiff, Nat.le_refl, not_false_eq_true, not_true_eq_false, false_implies, true_implies, forall_const, true_and, and_true, if_true, if_false, implies_true, and_self, ne_eq, false_and, and_false, or_false, false_or, true_or, or_true]
  obtain ⟨k, v, a', ak', img', n', b', fl', C, T, G⟩ := P_ring  S
  refine mw_mono (mw_bm (X_ring s0 h3 C) S.bm) ?_
  rintro _ M1 ⟨⟨rfl, kb, hv, c, q⟩, B1⟩
  have m1 := S.mi.mf q.1
  have t0 : gS M1 86 = (12, 0) := m1.mr.1.k0
  have t4 : gS M1 900000 = (103, L) := by rw [q.1.2.2 900000 (Or.inr (by omega))]; exact h4
  have t5 : ∀ k, gI M1 900000 k = xs k := fun k => by rw [q.1.1 _ _ (Or.inr rfl)]; exact h5 k
  simp (disch := omega) only [q_aload1, q_aload1N, q_aload3, q_aload3N, q_invs2_22, q_istore5, q_aload2, q_aload2N, q_invv0, inv_1, q_istore6, q_iload5, q_ic_eq, q_iconst, q_zret, e_279_77, L_0, k_some, k_none, pRm_i, pRm_r, pRm_0, pF_1, pF_2, inv_s, t0, t4, t5, l1, l2, l3, l4, l5, pIn_n, pIx_n, nN_add, eq_self, Nat.reduceLT, Bool.false_eq_true, Nat.add_zero, Nat.zero_add, Nat.reduceAdd, Nat.reduceMul, Nat.reduceSub, Nat.zero_le, Nat.reduceLeDiff, Nat.reduceEqDiff, Nat.le_refl, not_false_eq_true, not_true_eq_false, false_implies, true_implies, forall_const, true_and, and_true, if_true, if_false, implies_true, and_self, ne_eq, false_and, and_false, or_false, false_or, true_or, or_true]
  refine mw_mono (mw_bm (T M1 m1 B1) B1) ?_
  rintro o M2 ⟨⟨⟨⟨w, rfl, hw⟩, th⟩, m2, A2⟩, B2⟩
  have u0 : gS M2 86 = (12, 0) := m2.mr.1.k0
  have NN := LI.next hI (by omega) c q B1 m2 A2 B2 G
  simp (disch := omega) only [q_aload1, q_aload1N, q_aload3, q_aload3N, q_invs2_22, q_istore5, q_aload2, q_aload2N, q_invv0, inv_1, q_istore6, q_iload5, q_ic_eq, q_iconst, q_zret, e_279_77, L_0, k_some, k_none, pRm_i, pRm_r, pRm_0, pF_1, pF_2, inv_s, m_51, q_aload0, q_aload0N, q_get_i, pTag_1, pRf_s, q_iret, e_51_0, u0, th, eq_self, Nat.reduceLT, Bool.false_eq_true, Nat.add_zero, Nat.zero_add, Nat.reduceAdd, Nat.reduceMul, Nat.reduceSub, Nat.zero_le, Nat.reduceLeDiff, Nat.reduceEqDiff, Nat.le_refl, not_false_eq_true, not_true_eq_false, false_implies, true_implies, forall_const, true_and, and_true, if_true, if_false, implies_true, and_self, ne_eq, false_and, and_false, or_false, false_or, true_or, or_true]
  rw [e_279_78]
  by_cases k0 : k = 0
  · subst k0
    have hv := hv rfl
    have hw := hw rfl
    subst hw
    have u3 : gS M2 100 = (101, 1) := NN.2.2.1
    have gj : gJ M2 100 0 = w.toInt64 := by rw [A2.J]; exact hv
    simp (disch := omega) only [q_iload5, q_if_ne, q_aload3, q_aload3N, q_iconst, q_lald, q_iload6, q_i2l, q_lcmp, q_if_eq, q_zret, q_goto, e_279_78, e_279_79, L_0, u3, gj, lg_self, pIn_n, pIx_n, nN_le, nN_lt, nN_eq, nN_add, nN_mul, nN_lt0, nN_ge0, nN_gt0, nN_le0, nN_eq0, nN_eq1, nN_neN, pIn_n, pIx_n, eq_self, Nat.reduceLT, Bool.false_eq_true, Nat.add_zero, Nat.zero_add, Nat.reduceAdd, Nat.reduceMul, Nat.reduceSub, Nat.zero_le, Nat.reduceLeDiff, Nat.reduceEqDiff, Nat.le_refl, not_false_eq_true, not_true_eq_false, false_implies, true_implies, forall_const, true_and, and_true, if_true, if_false, implies_true, and_self, ne_eq, false_and, and_false, or_false, false_or, true_or, or_true]
    exact go M2 _ _ NN
  · have k1 : ¬ nN k = 0 := by rw [nN_eq0 (by omega)]; exact k0
    simp (disch := omega) only [q_iload5, q_if_ne, q_aload3, q_aload3N, q_iconst, q_lald, q_iload6, q_i2l, q_lcmp, q_if_eq, q_zret, q_goto, e_279_78, e_279_79, L_0, k1, eq_self, Nat.reduceLT, Bool.false_eq_true, Nat.add_zero, Nat.zero_add, Nat.reduceAdd, Nat.reduceMul, Nat.reduceSub, Nat.zero_le, Nat.reduceLeDiff, Nat.reduceEqDiff, Nat.le_refl, not_false_eq_true, not_true_eq_false, false_implies, true_implies, forall_const, true_and, and_true, if_true, if_false, implies_true, and_self, ne_eq, false_and, and_false, or_false, false_or, true_or, or_true]
    exact go M2 _ _ NN
theorem B_clear (h : LI L xs G0 j M) (hL : L ≤ 3072) (hj : 6 * j + 6 ≤ L) (go : ∀ M' z5 z6, LI L xs G0 (j + 1) M' → bw 101 279 98 ([some (.ref 900000), some (.ref 0), some (.ref 86), some (.ref 100), some (.int (nN (6 * j))), z5, z6], [], M') Q) : bw 101 279 80 ([some (.ref 900000), some (.ref 0), some (.ref 86), some (.ref 100), some (.int (nN (6 * j))), z5, z6], [], M) Q := by
  have hI := h
  obtain ⟨⟨a, ak, img, n, b, fl, S⟩, ⟨h1, h2⟩, h3, h4, h5⟩ := h
  have l1 : 6 * j + 1 < L := by omega
  have l2 : 6 * j + 2 < L := by omega
  have l3 : 6 * j + 3 < L := by omega
  have l4 : 6 * j + 4 < L := by omega
  have l5 : 6 * j + 5 < L := by omega
  have s0 := S.ci.sh.k0
  rw [e_279_80]
  simp (disch := omega) only [q_aload1, q_aload1N, q_aload0, q_aload0N, q_iload4, q_iconst, q_iadd, q_iald, q_aload3, q_aload3N, q_invs3_22, q_istore5, q_aload2, q_aload2N, q_invv1, inv_1, q_istore6, q_invv0, q_iload5, q_ic_eq, q_zret, e_279_80, L_0, L_1, k_some, k_none, pRm_i, pRm_r, pRm_0, pF_1, pF_2, inv_s, h4, h5, l1, l2, l3, l4, l5, pIn_n, pIx_n, nN_add, eq_self, Nat.reduceLT, Bool.false_eq_true, Nat.add_zero, Nat.zero_add, Nat.reduceAdd, Nat.reduceMul, Nat.reduceSub, Nat.zero_le, Nat.reduceLeDiff, Nat.reduceEqDiff, Nat.le_refl, not_false_eq_true, not_true_eq_false, false_implies, true_implies, forall_const, true_and, and_true, if_true, if_false, implies_true, and_self, ne_eq, false_and, and_false, or_false, false_or, true_or, or_true]
  obtain ⟨k, v, a', ak', img', n', b', fl', C, T, G⟩ := P_clear (z := xs (6 * j + 1)) S
  refine mw_mono (mw_bm (X_clear s0 h3 C) S.bm) ?_
  rintro _ M1 ⟨⟨rfl, kb, hv, c, q⟩, B1⟩
  have m1 := S.mi.mf q.1
  have t0 : gS M1 86 = (12, 0) := m1.mr.1.k0
  have t4 : gS M1 900000 = (103, L) := by rw [q.1.2.2 900000 (Or.inr (by omega))]; exact h4
  have t5 : ∀ k, gI M1 900000 k = xs k := fun k => by rw [q.1.1 _ _ (Or.inr rfl)]; exact h5 k
  simp (disch := omega) only [q_aload1, q_aload1N, q_aload0, q_aload0N, q_iload4, q_iconst, q_iadd, q_iald, q_aload3, q_aload3N, q_invs3_22, q_istore5, q_aload2, q_aload2N, q_invv1, inv_1, q_istore6, q_invv0, q_iload5, q_ic_eq, q_zret, e_279_80, L_0, L_1, k_some, k_none, pRm_i, pRm_r, pRm_0, pF_1, pF_2, inv_s, t0, t4, t5, l1, l2, l3, l4, l5, pIn_n, pIx_n, nN_add, eq_self, Nat.reduceLT, Bool.false_eq_true, Nat.add_zero, Nat.zero_add, Nat.reduceAdd, Nat.reduceMul, Nat.reduceSub, Nat.zero_le, Nat.reduceLeDiff, Nat.reduceEqDiff, Nat.le_refl, not_false_eq_true, not_true_eq_false, false_implies, true_implies, forall_const, true_and, and_true, if_true, if_false, implies_true, and_self, ne_eq, false_and, and_false, or_false, false_or, true_or, or_true]
  refine mw_mono (mw_bm (T M1 m1 B1) B1) ?_
  rintro o M2 ⟨⟨⟨⟨w, rfl, hw⟩, th⟩, m2, A2⟩, B2⟩
  have u0 : gS M2 86 = (12, 0) := m2.mr.1.k0
  have NN := LI.next hI (by omega) c q B1 m2 A2 B2 G
  simp (disch := omega) only [q_aload1, q_aload1N, q_aload0, q_aload0N, q_iload4, q_iconst, q_iadd, q_iald, q_aload3, q_aload3N, q_invs3_22, q_istore5, q_aload2, q_aload2N, q_invv1, inv_1, q_istore6, q_invv0, q_iload5, q_ic_eq, q_zret, e_279_80, L_0, L_1, k_some, k_none, pRm_i, pRm_r, pRm_0, pF_1, pF_2, inv_s, m_51, q_aload0, q_aload0N, q_get_i, pTag_1, pRf_s, q_iret, e_51_0, u0, th, eq_self, Nat.reduceLT, Bool.false_eq_true, Nat.add_zero, Nat.zero_add, Nat.reduceAdd, Nat.reduceMul, Nat.reduceSub, Nat.zero_le, Nat.reduceLeDiff, Nat.reduceEqDiff, Nat.le_refl, not_false_eq_true, not_true_eq_false, false_implies, true_implies, forall_const, true_and, and_true, if_true, if_false, implies_true, and_self, ne_eq, false_and, and_false, or_false, false_or, true_or, or_true]
  rw [e_279_81]
  by_cases k0 : k = 0
  · subst k0
    have hv := hv rfl
    have hw := hw rfl
    subst hw
    have u3 : gS M2 100 = (101, 1) := NN.2.2.1
    have gj : gJ M2 100 0 = w.toInt64 := by rw [A2.J]; exact hv
    simp (disch := omega) only [q_iload5, q_if_ne, q_aload3, q_aload3N, q_iconst, q_lald, q_iload6, q_i2l, q_lcmp, q_if_eq, q_zret, q_goto, e_279_81, e_279_82, L_0, u3, gj, lg_self, pIn_n, pIx_n, nN_le, nN_lt, nN_eq, nN_add, nN_mul, nN_lt0, nN_ge0, nN_gt0, nN_le0, nN_eq0, nN_eq1, nN_neN, pIn_n, pIx_n, eq_self, Nat.reduceLT, Bool.false_eq_true, Nat.add_zero, Nat.zero_add, Nat.reduceAdd, Nat.reduceMul, Nat.reduceSub, Nat.zero_le, Nat.reduceLeDiff, Nat.reduceEqDiff, Nat.le_refl, not_false_eq_true, not_true_eq_false, false_implies, true_implies, forall_const, true_and, and_true, if_true, if_false, implies_true, and_self, ne_eq, false_and, and_false, or_false, false_or, true_or, or_true]
    exact go M2 _ _ NN
  · have k1 : ¬ nN k = 0 := by rw [nN_eq0 (by omega)]; exact k0
    simp (disch := omega) only [q_iload5, q_if_ne, q_aload3, q_aload3N, q_iconst, q_lald, q_iload6, q_i2l, q_lcmp, q_if_eq, q_zret, q_goto, e_279_81, e_279_82, L_0, k1, eq_self, Nat.reduceLT, Bool.false_eq_true, Nat.add_zero, Nat.zero_add, Nat.reduceAdd, Nat.reduceMul, Nat.reduceSub, Nat.zero_le, Nat.reduceLeDiff, Nat.reduceEqDiff, Nat.le_refl, not_false_eq_true, not_true_eq_false, false_implies, true_implies, forall_const, true_and, and_true, if_true, if_false, implies_true, and_self, ne_eq, false_and, and_false, or_false, false_or, true_or, or_true]
    exact go M2 _ _ NN
theorem B_loss (h : LI L xs G0 j M) (hL : L ≤ 3072) (hj : 6 * j + 6 ≤ L) (go : ∀ M' z5 z6, LI L xs G0 (j + 1) M' → bw 101 279 98 ([some (.ref 900000), some (.ref 0), some (.ref 86), some (.ref 100), some (.int (nN (6 * j))), z5, z6], [], M') Q) : bw 101 279 83 ([some (.ref 900000), some (.ref 0), some (.ref 86), some (.ref 100), some (.int (nN (6 * j))), z5, z6], [], M) Q := by
  have hI := h
  obtain ⟨⟨a, ak, img, n, b, fl, S⟩, ⟨h1, h2⟩, h3, h4, h5⟩ := h
  have l1 : 6 * j + 1 < L := by omega
  have l2 : 6 * j + 2 < L := by omega
  have l3 : 6 * j + 3 < L := by omega
  have l4 : 6 * j + 4 < L := by omega
  have l5 : 6 * j + 5 < L := by omega
  have s0 := S.ci.sh.k0
  rw [e_279_83]
  simp (disch := omega) only [q_aload1, q_aload1N, q_aload0, q_aload0N, q_iload4, q_iconst, q_iadd, q_iald, q_aload3, q_aload3N, q_invs4_22, q_istore5, q_aload2, q_aload2N, q_invv2, inv_1, q_istore6, q_invv0, q_iload5, q_ic_eq, q_zret, e_279_83, L_0, L_1, L_2, k_some, k_none, pRm_i, pRm_r, pRm_0, pF_1, pF_2, inv_s, h4, h5, l1, l2, l3, l4, l5, pIn_n, pIx_n, nN_add, eq_self, Nat.reduceLT, Bool.false_eq_true, Nat.add_zero, Nat.zero_add, Nat.reduceAdd, Nat.reduceMul, Nat.reduceSub, Nat.zero_le, Nat.reduceLeDiff, Nat.reduceEqDiff, Nat.le_refl, not_false_eq_true, not_true_eq_false, false_implies, true_implies, forall_const, true_and, and_true, if_true, if_false, implies_true, and_self, ne_eq, false_and, and_false, or_false, false_or, true_or, or_true]
  obtain ⟨k, v, a', ak', img', n', b', fl', C, T, G⟩ := P_loss (x := xs (6 * j + 1)) (y := xs (6 * j + 2)) S
  refine mw_mono (mw_bm (X_loss s0 h3 C) S.bm) ?_
  rintro _ M1 ⟨⟨rfl, kb, hv, c, q⟩, B1⟩
  have m1 := S.mi.mf q.1
  have t0 : gS M1 86 = (12, 0) := m1.mr.1.k0
  have t4 : gS M1 900000 = (103, L) := by rw [q.1.2.2 900000 (Or.inr (by omega))]; exact h4
  have t5 : ∀ k, gI M1 900000 k = xs k := fun k => by rw [q.1.1 _ _ (Or.inr rfl)]; exact h5 k
  simp (disch := omega) only [q_aload1, q_aload1N, q_aload0, q_aload0N, q_iload4, q_iconst, q_iadd, q_iald, q_aload3, q_aload3N, q_invs4_22, q_istore5, q_aload2, q_aload2N, q_invv2, inv_1, q_istore6, q_invv0, q_iload5, q_ic_eq, q_zret, e_279_83, L_0, L_1, L_2, k_some, k_none, pRm_i, pRm_r, pRm_0, pF_1, pF_2, inv_s, t0, t4, t5, l1, l2, l3, l4, l5, pIn_n, pIx_n, nN_add, eq_self, Nat.reduceLT, Bool.false_eq_true, Nat.add_zero, Nat.zero_add, Nat.reduceAdd, Nat.reduceMul, Nat.reduceSub, Nat.zero_le, Nat.reduceLeDiff, Nat.reduceEqDiff, Nat.le_refl, not_false_eq_true, not_true_eq_false, false_implies, true_implies, forall_const, true_and, and_true, if_true, if_false, implies_true, and_self, ne_eq, false_and, and_false, or_false, false_or, true_or, or_true]
  refine mw_mono (mw_bm (T M1 m1 B1) B1) ?_
  rintro o M2 ⟨⟨⟨⟨w, rfl, hw⟩, th⟩, m2, A2⟩, B2⟩
  have u0 : gS M2 86 = (12, 0) := m2.mr.1.k0
  have NN := LI.next hI (by omega) c q B1 m2 A2 B2 G
  simp (disch := omega) only [q_aload1, q_aload1N, q_aload0, q_aload0N, q_iload4, q_iconst, q_iadd, q_iald, q_aload3, q_aload3N, q_invs4_22, q_istore5, q_aload2, q_aload2N, q_invv2, inv_1, q_istore6, q_invv0, q_iload5, q_ic_eq, q_zret, e_279_83, L_0, L_1, L_2, k_some, k_none, pRm_i, pRm_r, pRm_0, pF_1, pF_2, inv_s, m_51, q_aload0, q_aload0N, q_get_i, pTag_1, pRf_s, q_iret, e_51_0, u0, th, eq_self, Nat.reduceLT, Bool.false_eq_true, Nat.add_zero, Nat.zero_add, Nat.reduceAdd, Nat.reduceMul, Nat.reduceSub, Nat.zero_le, Nat.reduceLeDiff, Nat.reduceEqDiff, Nat.le_refl, not_false_eq_true, not_true_eq_false, false_implies, true_implies, forall_const, true_and, and_true, if_true, if_false, implies_true, and_self, ne_eq, false_and, and_false, or_false, false_or, true_or, or_true]
  rw [e_279_84]
  by_cases k0 : k = 0
  · subst k0
    have hv := hv rfl
    have hw := hw rfl
    subst hw
    have u3 : gS M2 100 = (101, 1) := NN.2.2.1
    have gj : gJ M2 100 0 = w.toInt64 := by rw [A2.J]; exact hv
    simp (disch := omega) only [q_iload5, q_if_ne, q_aload3, q_aload3N, q_iconst, q_lald, q_iload6, q_i2l, q_lcmp, q_if_eq, q_zret, q_goto, e_279_84, e_279_85, L_0, u3, gj, lg_self, pIn_n, pIx_n, nN_le, nN_lt, nN_eq, nN_add, nN_mul, nN_lt0, nN_ge0, nN_gt0, nN_le0, nN_eq0, nN_eq1, nN_neN, pIn_n, pIx_n, eq_self, Nat.reduceLT, Bool.false_eq_true, Nat.add_zero, Nat.zero_add, Nat.reduceAdd, Nat.reduceMul, Nat.reduceSub, Nat.zero_le, Nat.reduceLeDiff, Nat.reduceEqDiff, Nat.le_refl, not_false_eq_true, not_true_eq_false, false_implies, true_implies, forall_const, true_and, and_true, if_true, if_false, implies_true, and_self, ne_eq, false_and, and_false, or_false, false_or, true_or, or_true]
    exact go M2 _ _ NN
  · have k1 : ¬ nN k = 0 := by rw [nN_eq0 (by omega)]; exact k0
    simp (disch := omega) only [q_iload5, q_if_ne, q_aload3, q_aload3N, q_iconst, q_lald, q_iload6, q_i2l, q_lcmp, q_if_eq, q_zret, q_goto, e_279_84, e_279_85, L_0, k1, eq_self, Nat.reduceLT, Bool.false_eq_true, Nat.add_zero, Nat.zero_add, Nat.reduceAdd, Nat.reduceMul, Nat.reduceSub, Nat.zero_le, Nat.reduceLeDiff, Nat.reduceEqDiff, Nat.le_refl, not_false_eq_true, not_true_eq_false, false_implies, true_implies, forall_const, true_and, and_true, if_true, if_false, implies_true, and_self, ne_eq, false_and, and_false, or_false, false_or, true_or, or_true]
    exact go M2 _ _ NN
theorem B_ruined (h : LI L xs G0 j M) (hL : L ≤ 3072) (hj : 6 * j + 6 ≤ L) (go : ∀ M' z5 z6, LI L xs G0 (j + 1) M' → bw 101 279 98 ([some (.ref 900000), some (.ref 0), some (.ref 86), some (.ref 100), some (.int (nN (6 * j))), z5, z6], [], M') Q) : bw 101 279 86 ([some (.ref 900000), some (.ref 0), some (.ref 86), some (.ref 100), some (.int (nN (6 * j))), z5, z6], [], M) Q := by
  have hI := h
  obtain ⟨⟨a, ak, img, n, b, fl, S⟩, ⟨h1, h2⟩, h3, h4, h5⟩ := h
  have l1 : 6 * j + 1 < L := by omega
  have l2 : 6 * j + 2 < L := by omega
  have l3 : 6 * j + 3 < L := by omega
  have l4 : 6 * j + 4 < L := by omega
  have l5 : 6 * j + 5 < L := by omega
  have s0 := S.ci.sh.k0
  rw [e_279_86]
  simp (disch := omega) only [q_aload1, q_aload1N, q_aload0, q_aload0N, q_iload4, q_iconst, q_iadd, q_iald, q_aload3, q_aload3N, q_invs3_22, q_istore5, q_aload2, q_aload2N, q_invv1, inv_1, q_istore6, q_invv0, q_iload5, q_ic_eq, q_zret, e_279_86, L_0, L_1, k_some, k_none, pRm_i, pRm_r, pRm_0, pF_1, pF_2, inv_s, h4, h5, l1, l2, l3, l4, l5, pIn_n, pIx_n, nN_add, eq_self, Nat.reduceLT, Bool.false_eq_true, Nat.add_zero, Nat.zero_add, Nat.reduceAdd, Nat.reduceMul, Nat.reduceSub, Nat.zero_le, Nat.reduceLeDiff, Nat.reduceEqDiff, Nat.le_refl, not_false_eq_true, not_true_eq_false, false_implies, true_implies, forall_const, true_and, and_true, if_true, if_false, implies_true, and_self, ne_eq, false_and, and_false, or_false, false_or, true_or, or_true]
  obtain ⟨k, v, a', ak', img', n', b', fl', C, T, G⟩ := P_ruined (x := xs (6 * j + 1)) S
  refine mw_mono (mw_bm (X_ruined s0 h3 C) S.bm) ?_
  rintro _ M1 ⟨⟨rfl, kb, hv, c, q⟩, B1⟩
  have m1 := S.mi.mf q.1
  have t0 : gS M1 86 = (12, 0) := m1.mr.1.k0
  have t4 : gS M1 900000 = (103, L) := by rw [q.1.2.2 900000 (Or.inr (by omega))]; exact h4
  have t5 : ∀ k, gI M1 900000 k = xs k := fun k => by rw [q.1.1 _ _ (Or.inr rfl)]; exact h5 k
  simp (disch := omega) only [q_aload1, q_aload1N, q_aload0, q_aload0N, q_iload4, q_iconst, q_iadd, q_iald, q_aload3, q_aload3N, q_invs3_22, q_istore5, q_aload2, q_aload2N, q_invv1, inv_1, q_istore6, q_invv0, q_iload5, q_ic_eq, q_zret, e_279_86, L_0, L_1, k_some, k_none, pRm_i, pRm_r, pRm_0, pF_1, pF_2, inv_s, t0, t4, t5, l1, l2, l3, l4, l5, pIn_n, pIx_n, nN_add, eq_self, Nat.reduceLT, Bool.false_eq_true, Nat.add_zero, Nat.zero_add, Nat.reduceAdd, Nat.reduceMul, Nat.reduceSub, Nat.zero_le, Nat.reduceLeDiff, Nat.reduceEqDiff, Nat.le_refl, not_false_eq_true, not_true_eq_false, false_implies, true_implies, forall_const, true_and, and_true, if_true, if_false, implies_true, and_self, ne_eq, false_and, and_false, or_false, false_or, true_or, or_true]
  refine mw_mono (mw_bm (T M1 m1 B1) B1) ?_
  rintro o M2 ⟨⟨⟨⟨w, rfl, hw⟩, th⟩, m2, A2⟩, B2⟩
  have u0 : gS M2 86 = (12, 0) := m2.mr.1.k0
  have NN := LI.next hI (by omega) c q B1 m2 A2 B2 G
  simp (disch := omega) only [q_aload1, q_aload1N, q_aload0, q_aload0N, q_iload4, q_iconst, q_iadd, q_iald, q_aload3, q_aload3N, q_invs3_22, q_istore5, q_aload2, q_aload2N, q_invv1, inv_1, q_istore6, q_invv0, q_iload5, q_ic_eq, q_zret, e_279_86, L_0, L_1, k_some, k_none, pRm_i, pRm_r, pRm_0, pF_1, pF_2, inv_s, m_51, q_aload0, q_aload0N, q_get_i, pTag_1, pRf_s, q_iret, e_51_0, u0, th, eq_self, Nat.reduceLT, Bool.false_eq_true, Nat.add_zero, Nat.zero_add, Nat.reduceAdd, Nat.reduceMul, Nat.reduceSub, Nat.zero_le, Nat.reduceLeDiff, Nat.reduceEqDiff, Nat.le_refl, not_false_eq_true, not_true_eq_false, false_implies, true_implies, forall_const, true_and, and_true, if_true, if_false, implies_true, and_self, ne_eq, false_and, and_false, or_false, false_or, true_or, or_true]
  rw [e_279_87]
  by_cases k0 : k = 0
  · subst k0
    have hv := hv rfl
    have hw := hw rfl
    subst hw
    have u3 : gS M2 100 = (101, 1) := NN.2.2.1
    have gj : gJ M2 100 0 = w.toInt64 := by rw [A2.J]; exact hv
    simp (disch := omega) only [q_iload5, q_if_ne, q_aload3, q_aload3N, q_iconst, q_lald, q_iload6, q_i2l, q_lcmp, q_if_eq, q_zret, q_goto, e_279_87, e_279_88, L_0, u3, gj, lg_self, pIn_n, pIx_n, nN_le, nN_lt, nN_eq, nN_add, nN_mul, nN_lt0, nN_ge0, nN_gt0, nN_le0, nN_eq0, nN_eq1, nN_neN, pIn_n, pIx_n, eq_self, Nat.reduceLT, Bool.false_eq_true, Nat.add_zero, Nat.zero_add, Nat.reduceAdd, Nat.reduceMul, Nat.reduceSub, Nat.zero_le, Nat.reduceLeDiff, Nat.reduceEqDiff, Nat.le_refl, not_false_eq_true, not_true_eq_false, false_implies, true_implies, forall_const, true_and, and_true, if_true, if_false, implies_true, and_self, ne_eq, false_and, and_false, or_false, false_or, true_or, or_true]
    exact go M2 _ _ NN
  · have k1 : ¬ nN k = 0 := by rw [nN_eq0 (by omega)]; exact k0
    simp (disch := omega) only [q_iload5, q_if_ne, q_aload3, q_aload3N, q_iconst, q_lald, q_iload6, q_i2l, q_lcmp, q_if_eq, q_zret, q_goto, e_279_87, e_279_88, L_0, k1, eq_self, Nat.reduceLT, Bool.false_eq_true, Nat.add_zero, Nat.zero_add, Nat.reduceAdd, Nat.reduceMul, Nat.reduceSub, Nat.zero_le, Nat.reduceLeDiff, Nat.reduceEqDiff, Nat.le_refl, not_false_eq_true, not_true_eq_false, false_implies, true_implies, forall_const, true_and, and_true, if_true, if_false, implies_true, and_self, ne_eq, false_and, and_false, or_false, false_or, true_or, or_true]
    exact go M2 _ _ NN
theorem B_fits (h : LI L xs G0 j M) (hL : L ≤ 3072) (hj : 6 * j + 6 ≤ L) (go : ∀ M' z5 z6, LI L xs G0 (j + 1) M' → bw 101 279 98 ([some (.ref 900000), some (.ref 0), some (.ref 86), some (.ref 100), some (.int (nN (6 * j))), z5, z6], [], M') Q) : bw 101 279 89 ([some (.ref 900000), some (.ref 0), some (.ref 86), some (.ref 100), some (.int (nN (6 * j))), z5, z6], [], M) Q := by
  have hI := h
  obtain ⟨⟨a, ak, img, n, b, fl, S⟩, ⟨h1, h2⟩, h3, h4, h5⟩ := h
  have l1 : 6 * j + 1 < L := by omega
  have l2 : 6 * j + 2 < L := by omega
  have l3 : 6 * j + 3 < L := by omega
  have l4 : 6 * j + 4 < L := by omega
  have l5 : 6 * j + 5 < L := by omega
  have s0 := S.ci.sh.k0
  rw [e_279_89]
  simp (disch := omega) only [q_aload1, q_aload1N, q_aload0, q_aload0N, q_iload4, q_iconst, q_iadd, q_iald, q_aload3, q_aload3N, q_invs3_22, q_istore5, q_aload2, q_aload2N, q_invv1, inv_1, q_istore6, q_invv0, q_iload5, q_ic_eq, q_zret, e_279_89, L_0, L_1, k_some, k_none, pRm_i, pRm_r, pRm_0, pF_1, pF_2, inv_s, h4, h5, l1, l2, l3, l4, l5, pIn_n, pIx_n, nN_add, eq_self, Nat.reduceLT, Bool.false_eq_true, Nat.add_zero, Nat.zero_add, Nat.reduceAdd, Nat.reduceMul, Nat.reduceSub, Nat.zero_le, Nat.reduceLeDiff, Nat.reduceEqDiff, Nat.le_refl, not_false_eq_true, not_true_eq_false, false_implies, true_implies, forall_const, true_and, and_true, if_true, if_false, implies_true, and_self, ne_eq, false_and, and_false, or_false, false_or, true_or, or_true]
  obtain ⟨k, v, a', ak', img', n', b', fl', C, T, G⟩ := P_fits (x := xs (6 * j + 1)) S
  refine mw_mono (mw_bm (X_fits s0 h3 C) S.bm) ?_
  rintro _ M1 ⟨⟨rfl, kb, hv, c, q⟩, B1⟩
  have m1 := S.mi.mf q.1
  have t0 : gS M1 86 = (12, 0) := m1.mr.1.k0
  have t4 : gS M1 900000 = (103, L) := by rw [q.1.2.2 900000 (Or.inr (by omega))]; exact h4
  have t5 : ∀ k, gI M1 900000 k = xs k := fun k => by rw [q.1.1 _ _ (Or.inr rfl)]; exact h5 k
  simp (disch := omega) only [q_aload1, q_aload1N, q_aload0, q_aload0N, q_iload4, q_iconst, q_iadd, q_iald, q_aload3, q_aload3N, q_invs3_22, q_istore5, q_aload2, q_aload2N, q_invv1, inv_1, q_istore6, q_invv0, q_iload5, q_ic_eq, q_zret, e_279_89, L_0, L_1, k_some, k_none, pRm_i, pRm_r, pRm_0, pF_1, pF_2, inv_s, t0, t4, t5, l1, l2, l3, l4, l5, pIn_n, pIx_n, nN_add, eq_self, Nat.reduceLT, Bool.false_eq_true, Nat.add_zero, Nat.zero_add, Nat.reduceAdd, Nat.reduceMul, Nat.reduceSub, Nat.zero_le, Nat.reduceLeDiff, Nat.reduceEqDiff, Nat.le_refl, not_false_eq_true, not_true_eq_false, false_implies, true_implies, forall_const, true_and, and_true, if_true, if_false, implies_true, and_self, ne_eq, false_and, and_false, or_false, false_or, true_or, or_true]
  refine mw_mono (mw_bm (T M1 m1 B1) B1) ?_
  rintro o M2 ⟨⟨⟨⟨w, rfl, hw⟩, th⟩, m2, A2⟩, B2⟩
  have u0 : gS M2 86 = (12, 0) := m2.mr.1.k0
  have NN := LI.next hI (by omega) c q B1 m2 A2 B2 G
  simp (disch := omega) only [q_aload1, q_aload1N, q_aload0, q_aload0N, q_iload4, q_iconst, q_iadd, q_iald, q_aload3, q_aload3N, q_invs3_22, q_istore5, q_aload2, q_aload2N, q_invv1, inv_1, q_istore6, q_invv0, q_iload5, q_ic_eq, q_zret, e_279_89, L_0, L_1, k_some, k_none, pRm_i, pRm_r, pRm_0, pF_1, pF_2, inv_s, m_51, q_aload0, q_aload0N, q_get_i, pTag_1, pRf_s, q_iret, e_51_0, u0, th, eq_self, Nat.reduceLT, Bool.false_eq_true, Nat.add_zero, Nat.zero_add, Nat.reduceAdd, Nat.reduceMul, Nat.reduceSub, Nat.zero_le, Nat.reduceLeDiff, Nat.reduceEqDiff, Nat.le_refl, not_false_eq_true, not_true_eq_false, false_implies, true_implies, forall_const, true_and, and_true, if_true, if_false, implies_true, and_self, ne_eq, false_and, and_false, or_false, false_or, true_or, or_true]
  rw [e_279_90]
  by_cases k0 : k = 0
  · subst k0
    have hv := hv rfl
    have hw := hw rfl
    subst hw
    have u3 : gS M2 100 = (101, 1) := NN.2.2.1
    have gj : gJ M2 100 0 = w.toInt64 := by rw [A2.J]; exact hv
    simp (disch := omega) only [q_iload5, q_if_ne, q_aload3, q_aload3N, q_iconst, q_lald, q_iload6, q_i2l, q_lcmp, q_if_eq, q_zret, q_goto, e_279_90, e_279_91, L_0, u3, gj, lg_self, pIn_n, pIx_n, nN_le, nN_lt, nN_eq, nN_add, nN_mul, nN_lt0, nN_ge0, nN_gt0, nN_le0, nN_eq0, nN_eq1, nN_neN, pIn_n, pIx_n, eq_self, Nat.reduceLT, Bool.false_eq_true, Nat.add_zero, Nat.zero_add, Nat.reduceAdd, Nat.reduceMul, Nat.reduceSub, Nat.zero_le, Nat.reduceLeDiff, Nat.reduceEqDiff, Nat.le_refl, not_false_eq_true, not_true_eq_false, false_implies, true_implies, forall_const, true_and, and_true, if_true, if_false, implies_true, and_self, ne_eq, false_and, and_false, or_false, false_or, true_or, or_true]
    exact go M2 _ _ NN
  · have k1 : ¬ nN k = 0 := by rw [nN_eq0 (by omega)]; exact k0
    simp (disch := omega) only [q_iload5, q_if_ne, q_aload3, q_aload3N, q_iconst, q_lald, q_iload6, q_i2l, q_lcmp, q_if_eq, q_zret, q_goto, e_279_90, e_279_91, L_0, k1, eq_self, Nat.reduceLT, Bool.false_eq_true, Nat.add_zero, Nat.zero_add, Nat.reduceAdd, Nat.reduceMul, Nat.reduceSub, Nat.zero_le, Nat.reduceLeDiff, Nat.reduceEqDiff, Nat.le_refl, not_false_eq_true, not_true_eq_false, false_implies, true_implies, forall_const, true_and, and_true, if_true, if_false, implies_true, and_self, ne_eq, false_and, and_false, or_false, false_or, true_or, or_true]
    exact go M2 _ _ NN
theorem B_play (h : LI L xs G0 j M) (hL : L ≤ 3072) (hj : 6 * j + 6 ≤ L) (go : ∀ M' z5 z6, LI L xs G0 (j + 1) M' → bw 101 279 98 ([some (.ref 900000), some (.ref 0), some (.ref 86), some (.ref 100), some (.int (nN (6 * j))), z5, z6], [], M') Q) : bw 101 279 92 ([some (.ref 900000), some (.ref 0), some (.ref 86), some (.ref 100), some (.int (nN (6 * j))), z5, z6], [], M) Q := by
  have hI := h
  obtain ⟨⟨a, ak, img, n, b, fl, S⟩, ⟨h1, h2⟩, h3, h4, h5⟩ := h
  have l1 : 6 * j + 1 < L := by omega
  have l2 : 6 * j + 2 < L := by omega
  have l3 : 6 * j + 3 < L := by omega
  have l4 : 6 * j + 4 < L := by omega
  have l5 : 6 * j + 5 < L := by omega
  have s0 := S.ci.sh.k0
  rw [e_279_92]
  simp (disch := omega) only [q_aload1, q_aload1N, q_aload0, q_aload0N, q_iload4, q_iconst, q_iadd, q_iald, q_aload3, q_aload3N, q_invs5_22, q_istore5, q_aload2, q_aload2N, q_invv3, inv_1, q_istore6, q_invv0, q_iload5, q_ic_eq, q_zret, e_279_92, L_0, L_1, L_2, L_3, k_some, k_none, pRm_i, pRm_r, pRm_0, pF_1, pF_2, inv_s, h4, h5, l1, l2, l3, l4, l5, pIn_n, pIx_n, nN_add, eq_self, Nat.reduceLT, Bool.false_eq_true, Nat.add_zero, Nat.zero_add, Nat.reduceAdd, Nat.reduceMul, Nat.reduceSub, Nat.zero_le, Nat.reduceLeDiff, Nat.reduceEqDiff, Nat.le_refl, not_false_eq_true, not_true_eq_false, false_implies, true_implies, forall_const, true_and, and_true, if_true, if_false, implies_true, and_self, ne_eq, false_and, and_false, or_false, false_or, true_or, or_true]
  obtain ⟨k, v, a', ak', img', n', b', fl', C, T, G⟩ := P_play (x := xs (6 * j + 1)) (y := xs (6 * j + 2)) (z := xs (6 * j + 3)) S
  refine mw_mono (mw_bm (X_play s0 h3 C) S.bm) ?_
  rintro _ M1 ⟨⟨rfl, kb, hv, c, q⟩, B1⟩
  have m1 := S.mi.mf q.1
  have t0 : gS M1 86 = (12, 0) := m1.mr.1.k0
  have t4 : gS M1 900000 = (103, L) := by rw [q.1.2.2 900000 (Or.inr (by omega))]; exact h4
  have t5 : ∀ k, gI M1 900000 k = xs k := fun k => by rw [q.1.1 _ _ (Or.inr rfl)]; exact h5 k
  simp (disch := omega) only [q_aload1, q_aload1N, q_aload0, q_aload0N, q_iload4, q_iconst, q_iadd, q_iald, q_aload3, q_aload3N, q_invs5_22, q_istore5, q_aload2, q_aload2N, q_invv3, inv_1, q_istore6, q_invv0, q_iload5, q_ic_eq, q_zret, e_279_92, L_0, L_1, L_2, L_3, k_some, k_none, pRm_i, pRm_r, pRm_0, pF_1, pF_2, inv_s, t0, t4, t5, l1, l2, l3, l4, l5, pIn_n, pIx_n, nN_add, eq_self, Nat.reduceLT, Bool.false_eq_true, Nat.add_zero, Nat.zero_add, Nat.reduceAdd, Nat.reduceMul, Nat.reduceSub, Nat.zero_le, Nat.reduceLeDiff, Nat.reduceEqDiff, Nat.le_refl, not_false_eq_true, not_true_eq_false, false_implies, true_implies, forall_const, true_and, and_true, if_true, if_false, implies_true, and_self, ne_eq, false_and, and_false, or_false, false_or, true_or, or_true]
  refine mw_mono (mw_bm (T M1 m1 B1) B1) ?_
  rintro o M2 ⟨⟨⟨⟨w, rfl, hw⟩, th⟩, m2, A2⟩, B2⟩
  have u0 : gS M2 86 = (12, 0) := m2.mr.1.k0
  have NN := LI.next hI (by omega) c q B1 m2 A2 B2 G
  simp (disch := omega) only [q_aload1, q_aload1N, q_aload0, q_aload0N, q_iload4, q_iconst, q_iadd, q_iald, q_aload3, q_aload3N, q_invs5_22, q_istore5, q_aload2, q_aload2N, q_invv3, inv_1, q_istore6, q_invv0, q_iload5, q_ic_eq, q_zret, e_279_92, L_0, L_1, L_2, L_3, k_some, k_none, pRm_i, pRm_r, pRm_0, pF_1, pF_2, inv_s, m_51, q_aload0, q_aload0N, q_get_i, pTag_1, pRf_s, q_iret, e_51_0, u0, th, eq_self, Nat.reduceLT, Bool.false_eq_true, Nat.add_zero, Nat.zero_add, Nat.reduceAdd, Nat.reduceMul, Nat.reduceSub, Nat.zero_le, Nat.reduceLeDiff, Nat.reduceEqDiff, Nat.le_refl, not_false_eq_true, not_true_eq_false, false_implies, true_implies, forall_const, true_and, and_true, if_true, if_false, implies_true, and_self, ne_eq, false_and, and_false, or_false, false_or, true_or, or_true]
  rw [e_279_93]
  by_cases k0 : k = 0
  · subst k0
    have hv := hv rfl
    have hw := hw rfl
    subst hw
    have u3 : gS M2 100 = (101, 1) := NN.2.2.1
    have gj : gJ M2 100 0 = w.toInt64 := by rw [A2.J]; exact hv
    simp (disch := omega) only [q_iload5, q_if_ne, q_aload3, q_aload3N, q_iconst, q_lald, q_iload6, q_i2l, q_lcmp, q_if_eq, q_zret, q_goto, e_279_93, e_279_94, L_0, u3, gj, lg_self, pIn_n, pIx_n, nN_le, nN_lt, nN_eq, nN_add, nN_mul, nN_lt0, nN_ge0, nN_gt0, nN_le0, nN_eq0, nN_eq1, nN_neN, pIn_n, pIx_n, eq_self, Nat.reduceLT, Bool.false_eq_true, Nat.add_zero, Nat.zero_add, Nat.reduceAdd, Nat.reduceMul, Nat.reduceSub, Nat.zero_le, Nat.reduceLeDiff, Nat.reduceEqDiff, Nat.le_refl, not_false_eq_true, not_true_eq_false, false_implies, true_implies, forall_const, true_and, and_true, if_true, if_false, implies_true, and_self, ne_eq, false_and, and_false, or_false, false_or, true_or, or_true]
    exact go M2 _ _ NN
  · have k1 : ¬ nN k = 0 := by rw [nN_eq0 (by omega)]; exact k0
    simp (disch := omega) only [q_iload5, q_if_ne, q_aload3, q_aload3N, q_iconst, q_lald, q_iload6, q_i2l, q_lcmp, q_if_eq, q_zret, q_goto, e_279_93, e_279_94, L_0, k1, eq_self, Nat.reduceLT, Bool.false_eq_true, Nat.add_zero, Nat.zero_add, Nat.reduceAdd, Nat.reduceMul, Nat.reduceSub, Nat.zero_le, Nat.reduceLeDiff, Nat.reduceEqDiff, Nat.le_refl, not_false_eq_true, not_true_eq_false, false_implies, true_implies, forall_const, true_and, and_true, if_true, if_false, implies_true, and_self, ne_eq, false_and, and_false, or_false, false_or, true_or, or_true]
    exact go M2 _ _ NN
theorem B_takes (h : LI L xs G0 j M) (hL : L ≤ 3072) (hj : 6 * j + 6 ≤ L) (go : ∀ M' z5 z6, LI L xs G0 (j + 1) M' → bw 101 279 98 ([some (.ref 900000), some (.ref 0), some (.ref 86), some (.ref 100), some (.int (nN (6 * j))), z5, z6], [], M') Q) : bw 101 279 36 ([some (.ref 900000), some (.ref 0), some (.ref 86), some (.ref 100), some (.int (nN (6 * j))), z5, z6], [], M) Q := by
  have hI := h
  obtain ⟨⟨a, ak, img, n, b, fl, S⟩, ⟨h1, h2⟩, h3, h4, h5⟩ := h
  have l1 : 6 * j + 1 < L := by omega
  have l2 : 6 * j + 2 < L := by omega
  have l3 : 6 * j + 3 < L := by omega
  have l4 : 6 * j + 4 < L := by omega
  have l5 : 6 * j + 5 < L := by omega
  have s0 := S.ci.sh.k0
  rw [e_279_36]
  simp (disch := omega) only [q_aload1, q_aload1N, q_aload0, q_aload0N, q_iload4, q_iconst, q_iadd, q_iald, q_aload3, q_aload3N, q_invs4_22, q_istore5, q_aload2, q_aload2N, q_invv2, inv_1, q_istore6, q_invv0, q_iload5, q_ic_eq, q_zret, e_279_36, L_0, L_1, L_2, k_some, k_none, pRm_i, pRm_r, pRm_0, pF_1, pF_2, inv_s, h4, h5, l1, l2, l3, l4, l5, pIn_n, pIx_n, nN_add, eq_self, Nat.reduceLT, Bool.false_eq_true, Nat.add_zero, Nat.zero_add, Nat.reduceAdd, Nat.reduceMul, Nat.reduceSub, Nat.zero_le, Nat.reduceLeDiff, Nat.reduceEqDiff, Nat.le_refl, not_false_eq_true, not_true_eq_false, false_implies, true_implies, forall_const, true_and, and_true, if_true, if_false, implies_true, and_self, ne_eq, false_and, and_false, or_false, false_or, true_or, or_true]
  obtain ⟨k, v, a', ak', img', n', b', fl', C, T, G⟩ := P_takes (x := xs (6 * j + 1)) (y := xs (6 * j + 2)) S
  refine mw_mono (mw_bm (X_takes s0 h3 C) S.bm) ?_
  rintro _ M1 ⟨⟨rfl, kb, hv, c, q⟩, B1⟩
  have m1 := S.mi.mf q.1
  have t0 : gS M1 86 = (12, 0) := m1.mr.1.k0
  have t4 : gS M1 900000 = (103, L) := by rw [q.1.2.2 900000 (Or.inr (by omega))]; exact h4
  have t5 : ∀ k, gI M1 900000 k = xs k := fun k => by rw [q.1.1 _ _ (Or.inr rfl)]; exact h5 k
  simp (disch := omega) only [q_aload1, q_aload1N, q_aload0, q_aload0N, q_iload4, q_iconst, q_iadd, q_iald, q_aload3, q_aload3N, q_invs4_22, q_istore5, q_aload2, q_aload2N, q_invv2, inv_1, q_istore6, q_invv0, q_iload5, q_ic_eq, q_zret, e_279_36, L_0, L_1, L_2, k_some, k_none, pRm_i, pRm_r, pRm_0, pF_1, pF_2, inv_s, t0, t4, t5, l1, l2, l3, l4, l5, pIn_n, pIx_n, nN_add, eq_self, Nat.reduceLT, Bool.false_eq_true, Nat.add_zero, Nat.zero_add, Nat.reduceAdd, Nat.reduceMul, Nat.reduceSub, Nat.zero_le, Nat.reduceLeDiff, Nat.reduceEqDiff, Nat.le_refl, not_false_eq_true, not_true_eq_false, false_implies, true_implies, forall_const, true_and, and_true, if_true, if_false, implies_true, and_self, ne_eq, false_and, and_false, or_false, false_or, true_or, or_true]
  refine mw_mono (mw_bm (T M1 m1 B1) B1) ?_
  rintro o M2 ⟨⟨⟨⟨w, rfl, hw⟩, th⟩, m2, A2⟩, B2⟩
  have u0 : gS M2 86 = (12, 0) := m2.mr.1.k0
  have NN := LI.next hI (by omega) c q B1 m2 A2 B2 G
  simp (disch := omega) only [q_aload1, q_aload1N, q_aload0, q_aload0N, q_iload4, q_iconst, q_iadd, q_iald, q_aload3, q_aload3N, q_invs4_22, q_istore5, q_aload2, q_aload2N, q_invv2, inv_1, q_istore6, q_invv0, q_iload5, q_ic_eq, q_zret, e_279_36, L_0, L_1, L_2, k_some, k_none, pRm_i, pRm_r, pRm_0, pF_1, pF_2, inv_s, m_51, q_aload0, q_aload0N, q_get_i, pTag_1, pRf_s, q_iret, e_51_0, u0, th, eq_self, Nat.reduceLT, Bool.false_eq_true, Nat.add_zero, Nat.zero_add, Nat.reduceAdd, Nat.reduceMul, Nat.reduceSub, Nat.zero_le, Nat.reduceLeDiff, Nat.reduceEqDiff, Nat.le_refl, not_false_eq_true, not_true_eq_false, false_implies, true_implies, forall_const, true_and, and_true, if_true, if_false, implies_true, and_self, ne_eq, false_and, and_false, or_false, false_or, true_or, or_true]
  rw [e_279_37]
  by_cases k0 : k = 0
  · subst k0
    have hv := hv rfl
    have hw := hw rfl
    subst hw
    have u3 : gS M2 100 = (101, 1) := NN.2.2.1
    by_cases w0 : w = 0
    · have gj : gJ M2 100 0 = 0 := by rw [A2.J, hv, if_pos w0]
      simp (disch := omega) only [q_iload5, q_if_ne, q_aload3, q_aload3N, q_iconst, q_lald, q_iload6, q_if_eq, q_lconst1, q_goto, q_lconst0, q_nop, q_lcmp, q_zret, e_279_37, e_279_38, e_279_39, e_279_40, L_0, u3, gj, w0, lg_self, pIn_n, pIx_n, nN_le, nN_lt, nN_eq, nN_add, nN_mul, nN_lt0, nN_ge0, nN_gt0, nN_le0, nN_eq0, nN_eq1, nN_neN, pIn_n, pIx_n, eq_self, Nat.reduceLT, Bool.false_eq_true, Nat.add_zero, Nat.zero_add, Nat.reduceAdd, Nat.reduceMul, Nat.reduceSub, Nat.zero_le, Nat.reduceLeDiff, Nat.reduceEqDiff, Nat.le_refl, not_false_eq_true, not_true_eq_false, false_implies, true_implies, forall_const, true_and, and_true, if_true, if_false, implies_true, and_self, ne_eq, false_and, and_false, or_false, false_or, true_or, or_true]
      exact go M2 _ _ NN
    · have gj : gJ M2 100 0 = 1 := by rw [A2.J, hv, if_neg w0]
      simp (disch := omega) only [q_iload5, q_if_ne, q_aload3, q_aload3N, q_iconst, q_lald, q_iload6, q_if_eq, q_lconst1, q_goto, q_lconst0, q_nop, q_lcmp, q_zret, e_279_37, e_279_38, e_279_39, e_279_40, L_0, u3, gj, w0, lg_self, pIn_n, pIx_n, nN_le, nN_lt, nN_eq, nN_add, nN_mul, nN_lt0, nN_ge0, nN_gt0, nN_le0, nN_eq0, nN_eq1, nN_neN, pIn_n, pIx_n, eq_self, Nat.reduceLT, Bool.false_eq_true, Nat.add_zero, Nat.zero_add, Nat.reduceAdd, Nat.reduceMul, Nat.reduceSub, Nat.zero_le, Nat.reduceLeDiff, Nat.reduceEqDiff, Nat.le_refl, not_false_eq_true, not_true_eq_false, false_implies, true_implies, forall_const, true_and, and_true, if_true, if_false, implies_true, and_self, ne_eq, false_and, and_false, or_false, false_or, true_or, or_true]
      exact go M2 _ _ NN
  · have k1 : ¬ nN k = 0 := by rw [nN_eq0 (by omega)]; exact k0
    simp (disch := omega) only [q_iload5, q_if_ne, q_aload3, q_aload3N, q_iconst, q_lald, q_iload6, q_if_eq, q_lconst1, q_goto, e_279_37, e_279_40, L_0, k1, eq_self, Nat.reduceLT, Bool.false_eq_true, Nat.add_zero, Nat.zero_add, Nat.reduceAdd, Nat.reduceMul, Nat.reduceSub, Nat.zero_le, Nat.reduceLeDiff, Nat.reduceEqDiff, Nat.le_refl, not_false_eq_true, not_true_eq_false, false_implies, true_implies, forall_const, true_and, and_true, if_true, if_false, implies_true, and_self, ne_eq, false_and, and_false, or_false, false_or, true_or, or_true]
    exact go M2 _ _ NN
theorem B_can (h : LI L xs G0 j M) (hL : L ≤ 3072) (hj : 6 * j + 6 ≤ L) (go : ∀ M' z5 z6, LI L xs G0 (j + 1) M' → bw 101 279 98 ([some (.ref 900000), some (.ref 0), some (.ref 86), some (.ref 100), some (.int (nN (6 * j))), z5, z6], [], M') Q) : bw 101 279 53 ([some (.ref 900000), some (.ref 0), some (.ref 86), some (.ref 100), some (.int (nN (6 * j))), z5, z6], [], M) Q := by
  have hI := h
  obtain ⟨⟨a, ak, img, n, b, fl, S⟩, ⟨h1, h2⟩, h3, h4, h5⟩ := h
  have l1 : 6 * j + 1 < L := by omega
  have l2 : 6 * j + 2 < L := by omega
  have l3 : 6 * j + 3 < L := by omega
  have l4 : 6 * j + 4 < L := by omega
  have l5 : 6 * j + 5 < L := by omega
  have s0 := S.ci.sh.k0
  rw [e_279_53]
  simp (disch := omega) only [q_aload1, q_aload1N, q_aload0, q_aload0N, q_iload4, q_iconst, q_iadd, q_iald, q_aload3, q_aload3N, q_invs3_22, q_istore5, q_aload2, q_aload2N, q_invv1, inv_1, q_istore6, q_invv0, q_iload5, q_ic_eq, q_zret, e_279_53, L_0, L_1, k_some, k_none, pRm_i, pRm_r, pRm_0, pF_1, pF_2, inv_s, h4, h5, l1, l2, l3, l4, l5, pIn_n, pIx_n, nN_add, eq_self, Nat.reduceLT, Bool.false_eq_true, Nat.add_zero, Nat.zero_add, Nat.reduceAdd, Nat.reduceMul, Nat.reduceSub, Nat.zero_le, Nat.reduceLeDiff, Nat.reduceEqDiff, Nat.le_refl, not_false_eq_true, not_true_eq_false, false_implies, true_implies, forall_const, true_and, and_true, if_true, if_false, implies_true, and_self, ne_eq, false_and, and_false, or_false, false_or, true_or, or_true]
  obtain ⟨k, v, a', ak', img', n', b', fl', C, T, G⟩ := P_can (x := xs (6 * j + 1)) S
  refine mw_mono (mw_bm (X_can s0 h3 C) S.bm) ?_
  rintro _ M1 ⟨⟨rfl, kb, hv, c, q⟩, B1⟩
  have m1 := S.mi.mf q.1
  have t0 : gS M1 86 = (12, 0) := m1.mr.1.k0
  have t4 : gS M1 900000 = (103, L) := by rw [q.1.2.2 900000 (Or.inr (by omega))]; exact h4
  have t5 : ∀ k, gI M1 900000 k = xs k := fun k => by rw [q.1.1 _ _ (Or.inr rfl)]; exact h5 k
  simp (disch := omega) only [q_aload1, q_aload1N, q_aload0, q_aload0N, q_iload4, q_iconst, q_iadd, q_iald, q_aload3, q_aload3N, q_invs3_22, q_istore5, q_aload2, q_aload2N, q_invv1, inv_1, q_istore6, q_invv0, q_iload5, q_ic_eq, q_zret, e_279_53, L_0, L_1, k_some, k_none, pRm_i, pRm_r, pRm_0, pF_1, pF_2, inv_s, t0, t4, t5, l1, l2, l3, l4, l5, pIn_n, pIx_n, nN_add, eq_self, Nat.reduceLT, Bool.false_eq_true, Nat.add_zero, Nat.zero_add, Nat.reduceAdd, Nat.reduceMul, Nat.reduceSub, Nat.zero_le, Nat.reduceLeDiff, Nat.reduceEqDiff, Nat.le_refl, not_false_eq_true, not_true_eq_false, false_implies, true_implies, forall_const, true_and, and_true, if_true, if_false, implies_true, and_self, ne_eq, false_and, and_false, or_false, false_or, true_or, or_true]
  refine mw_mono (mw_bm (T M1 m1 B1) B1) ?_
  rintro o M2 ⟨⟨⟨⟨w, rfl, hw⟩, th⟩, m2, A2⟩, B2⟩
  have u0 : gS M2 86 = (12, 0) := m2.mr.1.k0
  have NN := LI.next hI (by omega) c q B1 m2 A2 B2 G
  simp (disch := omega) only [q_aload1, q_aload1N, q_aload0, q_aload0N, q_iload4, q_iconst, q_iadd, q_iald, q_aload3, q_aload3N, q_invs3_22, q_istore5, q_aload2, q_aload2N, q_invv1, inv_1, q_istore6, q_invv0, q_iload5, q_ic_eq, q_zret, e_279_53, L_0, L_1, k_some, k_none, pRm_i, pRm_r, pRm_0, pF_1, pF_2, inv_s, m_51, q_aload0, q_aload0N, q_get_i, pTag_1, pRf_s, q_iret, e_51_0, u0, th, eq_self, Nat.reduceLT, Bool.false_eq_true, Nat.add_zero, Nat.zero_add, Nat.reduceAdd, Nat.reduceMul, Nat.reduceSub, Nat.zero_le, Nat.reduceLeDiff, Nat.reduceEqDiff, Nat.le_refl, not_false_eq_true, not_true_eq_false, false_implies, true_implies, forall_const, true_and, and_true, if_true, if_false, implies_true, and_self, ne_eq, false_and, and_false, or_false, false_or, true_or, or_true]
  rw [e_279_54]
  by_cases k0 : k = 0
  · subst k0
    have hv := hv rfl
    have hw := hw rfl
    subst hw
    have u3 : gS M2 100 = (101, 1) := NN.2.2.1
    by_cases w0 : w = 0
    · have gj : gJ M2 100 0 = 0 := by rw [A2.J, hv, if_pos w0]
      simp (disch := omega) only [q_iload5, q_if_ne, q_aload3, q_aload3N, q_iconst, q_lald, q_iload6, q_if_eq, q_lconst1, q_goto, q_lconst0, q_nop, q_lcmp, q_zret, e_279_54, e_279_55, e_279_56, e_279_57, L_0, u3, gj, w0, lg_self, pIn_n, pIx_n, nN_le, nN_lt, nN_eq, nN_add, nN_mul, nN_lt0, nN_ge0, nN_gt0, nN_le0, nN_eq0, nN_eq1, nN_neN, pIn_n, pIx_n, eq_self, Nat.reduceLT, Bool.false_eq_true, Nat.add_zero, Nat.zero_add, Nat.reduceAdd, Nat.reduceMul, Nat.reduceSub, Nat.zero_le, Nat.reduceLeDiff, Nat.reduceEqDiff, Nat.le_refl, not_false_eq_true, not_true_eq_false, false_implies, true_implies, forall_const, true_and, and_true, if_true, if_false, implies_true, and_self, ne_eq, false_and, and_false, or_false, false_or, true_or, or_true]
      exact go M2 _ _ NN
    · have gj : gJ M2 100 0 = 1 := by rw [A2.J, hv, if_neg w0]
      simp (disch := omega) only [q_iload5, q_if_ne, q_aload3, q_aload3N, q_iconst, q_lald, q_iload6, q_if_eq, q_lconst1, q_goto, q_lconst0, q_nop, q_lcmp, q_zret, e_279_54, e_279_55, e_279_56, e_279_57, L_0, u3, gj, w0, lg_self, pIn_n, pIx_n, nN_le, nN_lt, nN_eq, nN_add, nN_mul, nN_lt0, nN_ge0, nN_gt0, nN_le0, nN_eq0, nN_eq1, nN_neN, pIn_n, pIx_n, eq_self, Nat.reduceLT, Bool.false_eq_true, Nat.add_zero, Nat.zero_add, Nat.reduceAdd, Nat.reduceMul, Nat.reduceSub, Nat.zero_le, Nat.reduceLeDiff, Nat.reduceEqDiff, Nat.le_refl, not_false_eq_true, not_true_eq_false, false_implies, true_implies, forall_const, true_and, and_true, if_true, if_false, implies_true, and_self, ne_eq, false_and, and_false, or_false, false_or, true_or, or_true]
      exact go M2 _ _ NN
  · have k1 : ¬ nN k = 0 := by rw [nN_eq0 (by omega)]; exact k0
    simp (disch := omega) only [q_iload5, q_if_ne, q_aload3, q_aload3N, q_iconst, q_lald, q_iload6, q_if_eq, q_lconst1, q_goto, e_279_54, e_279_57, L_0, k1, eq_self, Nat.reduceLT, Bool.false_eq_true, Nat.add_zero, Nat.zero_add, Nat.reduceAdd, Nat.reduceMul, Nat.reduceSub, Nat.zero_le, Nat.reduceLeDiff, Nat.reduceEqDiff, Nat.le_refl, not_false_eq_true, not_true_eq_false, false_implies, true_implies, forall_const, true_and, and_true, if_true, if_false, implies_true, and_self, ne_eq, false_and, and_false, or_false, false_or, true_or, or_true]
    exact go M2 _ _ NN
theorem B_feed (h : LI L xs G0 j M) (hL : L ≤ 3072) (hj : 6 * j + 6 ≤ L) (go : ∀ M' z5 z6, LI L xs G0 (j + 1) M' → bw 101 279 98 ([some (.ref 900000), some (.ref 0), some (.ref 86), some (.ref 100), some (.int (nN (6 * j))), z5, z6], [], M') Q) : bw 101 279 2 ([some (.ref 900000), some (.ref 0), some (.ref 86), some (.ref 100), some (.int (nN (6 * j))), z5, z6], [], M) Q := by
  have hI := h
  obtain ⟨⟨a, ak, img, n, b, fl, S⟩, ⟨h1, h2⟩, h3, h4, h5⟩ := h
  have l1 : 6 * j + 1 < L := by omega
  have l2 : 6 * j + 2 < L := by omega
  have l3 : 6 * j + 3 < L := by omega
  have l4 : 6 * j + 4 < L := by omega
  have l5 : 6 * j + 5 < L := by omega
  have s0 := S.ci.sh.k0
  rw [e_279_2]
  simp (disch := omega) only [q_aload1, q_aload1N, q_aload0, q_aload0N, q_iload4, q_iconst, q_iadd, q_iald, q_invv5, inv_1, q_aload2, q_aload2N, q_ic_eq, q_zret, e_279_2, L_0, L_1, L_2, L_3, L_4, L_5, k_some, k_none, pRm_i, pRm_r, pRm_0, pF_1, pF_2, inv_s, s0, h4, h5, l1, l2, l3, l4, l5, pIn_n, pIx_n, nN_add, eq_self, Nat.reduceLT, Bool.false_eq_true, Nat.add_zero, Nat.zero_add, Nat.reduceAdd, Nat.reduceMul, Nat.reduceSub, Nat.zero_le, Nat.reduceLeDiff, Nat.reduceEqDiff, Nat.le_refl, not_false_eq_true, not_true_eq_false, false_implies, true_implies, forall_const, true_and, and_true, if_true, if_false, implies_true, and_self, ne_eq, false_and, and_false, or_false, false_or, true_or, or_true]
  obtain ⟨v, a', ak', img', n', b', fl', C, T, G⟩ := P_feed (v0 := xs (6 * j + 1)) (v1 := xs (6 * j + 2)) (v2 := xs (6 * j + 3)) (v3 := xs (6 * j + 4)) (v4 := xs (6 * j + 5)) S
  refine mw_mono (mw_bm C S.bm) ?_
  rintro o1 M1 ⟨⟨O, c, q⟩, B1⟩
  obtain ⟨-, rfl⟩ := Or.resolve_right O (fun z => z.1 rfl)
  have m1 := S.mi.mf q.1
  have t0 : gS M1 86 = (12, 0) := m1.mr.1.k0
  have t4 : gS M1 900000 = (103, L) := by rw [q.1.2.2 900000 (Or.inr (by omega))]; exact h4
  have t5 : ∀ k, gI M1 900000 k = xs k := fun k => by rw [q.1.1 _ _ (Or.inr rfl)]; exact h5 k
  simp (disch := omega) only [q_aload1, q_aload1N, q_aload0, q_aload0N, q_iload4, q_iconst, q_iadd, q_iald, q_invv5, inv_1, q_aload2, q_aload2N, q_ic_eq, q_zret, e_279_2, L_0, L_1, L_2, L_3, L_4, L_5, k_some, k_none, pRm_i, pRm_r, pRm_0, pF_1, pF_2, inv_s, t0, t4, t5, l1, l2, l3, l4, l5, pIn_n, pIx_n, nN_add, eq_self, Nat.reduceLT, Bool.false_eq_true, Nat.add_zero, Nat.zero_add, Nat.reduceAdd, Nat.reduceMul, Nat.reduceSub, Nat.zero_le, Nat.reduceLeDiff, Nat.reduceEqDiff, Nat.le_refl, not_false_eq_true, not_true_eq_false, false_implies, true_implies, forall_const, true_and, and_true, if_true, if_false, implies_true, and_self, ne_eq, false_and, and_false, or_false, false_or, true_or, or_true]
  refine mw_mono (mw_bm (T M1 m1 B1) B1) ?_
  rintro o M2 ⟨⟨rfl, m2, A2⟩, B2⟩
  have NN := LI.next hI (by omega) c q B1 m2 A2 B2 G
  simp (disch := omega) only [q_aload1, q_aload1N, q_aload0, q_aload0N, q_iload4, q_iconst, q_iadd, q_iald, q_invv5, inv_1, q_aload2, q_aload2N, q_ic_eq, q_zret, e_279_2, L_0, L_1, L_2, L_3, L_4, L_5, k_some, k_none, pRm_i, pRm_r, pRm_0, pF_1, pF_2, inv_s, eq_self, Nat.reduceLT, Bool.false_eq_true, Nat.add_zero, Nat.zero_add, Nat.reduceAdd, Nat.reduceMul, Nat.reduceSub, Nat.zero_le, Nat.reduceLeDiff, Nat.reduceEqDiff, Nat.le_refl, not_false_eq_true, not_true_eq_false, false_implies, true_implies, forall_const, true_and, and_true, if_true, if_false, implies_true, and_self, ne_eq, false_and, and_false, or_false, false_or, true_or, or_true]
  exact go M2 _ _ NN
theorem B_end (h : LI L xs G0 j M) (hL : L ≤ 3072) (hj : 6 * j + 6 ≤ L) (go : ∀ M' z5 z6, LI L xs G0 (j + 1) M' → bw 101 279 98 ([some (.ref 900000), some (.ref 0), some (.ref 86), some (.ref 100), some (.int (nN (6 * j))), z5, z6], [], M') Q) : bw 101 279 3 ([some (.ref 900000), some (.ref 0), some (.ref 86), some (.ref 100), some (.int (nN (6 * j))), z5, z6], [], M) Q := by
  have hI := h
  obtain ⟨⟨a, ak, img, n, b, fl, S⟩, ⟨h1, h2⟩, h3, h4, h5⟩ := h
  have l1 : 6 * j + 1 < L := by omega
  have l2 : 6 * j + 2 < L := by omega
  have l3 : 6 * j + 3 < L := by omega
  have l4 : 6 * j + 4 < L := by omega
  have l5 : 6 * j + 5 < L := by omega
  have s0 := S.ci.sh.k0
  rw [e_279_3]
  simp (disch := omega) only [q_aload1, q_aload1N, q_aload0, q_aload0N, q_iload4, q_iconst, q_iadd, q_iald, q_invv1, inv_1, q_aload2, q_aload2N, q_ic_eq, q_zret, e_279_3, L_0, L_1, k_some, k_none, pRm_i, pRm_r, pRm_0, pF_1, pF_2, inv_s, s0, h4, h5, l1, l2, l3, l4, l5, pIn_n, pIx_n, nN_add, eq_self, Nat.reduceLT, Bool.false_eq_true, Nat.add_zero, Nat.zero_add, Nat.reduceAdd, Nat.reduceMul, Nat.reduceSub, Nat.zero_le, Nat.reduceLeDiff, Nat.reduceEqDiff, Nat.le_refl, not_false_eq_true, not_true_eq_false, false_implies, true_implies, forall_const, true_and, and_true, if_true, if_false, implies_true, and_self, ne_eq, false_and, and_false, or_false, false_or, true_or, or_true]
  obtain ⟨v, a', ak', img', n', b', fl', C, T, G⟩ := P_end (x := xs (6 * j + 1)) S
  refine mw_mono (mw_bm C S.bm) ?_
  rintro o1 M1 ⟨⟨O, c, q⟩, B1⟩
  obtain ⟨-, rfl⟩ := Or.resolve_right O (fun z => z.1 rfl)
  have m1 := S.mi.mf q.1
  have t0 : gS M1 86 = (12, 0) := m1.mr.1.k0
  have t4 : gS M1 900000 = (103, L) := by rw [q.1.2.2 900000 (Or.inr (by omega))]; exact h4
  have t5 : ∀ k, gI M1 900000 k = xs k := fun k => by rw [q.1.1 _ _ (Or.inr rfl)]; exact h5 k
  simp (disch := omega) only [q_aload1, q_aload1N, q_aload0, q_aload0N, q_iload4, q_iconst, q_iadd, q_iald, q_invv1, inv_1, q_aload2, q_aload2N, q_ic_eq, q_zret, e_279_3, L_0, L_1, k_some, k_none, pRm_i, pRm_r, pRm_0, pF_1, pF_2, inv_s, t0, t4, t5, l1, l2, l3, l4, l5, pIn_n, pIx_n, nN_add, eq_self, Nat.reduceLT, Bool.false_eq_true, Nat.add_zero, Nat.zero_add, Nat.reduceAdd, Nat.reduceMul, Nat.reduceSub, Nat.zero_le, Nat.reduceLeDiff, Nat.reduceEqDiff, Nat.le_refl, not_false_eq_true, not_true_eq_false, false_implies, true_implies, forall_const, true_and, and_true, if_true, if_false, implies_true, and_self, ne_eq, false_and, and_false, or_false, false_or, true_or, or_true]
  refine mw_mono (mw_bm (T M1 m1 B1) B1) ?_
  rintro o M2 ⟨⟨rfl, m2, A2⟩, B2⟩
  have NN := LI.next hI (by omega) c q B1 m2 A2 B2 G
  simp (disch := omega) only [q_aload1, q_aload1N, q_aload0, q_aload0N, q_iload4, q_iconst, q_iadd, q_iald, q_invv1, inv_1, q_aload2, q_aload2N, q_ic_eq, q_zret, e_279_3, L_0, L_1, k_some, k_none, pRm_i, pRm_r, pRm_0, pF_1, pF_2, inv_s, eq_self, Nat.reduceLT, Bool.false_eq_true, Nat.add_zero, Nat.zero_add, Nat.reduceAdd, Nat.reduceMul, Nat.reduceSub, Nat.zero_le, Nat.reduceLeDiff, Nat.reduceEqDiff, Nat.le_refl, not_false_eq_true, not_true_eq_false, false_implies, true_implies, forall_const, true_and, and_true, if_true, if_false, implies_true, and_self, ne_eq, false_and, and_false, or_false, false_or, true_or, or_true]
  exact go M2 _ _ NN
theorem B_fault (h : LI L xs G0 j M) (hL : L ≤ 3072) (hj : 6 * j + 6 ≤ L) (go : ∀ M' z5 z6, LI L xs G0 (j + 1) M' → bw 101 279 98 ([some (.ref 900000), some (.ref 0), some (.ref 86), some (.ref 100), some (.int (nN (6 * j))), z5, z6], [], M') Q) : bw 101 279 10 ([some (.ref 900000), some (.ref 0), some (.ref 86), some (.ref 100), some (.int (nN (6 * j))), z5, z6], [], M) Q := by
  have hI := h
  obtain ⟨⟨a, ak, img, n, b, fl, S⟩, ⟨h1, h2⟩, h3, h4, h5⟩ := h
  have l1 : 6 * j + 1 < L := by omega
  have l2 : 6 * j + 2 < L := by omega
  have l3 : 6 * j + 3 < L := by omega
  have l4 : 6 * j + 4 < L := by omega
  have l5 : 6 * j + 5 < L := by omega
  have s0 := S.ci.sh.k0
  rw [e_279_10]
  simp (disch := omega) only [q_aload1, q_aload1N, q_invv0, inv_1, q_aload2, q_aload2N, q_ic_eq, q_iconst, q_zret, e_279_10, L_0, k_some, k_none, pRm_i, pRm_r, pRm_0, pF_1, pF_2, inv_s, s0, h4, h5, l1, l2, l3, l4, l5, pIn_n, pIx_n, nN_add, eq_self, Nat.reduceLT, Bool.false_eq_true, Nat.add_zero, Nat.zero_add, Nat.reduceAdd, Nat.reduceMul, Nat.reduceSub, Nat.zero_le, Nat.reduceLeDiff, Nat.reduceEqDiff, Nat.le_refl, not_false_eq_true, not_true_eq_false, false_implies, true_implies, forall_const, true_and, and_true, if_true, if_false, implies_true, and_self, ne_eq, false_and, and_false, or_false, false_or, true_or, or_true]
  obtain ⟨v, a', ak', img', n', b', fl', C, T, G⟩ := P_fault  S
  refine mw_mono (mw_bm C S.bm) ?_
  rintro o1 M1 ⟨⟨O, c, q⟩, B1⟩
  obtain ⟨-, rfl⟩ := Or.resolve_right O (fun z => z.1 rfl)
  have m1 := S.mi.mf q.1
  have t0 : gS M1 86 = (12, 0) := m1.mr.1.k0
  have t4 : gS M1 900000 = (103, L) := by rw [q.1.2.2 900000 (Or.inr (by omega))]; exact h4
  have t5 : ∀ k, gI M1 900000 k = xs k := fun k => by rw [q.1.1 _ _ (Or.inr rfl)]; exact h5 k
  simp (disch := omega) only [q_aload1, q_aload1N, q_invv0, inv_1, q_aload2, q_aload2N, q_ic_eq, q_iconst, q_zret, e_279_10, L_0, k_some, k_none, pRm_i, pRm_r, pRm_0, pF_1, pF_2, inv_s, t0, t4, t5, l1, l2, l3, l4, l5, pIn_n, pIx_n, nN_add, eq_self, Nat.reduceLT, Bool.false_eq_true, Nat.add_zero, Nat.zero_add, Nat.reduceAdd, Nat.reduceMul, Nat.reduceSub, Nat.zero_le, Nat.reduceLeDiff, Nat.reduceEqDiff, Nat.le_refl, not_false_eq_true, not_true_eq_false, false_implies, true_implies, forall_const, true_and, and_true, if_true, if_false, implies_true, and_self, ne_eq, false_and, and_false, or_false, false_or, true_or, or_true]
  refine mw_mono (mw_bm (T M1 m1 B1) B1) ?_
  rintro o M2 ⟨⟨rfl, m2, A2⟩, B2⟩
  have NN := LI.next hI (by omega) c q B1 m2 A2 B2 G
  simp (disch := omega) only [q_aload1, q_aload1N, q_invv0, inv_1, q_aload2, q_aload2N, q_ic_eq, q_iconst, q_zret, e_279_10, L_0, k_some, k_none, pRm_i, pRm_r, pRm_0, pF_1, pF_2, inv_s, eq_self, Nat.reduceLT, Bool.false_eq_true, Nat.add_zero, Nat.zero_add, Nat.reduceAdd, Nat.reduceMul, Nat.reduceSub, Nat.zero_le, Nat.reduceLeDiff, Nat.reduceEqDiff, Nat.le_refl, not_false_eq_true, not_true_eq_false, false_implies, true_implies, forall_const, true_and, and_true, if_true, if_false, implies_true, and_self, ne_eq, false_and, and_false, or_false, false_or, true_or, or_true]
  exact go M2 _ _ NN
theorem B_enough (h : LI L xs G0 j M) (hL : L ≤ 3072) (hj : 6 * j + 6 ≤ L) (go : ∀ M' z5 z6, LI L xs G0 (j + 1) M' → bw 101 279 98 ([some (.ref 900000), some (.ref 0), some (.ref 86), some (.ref 100), some (.int (nN (6 * j))), z5, z6], [], M') Q) : bw 101 279 61 ([some (.ref 900000), some (.ref 0), some (.ref 86), some (.ref 100), some (.int (nN (6 * j))), z5, z6], [], M) Q := by
  have hI := h
  obtain ⟨⟨a, ak, img, n, b, fl, S⟩, ⟨h1, h2⟩, h3, h4, h5⟩ := h
  have l1 : 6 * j + 1 < L := by omega
  have l2 : 6 * j + 2 < L := by omega
  have l3 : 6 * j + 3 < L := by omega
  have l4 : 6 * j + 4 < L := by omega
  have l5 : 6 * j + 5 < L := by omega
  have s0 := S.ci.sh.k0
  rw [e_279_61]
  simp (disch := omega) only [q_aload1, q_aload1N, q_aload0, q_aload0N, q_iload4, q_iconst, q_iadd, q_iald, q_invv1, inv_1, q_aload2, q_aload2N, q_ic_eq, q_zret, e_279_61, L_0, L_1, k_some, k_none, pRm_i, pRm_r, pRm_0, pF_1, pF_2, inv_s, s0, h4, h5, l1, l2, l3, l4, l5, pIn_n, pIx_n, nN_add, eq_self, Nat.reduceLT, Bool.false_eq_true, Nat.add_zero, Nat.zero_add, Nat.reduceAdd, Nat.reduceMul, Nat.reduceSub, Nat.zero_le, Nat.reduceLeDiff, Nat.reduceEqDiff, Nat.le_refl, not_false_eq_true, not_true_eq_false, false_implies, true_implies, forall_const, true_and, and_true, if_true, if_false, implies_true, and_self, ne_eq, false_and, and_false, or_false, false_or, true_or, or_true]
  obtain ⟨v, a', ak', img', n', b', fl', C, T, G⟩ := P_enough (x := xs (6 * j + 1)) S
  refine mw_mono (mw_bm C S.bm) ?_
  rintro o1 M1 ⟨⟨O, c, q⟩, B1⟩
  obtain ⟨-, rfl⟩ := Or.resolve_right O (fun z => z.1 rfl)
  have m1 := S.mi.mf q.1
  have t0 : gS M1 86 = (12, 0) := m1.mr.1.k0
  have t4 : gS M1 900000 = (103, L) := by rw [q.1.2.2 900000 (Or.inr (by omega))]; exact h4
  have t5 : ∀ k, gI M1 900000 k = xs k := fun k => by rw [q.1.1 _ _ (Or.inr rfl)]; exact h5 k
  simp (disch := omega) only [q_aload1, q_aload1N, q_aload0, q_aload0N, q_iload4, q_iconst, q_iadd, q_iald, q_invv1, inv_1, q_aload2, q_aload2N, q_ic_eq, q_zret, e_279_61, L_0, L_1, k_some, k_none, pRm_i, pRm_r, pRm_0, pF_1, pF_2, inv_s, t0, t4, t5, l1, l2, l3, l4, l5, pIn_n, pIx_n, nN_add, eq_self, Nat.reduceLT, Bool.false_eq_true, Nat.add_zero, Nat.zero_add, Nat.reduceAdd, Nat.reduceMul, Nat.reduceSub, Nat.zero_le, Nat.reduceLeDiff, Nat.reduceEqDiff, Nat.le_refl, not_false_eq_true, not_true_eq_false, false_implies, true_implies, forall_const, true_and, and_true, if_true, if_false, implies_true, and_self, ne_eq, false_and, and_false, or_false, false_or, true_or, or_true]
  refine mw_mono (mw_bm (T M1 m1 B1) B1) ?_
  rintro o M2 ⟨⟨rfl, m2, A2⟩, B2⟩
  have NN := LI.next hI (by omega) c q B1 m2 A2 B2 G
  simp (disch := omega) only [q_aload1, q_aload1N, q_aload0, q_aload0N, q_iload4, q_iconst, q_iadd, q_iald, q_invv1, inv_1, q_aload2, q_aload2N, q_ic_eq, q_zret, e_279_61, L_0, L_1, k_some, k_none, pRm_i, pRm_r, pRm_0, pF_1, pF_2, inv_s, eq_self, Nat.reduceLT, Bool.false_eq_true, Nat.add_zero, Nat.zero_add, Nat.reduceAdd, Nat.reduceMul, Nat.reduceSub, Nat.zero_le, Nat.reduceLeDiff, Nat.reduceEqDiff, Nat.le_refl, not_false_eq_true, not_true_eq_false, false_implies, true_implies, forall_const, true_and, and_true, if_true, if_false, implies_true, and_self, ne_eq, false_and, and_false, or_false, false_or, true_or, or_true]
  exact go M2 _ _ NN
theorem B_witness (h : LI L xs G0 j M) (hL : L ≤ 3072) (hj : 6 * j + 6 ≤ L) (go : ∀ M' z5 z6, LI L xs G0 (j + 1) M' → bw 101 279 98 ([some (.ref 900000), some (.ref 0), some (.ref 86), some (.ref 100), some (.int (nN (6 * j))), z5, z6], [], M') Q) : bw 101 279 62 ([some (.ref 900000), some (.ref 0), some (.ref 86), some (.ref 100), some (.int (nN (6 * j))), z5, z6], [], M) Q := by
  have hI := h
  obtain ⟨⟨a, ak, img, n, b, fl, S⟩, ⟨h1, h2⟩, h3, h4, h5⟩ := h
  have l1 : 6 * j + 1 < L := by omega
  have l2 : 6 * j + 2 < L := by omega
  have l3 : 6 * j + 3 < L := by omega
  have l4 : 6 * j + 4 < L := by omega
  have l5 : 6 * j + 5 < L := by omega
  have s0 := S.ci.sh.k0
  rw [e_279_62]
  simp (disch := omega) only [q_aload1, q_aload1N, q_aload0, q_aload0N, q_iload4, q_iconst, q_iadd, q_iald, q_invv1, inv_1, q_aload2, q_aload2N, q_ic_eq, q_zret, e_279_62, L_0, L_1, k_some, k_none, pRm_i, pRm_r, pRm_0, pF_1, pF_2, inv_s, s0, h4, h5, l1, l2, l3, l4, l5, pIn_n, pIx_n, nN_add, eq_self, Nat.reduceLT, Bool.false_eq_true, Nat.add_zero, Nat.zero_add, Nat.reduceAdd, Nat.reduceMul, Nat.reduceSub, Nat.zero_le, Nat.reduceLeDiff, Nat.reduceEqDiff, Nat.le_refl, not_false_eq_true, not_true_eq_false, false_implies, true_implies, forall_const, true_and, and_true, if_true, if_false, implies_true, and_self, ne_eq, false_and, and_false, or_false, false_or, true_or, or_true]
  obtain ⟨v, a', ak', img', n', b', fl', C, T, G⟩ := P_witness (x := xs (6 * j + 1)) S
  refine mw_mono (mw_bm C S.bm) ?_
  rintro o1 M1 ⟨⟨O, c, q⟩, B1⟩
  obtain ⟨-, rfl⟩ := Or.resolve_right O (fun z => z.1 rfl)
  have m1 := S.mi.mf q.1
  have t0 : gS M1 86 = (12, 0) := m1.mr.1.k0
  have t4 : gS M1 900000 = (103, L) := by rw [q.1.2.2 900000 (Or.inr (by omega))]; exact h4
  have t5 : ∀ k, gI M1 900000 k = xs k := fun k => by rw [q.1.1 _ _ (Or.inr rfl)]; exact h5 k
  simp (disch := omega) only [q_aload1, q_aload1N, q_aload0, q_aload0N, q_iload4, q_iconst, q_iadd, q_iald, q_invv1, inv_1, q_aload2, q_aload2N, q_ic_eq, q_zret, e_279_62, L_0, L_1, k_some, k_none, pRm_i, pRm_r, pRm_0, pF_1, pF_2, inv_s, t0, t4, t5, l1, l2, l3, l4, l5, pIn_n, pIx_n, nN_add, eq_self, Nat.reduceLT, Bool.false_eq_true, Nat.add_zero, Nat.zero_add, Nat.reduceAdd, Nat.reduceMul, Nat.reduceSub, Nat.zero_le, Nat.reduceLeDiff, Nat.reduceEqDiff, Nat.le_refl, not_false_eq_true, not_true_eq_false, false_implies, true_implies, forall_const, true_and, and_true, if_true, if_false, implies_true, and_self, ne_eq, false_and, and_false, or_false, false_or, true_or, or_true]
  refine mw_mono (mw_bm (T M1 m1 B1) B1) ?_
  rintro o M2 ⟨⟨rfl, m2, A2⟩, B2⟩
  have NN := LI.next hI (by omega) c q B1 m2 A2 B2 G
  simp (disch := omega) only [q_aload1, q_aload1N, q_aload0, q_aload0N, q_iload4, q_iconst, q_iadd, q_iald, q_invv1, inv_1, q_aload2, q_aload2N, q_ic_eq, q_zret, e_279_62, L_0, L_1, k_some, k_none, pRm_i, pRm_r, pRm_0, pF_1, pF_2, inv_s, eq_self, Nat.reduceLT, Bool.false_eq_true, Nat.add_zero, Nat.zero_add, Nat.reduceAdd, Nat.reduceMul, Nat.reduceSub, Nat.zero_le, Nat.reduceLeDiff, Nat.reduceEqDiff, Nat.le_refl, not_false_eq_true, not_true_eq_false, false_implies, true_implies, forall_const, true_and, and_true, if_true, if_false, implies_true, and_self, ne_eq, false_and, and_false, or_false, false_or, true_or, or_true]
  exact go M2 _ _ NN
theorem B_fewest (h : LI L xs G0 j M) (hL : L ≤ 3072) (hj : 6 * j + 6 ≤ L) (go : ∀ M' z5 z6, LI L xs G0 (j + 1) M' → bw 101 279 98 ([some (.ref 900000), some (.ref 0), some (.ref 86), some (.ref 100), some (.int (nN (6 * j))), z5, z6], [], M') Q) : bw 101 279 63 ([some (.ref 900000), some (.ref 0), some (.ref 86), some (.ref 100), some (.int (nN (6 * j))), z5, z6], [], M) Q := by
  have hI := h
  obtain ⟨⟨a, ak, img, n, b, fl, S⟩, ⟨h1, h2⟩, h3, h4, h5⟩ := h
  have l1 : 6 * j + 1 < L := by omega
  have l2 : 6 * j + 2 < L := by omega
  have l3 : 6 * j + 3 < L := by omega
  have l4 : 6 * j + 4 < L := by omega
  have l5 : 6 * j + 5 < L := by omega
  have s0 := S.ci.sh.k0
  rw [e_279_63]
  simp (disch := omega) only [q_aload1, q_aload1N, q_invv0, inv_1, q_aload2, q_aload2N, q_ic_eq, q_iconst, q_zret, e_279_63, L_0, k_some, k_none, pRm_i, pRm_r, pRm_0, pF_1, pF_2, inv_s, s0, h4, h5, l1, l2, l3, l4, l5, pIn_n, pIx_n, nN_add, eq_self, Nat.reduceLT, Bool.false_eq_true, Nat.add_zero, Nat.zero_add, Nat.reduceAdd, Nat.reduceMul, Nat.reduceSub, Nat.zero_le, Nat.reduceLeDiff, Nat.reduceEqDiff, Nat.le_refl, not_false_eq_true, not_true_eq_false, false_implies, true_implies, forall_const, true_and, and_true, if_true, if_false, implies_true, and_self, ne_eq, false_and, and_false, or_false, false_or, true_or, or_true]
  obtain ⟨v, a', ak', img', n', b', fl', C, T, G⟩ := P_fewest  S
  refine mw_mono (mw_bm C S.bm) ?_
  rintro o1 M1 ⟨⟨O, c, q⟩, B1⟩
  obtain ⟨-, rfl⟩ := Or.resolve_right O (fun z => z.1 rfl)
  have m1 := S.mi.mf q.1
  have t0 : gS M1 86 = (12, 0) := m1.mr.1.k0
  have t4 : gS M1 900000 = (103, L) := by rw [q.1.2.2 900000 (Or.inr (by omega))]; exact h4
  have t5 : ∀ k, gI M1 900000 k = xs k := fun k => by rw [q.1.1 _ _ (Or.inr rfl)]; exact h5 k
  simp (disch := omega) only [q_aload1, q_aload1N, q_invv0, inv_1, q_aload2, q_aload2N, q_ic_eq, q_iconst, q_zret, e_279_63, L_0, k_some, k_none, pRm_i, pRm_r, pRm_0, pF_1, pF_2, inv_s, t0, t4, t5, l1, l2, l3, l4, l5, pIn_n, pIx_n, nN_add, eq_self, Nat.reduceLT, Bool.false_eq_true, Nat.add_zero, Nat.zero_add, Nat.reduceAdd, Nat.reduceMul, Nat.reduceSub, Nat.zero_le, Nat.reduceLeDiff, Nat.reduceEqDiff, Nat.le_refl, not_false_eq_true, not_true_eq_false, false_implies, true_implies, forall_const, true_and, and_true, if_true, if_false, implies_true, and_self, ne_eq, false_and, and_false, or_false, false_or, true_or, or_true]
  refine mw_mono (mw_bm (T M1 m1 B1) B1) ?_
  rintro o M2 ⟨⟨rfl, m2, A2⟩, B2⟩
  have NN := LI.next hI (by omega) c q B1 m2 A2 B2 G
  simp (disch := omega) only [q_aload1, q_aload1N, q_invv0, inv_1, q_aload2, q_aload2N, q_ic_eq, q_iconst, q_zret, e_279_63, L_0, k_some, k_none, pRm_i, pRm_r, pRm_0, pF_1, pF_2, inv_s, eq_self, Nat.reduceLT, Bool.false_eq_true, Nat.add_zero, Nat.zero_add, Nat.reduceAdd, Nat.reduceMul, Nat.reduceSub, Nat.zero_le, Nat.reduceLeDiff, Nat.reduceEqDiff, Nat.le_refl, not_false_eq_true, not_true_eq_false, false_implies, true_implies, forall_const, true_and, and_true, if_true, if_false, implies_true, and_self, ne_eq, false_and, and_false, or_false, false_or, true_or, or_true]
  exact go M2 _ _ NN
theorem B_forgive (h : LI L xs G0 j M) (hL : L ≤ 3072) (hj : 6 * j + 6 ≤ L) (go : ∀ M' z5 z6, LI L xs G0 (j + 1) M' → bw 101 279 98 ([some (.ref 900000), some (.ref 0), some (.ref 86), some (.ref 100), some (.int (nN (6 * j))), z5, z6], [], M') Q) : bw 101 279 64 ([some (.ref 900000), some (.ref 0), some (.ref 86), some (.ref 100), some (.int (nN (6 * j))), z5, z6], [], M) Q := by
  have hI := h
  obtain ⟨⟨a, ak, img, n, b, fl, S⟩, ⟨h1, h2⟩, h3, h4, h5⟩ := h
  have l1 : 6 * j + 1 < L := by omega
  have l2 : 6 * j + 2 < L := by omega
  have l3 : 6 * j + 3 < L := by omega
  have l4 : 6 * j + 4 < L := by omega
  have l5 : 6 * j + 5 < L := by omega
  have s0 := S.ci.sh.k0
  rw [e_279_64]
  simp (disch := omega) only [q_aload1, q_aload1N, q_aload0, q_aload0N, q_iload4, q_iconst, q_iadd, q_iald, q_invv1, inv_1, q_aload2, q_aload2N, q_ic_eq, q_zret, e_279_64, L_0, L_1, k_some, k_none, pRm_i, pRm_r, pRm_0, pF_1, pF_2, inv_s, s0, h4, h5, l1, l2, l3, l4, l5, pIn_n, pIx_n, nN_add, eq_self, Nat.reduceLT, Bool.false_eq_true, Nat.add_zero, Nat.zero_add, Nat.reduceAdd, Nat.reduceMul, Nat.reduceSub, Nat.zero_le, Nat.reduceLeDiff, Nat.reduceEqDiff, Nat.le_refl, not_false_eq_true, not_true_eq_false, false_implies, true_implies, forall_const, true_and, and_true, if_true, if_false, implies_true, and_self, ne_eq, false_and, and_false, or_false, false_or, true_or, or_true]
  obtain ⟨v, a', ak', img', n', b', fl', C, T, G⟩ := P_forgive (x := xs (6 * j + 1)) S
  refine mw_mono (mw_bm C S.bm) ?_
  rintro o1 M1 ⟨⟨O, c, q⟩, B1⟩
  obtain ⟨-, rfl⟩ := Or.resolve_right O (fun z => z.1 rfl)
  have m1 := S.mi.mf q.1
  have t0 : gS M1 86 = (12, 0) := m1.mr.1.k0
  have t4 : gS M1 900000 = (103, L) := by rw [q.1.2.2 900000 (Or.inr (by omega))]; exact h4
  have t5 : ∀ k, gI M1 900000 k = xs k := fun k => by rw [q.1.1 _ _ (Or.inr rfl)]; exact h5 k
  simp (disch := omega) only [q_aload1, q_aload1N, q_aload0, q_aload0N, q_iload4, q_iconst, q_iadd, q_iald, q_invv1, inv_1, q_aload2, q_aload2N, q_ic_eq, q_zret, e_279_64, L_0, L_1, k_some, k_none, pRm_i, pRm_r, pRm_0, pF_1, pF_2, inv_s, t0, t4, t5, l1, l2, l3, l4, l5, pIn_n, pIx_n, nN_add, eq_self, Nat.reduceLT, Bool.false_eq_true, Nat.add_zero, Nat.zero_add, Nat.reduceAdd, Nat.reduceMul, Nat.reduceSub, Nat.zero_le, Nat.reduceLeDiff, Nat.reduceEqDiff, Nat.le_refl, not_false_eq_true, not_true_eq_false, false_implies, true_implies, forall_const, true_and, and_true, if_true, if_false, implies_true, and_self, ne_eq, false_and, and_false, or_false, false_or, true_or, or_true]
  refine mw_mono (mw_bm (T M1 m1 B1) B1) ?_
  rintro o M2 ⟨⟨rfl, m2, A2⟩, B2⟩
  have NN := LI.next hI (by omega) c q B1 m2 A2 B2 G
  simp (disch := omega) only [q_aload1, q_aload1N, q_aload0, q_aload0N, q_iload4, q_iconst, q_iadd, q_iald, q_invv1, inv_1, q_aload2, q_aload2N, q_ic_eq, q_zret, e_279_64, L_0, L_1, k_some, k_none, pRm_i, pRm_r, pRm_0, pF_1, pF_2, inv_s, eq_self, Nat.reduceLT, Bool.false_eq_true, Nat.add_zero, Nat.zero_add, Nat.reduceAdd, Nat.reduceMul, Nat.reduceSub, Nat.zero_le, Nat.reduceLeDiff, Nat.reduceEqDiff, Nat.le_refl, not_false_eq_true, not_true_eq_false, false_implies, true_implies, forall_const, true_and, and_true, if_true, if_false, implies_true, and_self, ne_eq, false_and, and_false, or_false, false_or, true_or, or_true]
  exact go M2 _ _ NN
theorem B_back (h : LI L xs G0 j M) (hL : L ≤ 3072) (hj : 6 * j + 6 ≤ L) (go : ∀ M' z5 z6, LI L xs G0 (j + 1) M' → bw 101 279 98 ([some (.ref 900000), some (.ref 0), some (.ref 86), some (.ref 100), some (.int (nN (6 * j))), z5, z6], [], M') Q) : bw 101 279 96 ([some (.ref 900000), some (.ref 0), some (.ref 86), some (.ref 100), some (.int (nN (6 * j))), z5, z6], [], M) Q := by
  have hI := h
  obtain ⟨⟨a, ak, img, n, b, fl, S⟩, ⟨h1, h2⟩, h3, h4, h5⟩ := h
  have l1 : 6 * j + 1 < L := by omega
  have l2 : 6 * j + 2 < L := by omega
  have l3 : 6 * j + 3 < L := by omega
  have l4 : 6 * j + 4 < L := by omega
  have l5 : 6 * j + 5 < L := by omega
  have s0 := S.ci.sh.k0
  rw [e_279_96]
  simp (disch := omega) only [q_aload1, q_aload1N, q_invv0, inv_1, q_aload2, q_aload2N, q_ic_eq, q_iconst, q_zret, e_279_96, L_0, k_some, k_none, pRm_i, pRm_r, pRm_0, pF_1, pF_2, inv_s, s0, h4, h5, l1, l2, l3, l4, l5, pIn_n, pIx_n, nN_add, eq_self, Nat.reduceLT, Bool.false_eq_true, Nat.add_zero, Nat.zero_add, Nat.reduceAdd, Nat.reduceMul, Nat.reduceSub, Nat.zero_le, Nat.reduceLeDiff, Nat.reduceEqDiff, Nat.le_refl, not_false_eq_true, not_true_eq_false, false_implies, true_implies, forall_const, true_and, and_true, if_true, if_false, implies_true, and_self, ne_eq, false_and, and_false, or_false, false_or, true_or, or_true]
  obtain ⟨v, a', ak', img', n', b', fl', C, T, G⟩ := P_back  S
  refine mw_mono (mw_bm C S.bm) ?_
  rintro o1 M1 ⟨⟨O, c, q⟩, B1⟩
  obtain ⟨-, rfl⟩ := Or.resolve_right O (fun z => z.1 rfl)
  have m1 := S.mi.mf q.1
  have t0 : gS M1 86 = (12, 0) := m1.mr.1.k0
  have t4 : gS M1 900000 = (103, L) := by rw [q.1.2.2 900000 (Or.inr (by omega))]; exact h4
  have t5 : ∀ k, gI M1 900000 k = xs k := fun k => by rw [q.1.1 _ _ (Or.inr rfl)]; exact h5 k
  simp (disch := omega) only [q_aload1, q_aload1N, q_invv0, inv_1, q_aload2, q_aload2N, q_ic_eq, q_iconst, q_zret, e_279_96, L_0, k_some, k_none, pRm_i, pRm_r, pRm_0, pF_1, pF_2, inv_s, t0, t4, t5, l1, l2, l3, l4, l5, pIn_n, pIx_n, nN_add, eq_self, Nat.reduceLT, Bool.false_eq_true, Nat.add_zero, Nat.zero_add, Nat.reduceAdd, Nat.reduceMul, Nat.reduceSub, Nat.zero_le, Nat.reduceLeDiff, Nat.reduceEqDiff, Nat.le_refl, not_false_eq_true, not_true_eq_false, false_implies, true_implies, forall_const, true_and, and_true, if_true, if_false, implies_true, and_self, ne_eq, false_and, and_false, or_false, false_or, true_or, or_true]
  refine mw_mono (mw_bm (T M1 m1 B1) B1) ?_
  rintro o M2 ⟨⟨rfl, m2, A2⟩, B2⟩
  have NN := LI.next hI (by omega) c q B1 m2 A2 B2 G
  simp (disch := omega) only [q_aload1, q_aload1N, q_invv0, inv_1, q_aload2, q_aload2N, q_ic_eq, q_iconst, q_zret, e_279_96, L_0, k_some, k_none, pRm_i, pRm_r, pRm_0, pF_1, pF_2, inv_s, eq_self, Nat.reduceLT, Bool.false_eq_true, Nat.add_zero, Nat.zero_add, Nat.reduceAdd, Nat.reduceMul, Nat.reduceSub, Nat.zero_le, Nat.reduceLeDiff, Nat.reduceEqDiff, Nat.le_refl, not_false_eq_true, not_true_eq_false, false_implies, true_implies, forall_const, true_and, and_true, if_true, if_false, implies_true, and_self, ne_eq, false_and, and_false, or_false, false_or, true_or, or_true]
  exact go M2 _ _ NN
theorem B_count (h : LI L xs G0 j M) (hL : L ≤ 3072) (hj : 6 * j + 6 ≤ L) (go : ∀ M' z5 z6, LI L xs G0 (j + 1) M' → bw 101 279 98 ([some (.ref 900000), some (.ref 0), some (.ref 86), some (.ref 100), some (.int (nN (6 * j))), z5, z6], [], M') Q) : bw 101 279 97 ([some (.ref 900000), some (.ref 0), some (.ref 86), some (.ref 100), some (.int (nN (6 * j))), z5, z6], [], M) Q := by
  have hI := h
  obtain ⟨⟨a, ak, img, n, b, fl, S⟩, ⟨h1, h2⟩, h3, h4, h5⟩ := h
  have l1 : 6 * j + 1 < L := by omega
  have l2 : 6 * j + 2 < L := by omega
  have l3 : 6 * j + 3 < L := by omega
  have l4 : 6 * j + 4 < L := by omega
  have l5 : 6 * j + 5 < L := by omega
  have s0 := S.ci.sh.k0
  rw [e_279_97]
  simp (disch := omega) only [q_aload1, q_aload1N, q_aload0, q_aload0N, q_iload4, q_iconst, q_iadd, q_iald, q_invv1, inv_1, q_aload2, q_aload2N, q_ic_eq, q_zret, e_279_97, L_0, L_1, k_some, k_none, pRm_i, pRm_r, pRm_0, pF_1, pF_2, inv_s, s0, h4, h5, l1, l2, l3, l4, l5, pIn_n, pIx_n, nN_add, eq_self, Nat.reduceLT, Bool.false_eq_true, Nat.add_zero, Nat.zero_add, Nat.reduceAdd, Nat.reduceMul, Nat.reduceSub, Nat.zero_le, Nat.reduceLeDiff, Nat.reduceEqDiff, Nat.le_refl, not_false_eq_true, not_true_eq_false, false_implies, true_implies, forall_const, true_and, and_true, if_true, if_false, implies_true, and_self, ne_eq, false_and, and_false, or_false, false_or, true_or, or_true]
  obtain ⟨v, a', ak', img', n', b', fl', C, T, G⟩ := P_count (x := xs (6 * j + 1)) S
  refine mw_mono (mw_bm C S.bm) ?_
  rintro o1 M1 ⟨⟨O, c, q⟩, B1⟩
  obtain ⟨-, rfl⟩ := Or.resolve_right O (fun z => z.1 rfl)
  have m1 := S.mi.mf q.1
  have t0 : gS M1 86 = (12, 0) := m1.mr.1.k0
  have t4 : gS M1 900000 = (103, L) := by rw [q.1.2.2 900000 (Or.inr (by omega))]; exact h4
  have t5 : ∀ k, gI M1 900000 k = xs k := fun k => by rw [q.1.1 _ _ (Or.inr rfl)]; exact h5 k
  simp (disch := omega) only [q_aload1, q_aload1N, q_aload0, q_aload0N, q_iload4, q_iconst, q_iadd, q_iald, q_invv1, inv_1, q_aload2, q_aload2N, q_ic_eq, q_zret, e_279_97, L_0, L_1, k_some, k_none, pRm_i, pRm_r, pRm_0, pF_1, pF_2, inv_s, t0, t4, t5, l1, l2, l3, l4, l5, pIn_n, pIx_n, nN_add, eq_self, Nat.reduceLT, Bool.false_eq_true, Nat.add_zero, Nat.zero_add, Nat.reduceAdd, Nat.reduceMul, Nat.reduceSub, Nat.zero_le, Nat.reduceLeDiff, Nat.reduceEqDiff, Nat.le_refl, not_false_eq_true, not_true_eq_false, false_implies, true_implies, forall_const, true_and, and_true, if_true, if_false, implies_true, and_self, ne_eq, false_and, and_false, or_false, false_or, true_or, or_true]
  refine mw_mono (mw_bm (T M1 m1 B1) B1) ?_
  rintro o M2 ⟨⟨rfl, m2, A2⟩, B2⟩
  have NN := LI.next hI (by omega) c q B1 m2 A2 B2 G
  simp (disch := omega) only [q_aload1, q_aload1N, q_aload0, q_aload0N, q_iload4, q_iconst, q_iadd, q_iald, q_invv1, inv_1, q_aload2, q_aload2N, q_ic_eq, q_zret, e_279_97, L_0, L_1, k_some, k_none, pRm_i, pRm_r, pRm_0, pF_1, pF_2, inv_s, eq_self, Nat.reduceLT, Bool.false_eq_true, Nat.add_zero, Nat.zero_add, Nat.reduceAdd, Nat.reduceMul, Nat.reduceSub, Nat.zero_le, Nat.reduceLeDiff, Nat.reduceEqDiff, Nat.le_refl, not_false_eq_true, not_true_eq_false, false_implies, true_implies, forall_const, true_and, and_true, if_true, if_false, implies_true, and_self, ne_eq, false_and, and_false, or_false, false_or, true_or, or_true]
  exact go M2 _ _ NN
theorem B_image (h : LI L xs G0 j M) (hL : L ≤ 3072) (hj : 6 * j + 6 ≤ L) (go : ∀ M' z5 z6, LI L xs G0 (j + 1) M' → bw 101 279 98 ([some (.ref 900000), some (.ref 0), some (.ref 86), some (.ref 100), some (.int (nN (6 * j))), z5, z6], [], M') Q) : bw 101 279 95 ([some (.ref 900000), some (.ref 0), some (.ref 86), some (.ref 100), some (.int (nN (6 * j))), z5, z6], [], M) Q := by
  have hI := h
  obtain ⟨⟨a, ak, img, n, b, fl, S⟩, ⟨h1, h2⟩, h3, h4, h5⟩ := h
  have l1 : 6 * j + 1 < L := by omega
  have l2 : 6 * j + 2 < L := by omega
  have l3 : 6 * j + 3 < L := by omega
  have l4 : 6 * j + 4 < L := by omega
  have l5 : 6 * j + 5 < L := by omega
  have s0 := S.ci.sh.k0
  rw [e_279_95]
  simp (disch := omega) only [q_aload1, q_aload1N, q_invv0, inv_1, q_aload2, q_aload2N, q_goto, e_279_95, k_some, k_none, pRm_i, pRm_r, pRm_0, pF_1, pF_2, inv_s, s0, h4, h5, l1, l2, l3, l4, l5, pIn_n, pIx_n, nN_add, eq_self, Nat.reduceLT, Bool.false_eq_true, Nat.add_zero, Nat.zero_add, Nat.reduceAdd, Nat.reduceMul, Nat.reduceSub, Nat.zero_le, Nat.reduceLeDiff, Nat.reduceEqDiff, Nat.le_refl, not_false_eq_true, not_true_eq_false, false_implies, true_implies, forall_const, true_and, and_true, if_true, if_false, implies_true, and_self, ne_eq, false_and, and_false, or_false, false_or, true_or, or_true]
  obtain ⟨C, T, G⟩ := P_image S
  refine mw_mono (mw_bm C S.bm) ?_
  rintro o1 M1 ⟨⟨rfl, c, q⟩, B1⟩
  have m1 := S.mi.mf q.1
  have t0 : gS M1 86 = (12, 0) := m1.mr.1.k0
  have t4 : gS M1 900000 = (103, L) := by rw [q.1.2.2 900000 (Or.inr (by omega))]; exact h4
  have t5 : ∀ k, gI M1 900000 k = xs k := fun k => by rw [q.1.1 _ _ (Or.inr rfl)]; exact h5 k
  simp (disch := omega) only [q_aload1, q_aload1N, q_invv0, inv_1, q_aload2, q_aload2N, q_goto, e_279_95, k_some, k_none, pRm_i, pRm_r, pRm_0, pF_1, pF_2, inv_s, t0, t4, t5, l1, l2, l3, l4, l5, pIn_n, pIx_n, nN_add, eq_self, Nat.reduceLT, Bool.false_eq_true, Nat.add_zero, Nat.zero_add, Nat.reduceAdd, Nat.reduceMul, Nat.reduceSub, Nat.zero_le, Nat.reduceLeDiff, Nat.reduceEqDiff, Nat.le_refl, not_false_eq_true, not_true_eq_false, false_implies, true_implies, forall_const, true_and, and_true, if_true, if_false, implies_true, and_self, ne_eq, false_and, and_false, or_false, false_or, true_or, or_true]
  refine mw_mono (mw_bm (T M1 m1) B1) ?_
  rintro o M2 ⟨⟨rfl, m2, A2⟩, B2⟩
  have NN := LI.next hI (by omega) c q B1 m2 A2 B2 G
  simp (disch := omega) only [q_aload1, q_aload1N, q_invv0, inv_1, q_aload2, q_aload2N, q_goto, e_279_95, k_some, k_none, pRm_i, pRm_r, pRm_0, pF_1, pF_2, inv_s, eq_self, Nat.reduceLT, Bool.false_eq_true, Nat.add_zero, Nat.zero_add, Nat.reduceAdd, Nat.reduceMul, Nat.reduceSub, Nat.zero_le, Nat.reduceLeDiff, Nat.reduceEqDiff, Nat.le_refl, not_false_eq_true, not_true_eq_false, false_implies, true_implies, forall_const, true_and, and_true, if_true, if_false, implies_true, and_self, ne_eq, false_and, and_false, or_false, false_or, true_or, or_true]
  exact go M2 _ _ NN
end LWC
