/-! most, cut: wrong people; the model -/
section KMN
variable {d u n : Nat} {b : Nat → Nat} {a ak : Nat → Int32} {img : Bool} {fl : Int32} {M : pMem} {x y : Int32}
theorem k_most_n1 (m : MI M u a ak img n b fl) (hw : Wf a) (hx : ¬ Ix (nP a) x) : mw (d + 4) 124 [.ref u, .int x, .int y] M (fun o M' => KO M' u 1 0 o ∧ MI M' u a ak img n b fl ∧ Ag (XU u) M M') := by
  have s := m.mr.1
  have hm := m.mr
  have hp' := hw.p'
  simp (disch := omega) only [m_124, q_aload0, q_aload0N, q_iload1, q_iload2, q_invv2, inv_1, q_put_i, pTag_1, q_get_i, pRf_s, q_if_le, q_iconst, q_iret, e_124_0, e_124_1, L_0, k_some, k_none, pRm_i, pRm_r, pRm_0, pF_1, pF_2, inv_s, s.k0, gS_sI, two_1 hm hw hx, gS_sI, gP_sI, gI_sI, Nat.add_left_cancel_iff, Nat.add_eq_left, Nat.left_eq_add, zb_0, nN_le, nN_lt, nN_eq, nN_add, nN_mul, nN_lt0, nN_ge0, nN_gt0, nN_le0, nN_eq0, nN_eq1, nN_neN, pIn_n, pIx_n, eq_self, Nat.reduceLT, Bool.false_eq_true, Nat.add_zero, Nat.zero_add, Nat.reduceAdd, Nat.reduceMul, Nat.reduceSub, Nat.zero_le, Nat.reduceLeDiff, Nat.reduceEqDiff, Nat.le_refl, not_false_eq_true, not_true_eq_false, false_implies, true_implies, forall_const, true_and, and_true, if_true, if_false, implies_true, and_self, ne_eq, false_and, and_false, or_false, false_or, true_or, or_true]
  exact ⟨KO.one.mpr (fun h => absurd h (by omega)), m.th, XU_0⟩
theorem k_most_n2 (m : MI M u a ak img n b fl) (hw : Wf a) (hx : Ix (nP a) x) (hy : ¬ Ix (nP a) y) : mw (d + 4) 124 [.ref u, .int x, .int y] M (fun o M' => KO M' u 1 0 o ∧ MI M' u a ak img n b fl ∧ Ag (XU u) M M') := by
  have s := m.mr.1
  have hm := m.mr
  have hp' := hw.p'
  simp (disch := omega) only [m_124, q_aload0, q_aload0N, q_iload1, q_iload2, q_invv2, inv_1, q_put_i, pTag_1, q_get_i, pRf_s, q_if_le, q_iconst, q_iret, e_124_0, e_124_1, L_0, k_some, k_none, pRm_i, pRm_r, pRm_0, pF_1, pF_2, inv_s, s.k0, gS_sI, two_1b hm hw hx hy, gS_sI, gP_sI, gI_sI, Nat.add_left_cancel_iff, Nat.add_eq_left, Nat.left_eq_add, zb_0, nN_le, nN_lt, nN_eq, nN_add, nN_mul, nN_lt0, nN_ge0, nN_gt0, nN_le0, nN_eq0, nN_eq1, nN_neN, pIn_n, pIx_n, eq_self, Nat.reduceLT, Bool.false_eq_true, Nat.add_zero, Nat.zero_add, Nat.reduceAdd, Nat.reduceMul, Nat.reduceSub, Nat.zero_le, Nat.reduceLeDiff, Nat.reduceEqDiff, Nat.le_refl, not_false_eq_true, not_true_eq_false, false_implies, true_implies, forall_const, true_and, and_true, if_true, if_false, implies_true, and_self, ne_eq, false_and, and_false, or_false, false_or, true_or, or_true]
  exact ⟨KO.one.mpr (fun h => absurd h (by omega)), m.th, XU_0⟩
theorem k_most_n3 (m : MI M u a ak img n b fl) (hw : Wf a) (hx : Ix (nP a) x) : mw (d + 4) 124 [.ref u, .int x, .int x] M (fun o M' => KO M' u 2 0 o ∧ MI M' u a ak img n b fl ∧ Ag (XU u) M M') := by
  have s := m.mr.1
  have hm := m.mr
  have hp' := hw.p'
  simp (disch := omega) only [m_124, q_aload0, q_aload0N, q_iload1, q_iload2, q_invv2, inv_1, q_put_i, pTag_1, q_get_i, pRf_s, q_if_le, q_iconst, q_iret, e_124_0, e_124_1, L_0, k_some, k_none, pRm_i, pRm_r, pRm_0, pF_1, pF_2, inv_s, s.k0, gS_sI, two_2 hm hw hx, gS_sI, gP_sI, gI_sI, Nat.add_left_cancel_iff, Nat.add_eq_left, Nat.left_eq_add, zb_0, nN_le, nN_lt, nN_eq, nN_add, nN_mul, nN_lt0, nN_ge0, nN_gt0, nN_le0, nN_eq0, nN_eq1, nN_neN, pIn_n, pIx_n, eq_self, Nat.reduceLT, Bool.false_eq_true, Nat.add_zero, Nat.zero_add, Nat.reduceAdd, Nat.reduceMul, Nat.reduceSub, Nat.zero_le, Nat.reduceLeDiff, Nat.reduceEqDiff, Nat.le_refl, not_false_eq_true, not_true_eq_false, false_implies, true_implies, forall_const, true_and, and_true, if_true, if_false, implies_true, and_self, ne_eq, false_and, and_false, or_false, false_or, true_or, or_true]
  exact ⟨KO.one.mpr (fun h => absurd h (by omega)), m.th, XU_0⟩
theorem k_cut_n1 (m : MI M u a ak img n b fl) (hw : Wf a) (hx : ¬ Ix (nP a) x) : mw (d + 4) 125 [.ref u, .int x, .int y] M (fun o M' => KO M' u 1 0 o ∧ MI M' u a ak img n b fl ∧ Ag (XU u) M M') := by
  have s := m.mr.1
  have hm := m.mr
  have hp' := hw.p'
  simp (disch := omega) only [m_125, q_aload0, q_aload0N, q_iload1, q_iload2, q_invv2, inv_1, q_put_i, pTag_1, q_get_i, pRf_s, q_if_le, q_iconst, q_iret, q_if_ge, q_goto, q_invv1, q_nop, e_125_0, e_125_1, e_125_2, e_125_3, L_0, k_some, k_none, pRm_i, pRm_r, pRm_0, pF_1, pF_2, inv_s, s.k0, gS_sI, two_1 hm hw hx, gS_sI, gP_sI, gI_sI, Nat.add_left_cancel_iff, Nat.add_eq_left, Nat.left_eq_add, zb_0, nN_le, nN_lt, nN_eq, nN_add, nN_mul, nN_lt0, nN_ge0, nN_gt0, nN_le0, nN_eq0, nN_eq1, nN_neN, pIn_n, pIx_n, eq_self, Nat.reduceLT, Bool.false_eq_true, Nat.add_zero, Nat.zero_add, Nat.reduceAdd, Nat.reduceMul, Nat.reduceSub, Nat.zero_le, Nat.reduceLeDiff, Nat.reduceEqDiff, Nat.le_refl, not_false_eq_true, not_true_eq_false, false_implies, true_implies, forall_const, true_and, and_true, if_true, if_false, implies_true, and_self, ne_eq, false_and, and_false, or_false, false_or, true_or, or_true]
  exact ⟨KO.one.mpr (fun h => absurd h (by omega)), m.th, XU_0⟩
theorem k_cut_n2 (m : MI M u a ak img n b fl) (hw : Wf a) (hx : Ix (nP a) x) (hy : ¬ Ix (nP a) y) : mw (d + 4) 125 [.ref u, .int x, .int y] M (fun o M' => KO M' u 1 0 o ∧ MI M' u a ak img n b fl ∧ Ag (XU u) M M') := by
  have s := m.mr.1
  have hm := m.mr
  have hp' := hw.p'
  simp (disch := omega) only [m_125, q_aload0, q_aload0N, q_iload1, q_iload2, q_invv2, inv_1, q_put_i, pTag_1, q_get_i, pRf_s, q_if_le, q_iconst, q_iret, q_if_ge, q_goto, q_invv1, q_nop, e_125_0, e_125_1, e_125_2, e_125_3, L_0, k_some, k_none, pRm_i, pRm_r, pRm_0, pF_1, pF_2, inv_s, s.k0, gS_sI, two_1b hm hw hx hy, gS_sI, gP_sI, gI_sI, Nat.add_left_cancel_iff, Nat.add_eq_left, Nat.left_eq_add, zb_0, nN_le, nN_lt, nN_eq, nN_add, nN_mul, nN_lt0, nN_ge0, nN_gt0, nN_le0, nN_eq0, nN_eq1, nN_neN, pIn_n, pIx_n, eq_self, Nat.reduceLT, Bool.false_eq_true, Nat.add_zero, Nat.zero_add, Nat.reduceAdd, Nat.reduceMul, Nat.reduceSub, Nat.zero_le, Nat.reduceLeDiff, Nat.reduceEqDiff, Nat.le_refl, not_false_eq_true, not_true_eq_false, false_implies, true_implies, forall_const, true_and, and_true, if_true, if_false, implies_true, and_self, ne_eq, false_and, and_false, or_false, false_or, true_or, or_true]
  exact ⟨KO.one.mpr (fun h => absurd h (by omega)), m.th, XU_0⟩
theorem k_cut_n3 (m : MI M u a ak img n b fl) (hw : Wf a) (hx : Ix (nP a) x) : mw (d + 4) 125 [.ref u, .int x, .int x] M (fun o M' => KO M' u 2 0 o ∧ MI M' u a ak img n b fl ∧ Ag (XU u) M M') := by
  have s := m.mr.1
  have hm := m.mr
  have hp' := hw.p'
  simp (disch := omega) only [m_125, q_aload0, q_aload0N, q_iload1, q_iload2, q_invv2, inv_1, q_put_i, pTag_1, q_get_i, pRf_s, q_if_le, q_iconst, q_iret, q_if_ge, q_goto, q_invv1, q_nop, e_125_0, e_125_1, e_125_2, e_125_3, L_0, k_some, k_none, pRm_i, pRm_r, pRm_0, pF_1, pF_2, inv_s, s.k0, gS_sI, two_2 hm hw hx, gS_sI, gP_sI, gI_sI, Nat.add_left_cancel_iff, Nat.add_eq_left, Nat.left_eq_add, zb_0, nN_le, nN_lt, nN_eq, nN_add, nN_mul, nN_lt0, nN_ge0, nN_gt0, nN_le0, nN_eq0, nN_eq1, nN_neN, pIn_n, pIx_n, eq_self, Nat.reduceLT, Bool.false_eq_true, Nat.add_zero, Nat.zero_add, Nat.reduceAdd, Nat.reduceMul, Nat.reduceSub, Nat.zero_le, Nat.reduceLeDiff, Nat.reduceEqDiff, Nat.le_refl, not_false_eq_true, not_true_eq_false, false_implies, true_implies, forall_const, true_and, and_true, if_true, if_false, implies_true, and_self, ne_eq, false_and, and_false, or_false, false_or, true_or, or_true]
  exact ⟨KO.one.mpr (fun h => absurd h (by omega)), m.th, XU_0⟩
end KMN
