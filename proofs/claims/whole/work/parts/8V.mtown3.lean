/-! THE LAW'S MODEL READS A LINE OF THE TOWN: law, pass, near, need, person, give -/
section MW9
variable {d n u p q k m c lo sr i e K : Nat} {b : Nat → Nat} {a a' : Nat → Int32} {M M1 M' : pMem} {Q : pOut → pMem → Prop} {x y but : Int32} {r : Nat ⊕ Nat} {l1 l2 l3 l4 l5 l6 l7 : Option Value}
theorem bR_r {r : Nat} {f : Nat → Nat ⊕ Nat} : bR (.inr r) f = f r := rfl
theorem bR_l {r : Nat} {f : Nat → Nat ⊕ Nat} : bR (.inl r) f = .inl r := rfl
theorem vb5 (h : MdU M u n b a p p) (hw : Wt a K) (hK : K < 2000000)
    (next : ∀ M1, MdU M1 u n b a p p → Ag (XTm u) M M1 → th uW n b p ≠ 1000 + 2 → bw (d + 69) 68 6 ([some (.ref u), l2, l3, l4, l5, l6, l7], [], M1) (fun o M' => MtL M' u n b a (pTL (th uW n b) (nx9 n b) a p) o ∧ Ag (XTm u) M M')) :
    bw (d + 69) 68 5 ([some (.ref u), l2, l3, l4, l5, l6, l7], [], M) (fun o M' => MtL M' u n b a (pTL (th uW n b) (nx9 n b) a p) o ∧ Ag (XTm u) M M') := by
  have hp' := hw.1.p'
  have hf' := hw.1.f'
  have hn' := hw.1.n'
  have nm1 : ∀ x, x < 4000 → ¬ nN x = iN (-1) := fun x hx => by rw [nN_neN (by omega)]; exact not_false
  rw [e_68_5]
  simp (disch := omega) only [q_aload0, q_aload0N, q_invv0, inv_1, q_get_i, pTag_1, pRf_s, q_istore1, q_ldc_s, q_invv1, q_if_eq, q_get_r, q_iconst, q_iald, q_bipush, q_ic_ne, q_iload1, q_nop, q_sipush, q_invv2, q_istore2, q_ic_eq, q_vret, q_imul, q_iadd, q_istore3, q_iload3, q_iload2, q_iast, q_dup2, q_goto, q_ishl, q_ior, q_istore4, q_istore5, q_istore6, q_iload4, q_iload5, q_iload6, q_invv5, q_pop_i, q_pop_r, q_isub, q_invv3, L_0, L_1, L_2, L_3, L_4, L_7, L_10, L_12, L_46, L_99, L_999, k_some, k_none, pRm_i, pRm_r, pRm_0, pF_1, pF_2, inv_s, h.sd.sh.k0, nN_le, nN_lt, nN_eq, nN_add, nN_mul, nN_lt0, nN_ge0, nN_gt0, nN_le0, nN_eq0, nN_eq1, nN_neN, pIn_n, pIx_n, eq_self, Nat.reduceLT, Bool.false_eq_true, Nat.add_zero, Nat.zero_add, Nat.reduceAdd, Nat.reduceMul, Nat.reduceSub, Nat.zero_le, Nat.reduceLeDiff, Nat.reduceEqDiff, Nat.le_refl, not_false_eq_true, not_true_eq_false, false_implies, true_implies, forall_const, true_and, and_true, if_true, if_false, implies_true, and_self, ne_eq, false_and, and_false, or_false, false_or, true_or, or_true]
  refine mw_mono (hasU (i := 2) h (by omega) rfl) ?_
  rintro o M1 ⟨h1, A1⟩
  by_cases c : th uW n b p = 1000 + 2
  rotate_left
  · rw [if_neg c] at h1
    obtain ⟨rfl, h1⟩ := h1
    simp (disch := omega) only [q_aload0, q_aload0N, q_invv0, inv_1, q_get_i, pTag_1, pRf_s, q_istore1, q_ldc_s, q_invv1, q_if_eq, q_get_r, q_iconst, q_iald, q_bipush, q_ic_ne, q_iload1, q_nop, q_sipush, q_invv2, q_istore2, q_ic_eq, q_vret, q_imul, q_iadd, q_istore3, q_iload3, q_iload2, q_iast, q_dup2, q_goto, q_ishl, q_ior, q_istore4, q_istore5, q_istore6, q_iload4, q_iload5, q_iload6, q_invv5, q_pop_i, q_pop_r, q_isub, q_invv3, L_0, L_1, L_2, L_3, L_4, L_7, L_10, L_12, L_46, L_99, L_999, k_some, k_none, pRm_i, pRm_r, pRm_0, pF_1, pF_2, inv_s, h1.sd.sh.k0, nN_le, nN_lt, nN_eq, nN_add, nN_mul, nN_lt0, nN_ge0, nN_gt0, nN_le0, nN_eq0, nN_eq1, nN_neN, pIn_n, pIx_n, eq_self, Nat.reduceLT, Bool.false_eq_true, Nat.add_zero, Nat.zero_add, Nat.reduceAdd, Nat.reduceMul, Nat.reduceSub, Nat.zero_le, Nat.reduceLeDiff, Nat.reduceEqDiff, Nat.le_refl, not_false_eq_true, not_true_eq_false, false_implies, true_implies, forall_const, true_and, and_true, if_true, if_false, implies_true, and_self, ne_eq, false_and, and_false, or_false, false_or, true_or, or_true]
    exact next M1 h1 (A1.mono X9_T) c
  rw [if_pos c] at h1
  obtain ⟨rfl, h1⟩ := h1
  rw [pTL_v c (by omega) (by omega) (by omega)]
  simp (disch := omega) only [q_aload0, q_aload0N, q_invv0, inv_1, q_get_i, pTag_1, pRf_s, q_istore1, q_ldc_s, q_invv1, q_if_eq, q_get_r, q_iconst, q_iald, q_bipush, q_ic_ne, q_iload1, q_nop, q_sipush, q_invv2, q_istore2, q_ic_eq, q_vret, q_imul, q_iadd, q_istore3, q_iload3, q_iload2, q_iast, q_dup2, q_goto, q_ishl, q_ior, q_istore4, q_istore5, q_istore6, q_iload4, q_iload5, q_iload6, q_invv5, q_pop_i, q_pop_r, q_isub, q_invv3, L_0, L_1, L_2, L_3, L_4, L_7, L_10, L_12, L_46, L_99, L_999, k_some, k_none, pRm_i, pRm_r, pRm_0, pF_1, pF_2, inv_s, h1.sd.sh.k0, h1.sd.sh.p1, nN_le, nN_lt, nN_eq, nN_add, nN_mul, nN_lt0, nN_ge0, nN_gt0, nN_le0, nN_eq0, nN_eq1, nN_neN, pIn_n, pIx_n, eq_self, Nat.reduceLT, Bool.false_eq_true, Nat.add_zero, Nat.zero_add, Nat.reduceAdd, Nat.reduceMul, Nat.reduceSub, Nat.zero_le, Nat.reduceLeDiff, Nat.reduceEqDiff, Nat.le_refl, not_false_eq_true, not_true_eq_false, false_implies, true_implies, forall_const, true_and, and_true, if_true, if_false, implies_true, and_self, ne_eq, false_and, and_false, or_false, false_or, true_or, or_true]
  refine mw_mono (u_figs (lo := 0) (c := 11) (r := .inr (nx9 n b p)) ⟨_, h1⟩ (by omega) nm10 (by omega)) ?_
  rintro o M2 ⟨v, rfl, h2, e2, A2⟩
  have A02 := (A1.mono X9_T).trans (A2.mono MdX_T)
  have A3 : Ag (fun h _ => h = u + 1) M2 (sI M2 (u + 1) 7 v) := Ag.one rfl
  by_cases c1 : 0 ≤ th uW n b (nx9 n b p) ∧ th uW n b (nx9 n b p) < 11
  · rw [bR_r, if_pos c1] at h2
    obtain ⟨q2, h2⟩ := h2
    have ev := e2 _ rfl c1
    simp (disch := omega) only [q_aload0, q_aload0N, q_invv0, inv_1, q_get_i, pTag_1, pRf_s, q_istore1, q_ldc_s, q_invv1, q_if_eq, q_get_r, q_iconst, q_iald, q_bipush, q_ic_ne, q_iload1, q_nop, q_sipush, q_invv2, q_istore2, q_ic_eq, q_vret, q_imul, q_iadd, q_istore3, q_iload3, q_iload2, q_iast, q_dup2, q_goto, q_ishl, q_ior, q_istore4, q_istore5, q_istore6, q_iload4, q_iload5, q_iload6, q_invv5, q_pop_i, q_pop_r, q_isub, q_invv3, L_0, L_1, L_2, L_3, L_4, L_7, L_10, L_12, L_46, L_99, L_999, k_some, k_none, pRm_i, pRm_r, pRm_0, pF_1, pF_2, inv_s, h2.sd.sh.k0, h2.sd.sh.k1, h2.sd.sh.p1, nN_le, nN_lt, nN_eq, nN_add, nN_mul, nN_lt0, nN_ge0, nN_gt0, nN_le0, nN_eq0, nN_eq1, nN_neN, pIn_n, pIx_n, eq_self, Nat.reduceLT, Bool.false_eq_true, Nat.add_zero, Nat.zero_add, Nat.reduceAdd, Nat.reduceMul, Nat.reduceSub, Nat.zero_le, Nat.reduceLeDiff, Nat.reduceEqDiff, Nat.le_refl, not_false_eq_true, not_true_eq_false, false_implies, true_implies, forall_const, true_and, and_true, if_true, if_false, implies_true, and_self, ne_eq, false_and, and_false, or_false, false_or, true_or, or_true]
    refine f21 (r := .inl 0) (A02.trans ((A3.mono X1_w).mono XMw_T)) trivial ⟨rfl, ?_⟩
    rw [pRs_inr (v := 1000 + 2) (s := (nx9 n b (nx9 n b p), [th uW n b (nx9 n b p)])) (show (pnm (th uW n b) (nx9 n b) 0 11 (nx9 n b p) (fun x q => .inr (q, [x])) : pAg) = _ from by rw [pnm, if_pos c1])]
    refine ⟨q2, h2.eff (A3.mono X1_w) ⟨h2.sd.sh, ?_⟩⟩
    funext j
    rw [gI_sI, h2.tb, ev]
    show _ = aU a 7 (nN (th uW n b (nx9 n b p))) j
    unfold aU
    by_cases c9 : j = 7
    · rw [if_pos ⟨rfl, c9⟩, if_pos c9]
    · rw [if_neg (fun z => c9 z.2), if_neg c9]
  · rw [bR_r, if_neg c1] at h2
    have h2 : MfU M2 u n b a (nx9 n b p) := h2
    simp (disch := omega) only [q_aload0, q_aload0N, q_invv0, inv_1, q_get_i, pTag_1, pRf_s, q_istore1, q_ldc_s, q_invv1, q_if_eq, q_get_r, q_iconst, q_iald, q_bipush, q_ic_ne, q_iload1, q_nop, q_sipush, q_invv2, q_istore2, q_ic_eq, q_vret, q_imul, q_iadd, q_istore3, q_iload3, q_iload2, q_iast, q_dup2, q_goto, q_ishl, q_ior, q_istore4, q_istore5, q_istore6, q_iload4, q_iload5, q_iload6, q_invv5, q_pop_i, q_pop_r, q_isub, q_invv3, L_0, L_1, L_2, L_3, L_4, L_7, L_10, L_12, L_46, L_99, L_999, k_some, k_none, pRm_i, pRm_r, pRm_0, pF_1, pF_2, inv_s, h2.sh.k0, h2.sh.k1, h2.sh.p1, nN_le, nN_lt, nN_eq, nN_add, nN_mul, nN_lt0, nN_ge0, nN_gt0, nN_le0, nN_eq0, nN_eq1, nN_neN, pIn_n, pIx_n, eq_self, Nat.reduceLT, Bool.false_eq_true, Nat.add_zero, Nat.zero_add, Nat.reduceAdd, Nat.reduceMul, Nat.reduceSub, Nat.zero_le, Nat.reduceLeDiff, Nat.reduceEqDiff, Nat.le_refl, not_false_eq_true, not_true_eq_false, false_implies, true_implies, forall_const, true_and, and_true, if_true, if_false, implies_true, and_self, ne_eq, false_and, and_false, or_false, false_or, true_or, or_true]
    refine f21 (r := .inl 0) (A02.trans ((A3.mono X1_w).mono XMw_T)) trivial ⟨rfl, ?_⟩
    rw [pRs_inl (v := 1000 + 2) (e := nx9 n b p) (show (pnm (th uW n b) (nx9 n b) 0 11 (nx9 n b p) (fun x q => .inr (q, [x])) : pAg) = _ from by rw [pnm, if_neg c1])]
    refine ⟨gI (sI M2 (u + 1) 7 v) (u + 1), h2.eff A3 rfl, fun j hj => ?_⟩
    rw [gI_sI, if_neg (by omega), h2.tb]
theorem vb11 (h : MdU M u n b a p p) (hw : Wt a K) (hK : K < 2000000)
    (next : ∀ M1, MdU M1 u n b a p p → Ag (XTm u) M M1 → th uW n b p ≠ 1000 + 4 → bw (d + 69) 68 13 ([some (.ref u), l2, l3, l4, l5, l6, l7], [], M1) (fun o M' => MtL M' u n b a (pTL (th uW n b) (nx9 n b) a p) o ∧ Ag (XTm u) M M')) :
    bw (d + 69) 68 11 ([some (.ref u), l2, l3, l4, l5, l6, l7], [], M) (fun o M' => MtL M' u n b a (pTL (th uW n b) (nx9 n b) a p) o ∧ Ag (XTm u) M M') := by
  have hp' := hw.1.p'
  have hf' := hw.1.f'
  have hn' := hw.1.n'
  have nm1 : ∀ x, x < 4000 → ¬ nN x = iN (-1) := fun x hx => by rw [nN_neN (by omega)]; exact not_false
  rw [e_68_11]
  simp (disch := omega) only [q_aload0, q_aload0N, q_invv0, inv_1, q_get_i, pTag_1, pRf_s, q_istore1, q_ldc_s, q_invv1, q_if_eq, q_get_r, q_iconst, q_iald, q_bipush, q_ic_ne, q_iload1, q_nop, q_sipush, q_invv2, q_istore2, q_ic_eq, q_vret, q_imul, q_iadd, q_istore3, q_iload3, q_iload2, q_iast, q_dup2, q_goto, q_ishl, q_ior, q_istore4, q_istore5, q_istore6, q_iload4, q_iload5, q_iload6, q_invv5, q_pop_i, q_pop_r, q_isub, q_invv3, L_0, L_1, L_2, L_3, L_4, L_7, L_10, L_12, L_46, L_99, L_999, k_some, k_none, pRm_i, pRm_r, pRm_0, pF_1, pF_2, inv_s, h.sd.sh.k0, nN_le, nN_lt, nN_eq, nN_add, nN_mul, nN_lt0, nN_ge0, nN_gt0, nN_le0, nN_eq0, nN_eq1, nN_neN, pIn_n, pIx_n, eq_self, Nat.reduceLT, Bool.false_eq_true, Nat.add_zero, Nat.zero_add, Nat.reduceAdd, Nat.reduceMul, Nat.reduceSub, Nat.zero_le, Nat.reduceLeDiff, Nat.reduceEqDiff, Nat.le_refl, not_false_eq_true, not_true_eq_false, false_implies, true_implies, forall_const, true_and, and_true, if_true, if_false, implies_true, and_self, ne_eq, false_and, and_false, or_false, false_or, true_or, or_true]
  refine mw_mono (hasU (i := 4) h (by omega) rfl) ?_
  rintro o M1 ⟨h1, A1⟩
  by_cases c : th uW n b p = 1000 + 4
  rotate_left
  · rw [if_neg c] at h1
    obtain ⟨rfl, h1⟩ := h1
    simp (disch := omega) only [q_aload0, q_aload0N, q_invv0, inv_1, q_get_i, pTag_1, pRf_s, q_istore1, q_ldc_s, q_invv1, q_if_eq, q_get_r, q_iconst, q_iald, q_bipush, q_ic_ne, q_iload1, q_nop, q_sipush, q_invv2, q_istore2, q_ic_eq, q_vret, q_imul, q_iadd, q_istore3, q_iload3, q_iload2, q_iast, q_dup2, q_goto, q_ishl, q_ior, q_istore4, q_istore5, q_istore6, q_iload4, q_iload5, q_iload6, q_invv5, q_pop_i, q_pop_r, q_isub, q_invv3, L_0, L_1, L_2, L_3, L_4, L_7, L_10, L_12, L_46, L_99, L_999, k_some, k_none, pRm_i, pRm_r, pRm_0, pF_1, pF_2, inv_s, h1.sd.sh.k0, nN_le, nN_lt, nN_eq, nN_add, nN_mul, nN_lt0, nN_ge0, nN_gt0, nN_le0, nN_eq0, nN_eq1, nN_neN, pIn_n, pIx_n, eq_self, Nat.reduceLT, Bool.false_eq_true, Nat.add_zero, Nat.zero_add, Nat.reduceAdd, Nat.reduceMul, Nat.reduceSub, Nat.zero_le, Nat.reduceLeDiff, Nat.reduceEqDiff, Nat.le_refl, not_false_eq_true, not_true_eq_false, false_implies, true_implies, forall_const, true_and, and_true, if_true, if_false, implies_true, and_self, ne_eq, false_and, and_false, or_false, false_or, true_or, or_true]
    exact next M1 h1 (A1.mono X9_T) c
  rw [if_pos c] at h1
  obtain ⟨rfl, h1⟩ := h1
  rw [pTL_v c (by omega) (by omega) (by omega)]
  have m1 : gI M1 (u + 1) 3 = nN (nF a) := by rw [h1.tb]; exact hw.1.f
  simp (disch := omega) only [q_aload0, q_aload0N, q_invv0, inv_1, q_get_i, pTag_1, pRf_s, q_istore1, q_ldc_s, q_invv1, q_if_eq, q_get_r, q_iconst, q_iald, q_bipush, q_ic_ne, q_iload1, q_nop, q_sipush, q_invv2, q_istore2, q_ic_eq, q_vret, q_imul, q_iadd, q_istore3, q_iload3, q_iload2, q_iast, q_dup2, q_goto, q_ishl, q_ior, q_istore4, q_istore5, q_istore6, q_iload4, q_iload5, q_iload6, q_invv5, q_pop_i, q_pop_r, q_isub, q_invv3, L_0, L_1, L_2, L_3, L_4, L_7, L_10, L_12, L_46, L_99, L_999, k_some, k_none, pRm_i, pRm_r, pRm_0, pF_1, pF_2, inv_s, h1.sd.sh.k0, h1.sd.sh.k1, h1.sd.sh.p1, m1, pIn_n, pIx_n, eq_self, Nat.reduceLT, Bool.false_eq_true, Nat.add_zero, Nat.zero_add, Nat.reduceAdd, Nat.reduceMul, Nat.reduceSub, Nat.zero_le, Nat.reduceLeDiff, Nat.reduceEqDiff, Nat.le_refl, not_false_eq_true, not_true_eq_false, false_implies, true_implies, forall_const, true_and, and_true, if_true, if_false, implies_true, and_self, ne_eq, false_and, and_false, or_false, false_or, true_or, or_true]
  simp (disch := omega) only [nN_eq1, nN_eq0, eq_self, Nat.reduceLT, Bool.false_eq_true, Nat.add_zero, Nat.zero_add, Nat.reduceAdd, Nat.reduceMul, Nat.reduceSub, Nat.zero_le, Nat.reduceLeDiff, Nat.reduceEqDiff, Nat.le_refl, not_false_eq_true, not_true_eq_false, false_implies, true_implies, forall_const, true_and, and_true, if_true, if_false, implies_true, and_self, ne_eq, false_and, and_false, or_false, false_or, true_or, or_true]
  refine mw_mono (u_figs (lo := 0) (c := nF a) (r := .inr (nx9 n b p)) ⟨_, h1⟩ (by omega) (nm_le (by omega)) (by omega)) ?_
  rintro o M2 ⟨v1, rfl, h2, e2, A2⟩
  have k2 : (gS M2 u).1 = 12 := by rw [A2.S, h1.sd.sh.k0]
  simp (disch := omega) only [q_aload0, q_aload0N, q_invv0, inv_1, q_get_i, pTag_1, pRf_s, q_istore1, q_ldc_s, q_invv1, q_if_eq, q_get_r, q_iconst, q_iald, q_bipush, q_ic_ne, q_iload1, q_nop, q_sipush, q_invv2, q_istore2, q_ic_eq, q_vret, q_imul, q_iadd, q_istore3, q_iload3, q_iload2, q_iast, q_dup2, q_goto, q_ishl, q_ior, q_istore4, q_istore5, q_istore6, q_iload4, q_iload5, q_iload6, q_invv5, q_pop_i, q_pop_r, q_isub, q_invv3, L_0, L_1, L_2, L_3, L_4, L_7, L_10, L_12, L_46, L_99, L_999, k_some, k_none, pRm_i, pRm_r, pRm_0, pF_1, pF_2, inv_s, k2, nN_le, nN_lt, nN_eq, nN_add, nN_mul, nN_lt0, nN_ge0, nN_gt0, nN_le0, nN_eq0, nN_eq1, nN_neN, pIn_n, pIx_n, eq_self, Nat.reduceLT, Bool.false_eq_true, Nat.add_zero, Nat.zero_add, Nat.reduceAdd, Nat.reduceMul, Nat.reduceSub, Nat.zero_le, Nat.reduceLeDiff, Nat.reduceEqDiff, Nat.le_refl, not_false_eq_true, not_true_eq_false, false_implies, true_implies, forall_const, true_and, and_true, if_true, if_false, implies_true, and_self, ne_eq, false_and, and_false, or_false, false_or, true_or, or_true]
  refine mw_mono (u_must (i := 8) h2 (by omega) rfl) ?_
  rintro o M3 ⟨rfl, h3, A3⟩
  have k3 : (gS M3 u).1 = 12 := by rw [A3.S, k2]
  simp (disch := omega) only [q_aload0, q_aload0N, q_invv0, inv_1, q_get_i, pTag_1, pRf_s, q_istore1, q_ldc_s, q_invv1, q_if_eq, q_get_r, q_iconst, q_iald, q_bipush, q_ic_ne, q_iload1, q_nop, q_sipush, q_invv2, q_istore2, q_ic_eq, q_vret, q_imul, q_iadd, q_istore3, q_iload3, q_iload2, q_iast, q_dup2, q_goto, q_ishl, q_ior, q_istore4, q_istore5, q_istore6, q_iload4, q_iload5, q_iload6, q_invv5, q_pop_i, q_pop_r, q_isub, q_invv3, L_0, L_1, L_2, L_3, L_4, L_7, L_10, L_12, L_46, L_99, L_999, k_some, k_none, pRm_i, pRm_r, pRm_0, pF_1, pF_2, inv_s, k3, nN_le, nN_lt, nN_eq, nN_add, nN_mul, nN_lt0, nN_ge0, nN_gt0, nN_le0, nN_eq0, nN_eq1, nN_neN, pIn_n, pIx_n, eq_self, Nat.reduceLT, Bool.false_eq_true, Nat.add_zero, Nat.zero_add, Nat.reduceAdd, Nat.reduceMul, Nat.reduceSub, Nat.zero_le, Nat.reduceLeDiff, Nat.reduceEqDiff, Nat.le_refl, not_false_eq_true, not_true_eq_false, false_implies, true_implies, forall_const, true_and, and_true, if_true, if_false, implies_true, and_self, ne_eq, false_and, and_false, or_false, false_or, true_or, or_true]
  refine mw_mono (u_person (but := iN (-1)) h3 hw.1) ?_
  rintro o M4 ⟨v2, rfl, h4, e4, A4⟩
  have A04 := (((A1.mono X9_T).trans (A2.mono MdX_T)).trans (A3.mono MdX_T)).trans (A4.mono MdX_T)
  have sp : pAr (th uW n b) (nx9 n b) (nP a) (nF a) (1000 + 4) (nx9 n b p) = (pnm (th uW n b) (nx9 n b) 0 (nF a) (nx9 n b p) fun x q => pwd (th uW n b) (nx9 n b) 1008 q fun q => pnm (th uW n b) (nx9 n b) 0 (nP a) q fun y q => .inr (q, [x, y])) := rfl
  by_cases c1 : 0 ≤ th uW n b (nx9 n b p) ∧ th uW n b (nx9 n b p) < nF a
  rotate_left
  · rw [bR_r, if_neg c1, bR_l, bR_l] at h4
    have hM : MfU M4 u n b a (nx9 n b p) := h4
    have f := hM.ft
    have f2 := nN_ft hM.e9
    simp (disch := omega) only [q_aload0, q_aload0N, q_invv0, inv_1, q_get_i, pTag_1, pRf_s, q_istore1, q_ldc_s, q_invv1, q_if_eq, q_get_r, q_iconst, q_iald, q_bipush, q_ic_ne, q_iload1, q_nop, q_sipush, q_invv2, q_istore2, q_ic_eq, q_vret, q_imul, q_iadd, q_istore3, q_iload3, q_iload2, q_iast, q_dup2, q_goto, q_ishl, q_ior, q_istore4, q_istore5, q_istore6, q_iload4, q_iload5, q_iload6, q_invv5, q_pop_i, q_pop_r, q_isub, q_invv3, L_0, L_1, L_2, L_3, L_4, L_7, L_10, L_12, L_46, L_99, L_999, k_some, k_none, pRm_i, pRm_r, pRm_0, pF_1, pF_2, inv_s, hM.sh.k0, f, f2, nN_le, nN_lt, nN_eq, nN_add, nN_mul, nN_lt0, nN_ge0, nN_gt0, nN_le0, nN_eq0, nN_eq1, nN_neN, pIn_n, pIx_n, eq_self, Nat.reduceLT, Bool.false_eq_true, Nat.add_zero, Nat.zero_add, Nat.reduceAdd, Nat.reduceMul, Nat.reduceSub, Nat.zero_le, Nat.reduceLeDiff, Nat.reduceEqDiff, Nat.le_refl, not_false_eq_true, not_true_eq_false, false_implies, true_implies, forall_const, true_and, and_true, if_true, if_false, implies_true, and_self, ne_eq, false_and, and_false, or_false, false_or, true_or, or_true]
    rw [e_68_12]
    simp (disch := omega) only [q_aload0, q_aload0N, q_invv0, inv_1, q_get_i, pTag_1, pRf_s, q_istore1, q_ldc_s, q_invv1, q_if_eq, q_get_r, q_iconst, q_iald, q_bipush, q_ic_ne, q_iload1, q_nop, q_sipush, q_invv2, q_istore2, q_ic_eq, q_vret, q_imul, q_iadd, q_istore3, q_iload3, q_iload2, q_iast, q_dup2, q_goto, q_ishl, q_ior, q_istore4, q_istore5, q_istore6, q_iload4, q_iload5, q_iload6, q_invv5, q_pop_i, q_pop_r, q_isub, q_invv3, L_0, L_1, L_2, L_3, L_4, L_7, L_10, L_12, L_46, L_99, L_999, k_some, k_none, pRm_i, pRm_r, pRm_0, pF_1, pF_2, inv_s, nN_le, nN_lt, nN_eq, nN_add, nN_mul, nN_lt0, nN_ge0, nN_gt0, nN_le0, nN_eq0, nN_eq1, nN_neN, pIn_n, pIx_n, eq_self, Nat.reduceLT, Bool.false_eq_true, Nat.add_zero, Nat.zero_add, Nat.reduceAdd, Nat.reduceMul, Nat.reduceSub, Nat.zero_le, Nat.reduceLeDiff, Nat.reduceEqDiff, Nat.le_refl, not_false_eq_true, not_true_eq_false, false_implies, true_implies, forall_const, true_and, and_true, if_true, if_false, implies_true, and_self, ne_eq, false_and, and_false, or_false, false_or, true_or, or_true]
    refine f21 (r := .inl 0) A04 trivial ⟨rfl, ?_⟩
    rw [pRs_inl (v := 1000 + 4) (e := nx9 n b p) (show (pnm (th uW n b) (nx9 n b) 0 (nF a) (nx9 n b p) fun x q => pwd (th uW n b) (nx9 n b) 1008 q fun q => pnm (th uW n b) (nx9 n b) 0 (nP a) q fun y q => .inr (q, [x, y]) : pAg) = _ from by rw [pnm, if_neg c1])]
    exact ⟨a, hM, fun j _ => rfl⟩

  rw [bR_r, if_pos c1] at h3 h4 e4
  by_cases c2 : th uW n b (nx9 n b (nx9 n b p)) = 1000 + 8
  rotate_left
  · rw [bR_r, if_neg c2, bR_l] at h4
    have hM : MfU M4 u n b a (nx9 n b (nx9 n b p)) := h4
    have f := hM.ft
    have f2 := nN_ft hM.e9
    simp (disch := omega) only [q_aload0, q_aload0N, q_invv0, inv_1, q_get_i, pTag_1, pRf_s, q_istore1, q_ldc_s, q_invv1, q_if_eq, q_get_r, q_iconst, q_iald, q_bipush, q_ic_ne, q_iload1, q_nop, q_sipush, q_invv2, q_istore2, q_ic_eq, q_vret, q_imul, q_iadd, q_istore3, q_iload3, q_iload2, q_iast, q_dup2, q_goto, q_ishl, q_ior, q_istore4, q_istore5, q_istore6, q_iload4, q_iload5, q_iload6, q_invv5, q_pop_i, q_pop_r, q_isub, q_invv3, L_0, L_1, L_2, L_3, L_4, L_7, L_10, L_12, L_46, L_99, L_999, k_some, k_none, pRm_i, pRm_r, pRm_0, pF_1, pF_2, inv_s, hM.sh.k0, f, f2, nN_le, nN_lt, nN_eq, nN_add, nN_mul, nN_lt0, nN_ge0, nN_gt0, nN_le0, nN_eq0, nN_eq1, nN_neN, pIn_n, pIx_n, eq_self, Nat.reduceLT, Bool.false_eq_true, Nat.add_zero, Nat.zero_add, Nat.reduceAdd, Nat.reduceMul, Nat.reduceSub, Nat.zero_le, Nat.reduceLeDiff, Nat.reduceEqDiff, Nat.le_refl, not_false_eq_true, not_true_eq_false, false_implies, true_implies, forall_const, true_and, and_true, if_true, if_false, implies_true, and_self, ne_eq, false_and, and_false, or_false, false_or, true_or, or_true]
    rw [e_68_12]
    simp (disch := omega) only [q_aload0, q_aload0N, q_invv0, inv_1, q_get_i, pTag_1, pRf_s, q_istore1, q_ldc_s, q_invv1, q_if_eq, q_get_r, q_iconst, q_iald, q_bipush, q_ic_ne, q_iload1, q_nop, q_sipush, q_invv2, q_istore2, q_ic_eq, q_vret, q_imul, q_iadd, q_istore3, q_iload3, q_iload2, q_iast, q_dup2, q_goto, q_ishl, q_ior, q_istore4, q_istore5, q_istore6, q_iload4, q_iload5, q_iload6, q_invv5, q_pop_i, q_pop_r, q_isub, q_invv3, L_0, L_1, L_2, L_3, L_4, L_7, L_10, L_12, L_46, L_99, L_999, k_some, k_none, pRm_i, pRm_r, pRm_0, pF_1, pF_2, inv_s, nN_le, nN_lt, nN_eq, nN_add, nN_mul, nN_lt0, nN_ge0, nN_gt0, nN_le0, nN_eq0, nN_eq1, nN_neN, pIn_n, pIx_n, eq_self, Nat.reduceLT, Bool.false_eq_true, Nat.add_zero, Nat.zero_add, Nat.reduceAdd, Nat.reduceMul, Nat.reduceSub, Nat.zero_le, Nat.reduceLeDiff, Nat.reduceEqDiff, Nat.le_refl, not_false_eq_true, not_true_eq_false, false_implies, true_implies, forall_const, true_and, and_true, if_true, if_false, implies_true, and_self, ne_eq, false_and, and_false, or_false, false_or, true_or, or_true]
    refine f21 (r := .inl 0) A04 trivial ⟨rfl, ?_⟩
    rw [pRs_inl (v := 1000 + 4) (e := nx9 n b (nx9 n b p)) (show (pnm (th uW n b) (nx9 n b) 0 (nF a) (nx9 n b p) fun x q => pwd (th uW n b) (nx9 n b) 1008 q fun q => pnm (th uW n b) (nx9 n b) 0 (nP a) q fun y q => .inr (q, [x, y]) : pAg) = _ from by rw [pnm, if_pos c1, pwd, if_neg c2])]
    exact ⟨a, hM, fun j _ => rfl⟩

  rw [bR_r, if_pos c2] at h4 e4
  by_cases c3 : 0 ≤ th uW n b (nx9 n b (nx9 n b (nx9 n b p))) ∧ th uW n b (nx9 n b (nx9 n b (nx9 n b p))) < nP a
  rotate_left
  · rw [bR_r, if_neg (fun z => c3 ⟨Nat.zero_le _, z.1⟩)] at h4
    have hM : MfU M4 u n b a (nx9 n b (nx9 n b (nx9 n b p))) := h4
    have f := hM.ft
    have f2 := nN_ft hM.e9
    simp (disch := omega) only [q_aload0, q_aload0N, q_invv0, inv_1, q_get_i, pTag_1, pRf_s, q_istore1, q_ldc_s, q_invv1, q_if_eq, q_get_r, q_iconst, q_iald, q_bipush, q_ic_ne, q_iload1, q_nop, q_sipush, q_invv2, q_istore2, q_ic_eq, q_vret, q_imul, q_iadd, q_istore3, q_iload3, q_iload2, q_iast, q_dup2, q_goto, q_ishl, q_ior, q_istore4, q_istore5, q_istore6, q_iload4, q_iload5, q_iload6, q_invv5, q_pop_i, q_pop_r, q_isub, q_invv3, L_0, L_1, L_2, L_3, L_4, L_7, L_10, L_12, L_46, L_99, L_999, k_some, k_none, pRm_i, pRm_r, pRm_0, pF_1, pF_2, inv_s, hM.sh.k0, f, f2, nN_le, nN_lt, nN_eq, nN_add, nN_mul, nN_lt0, nN_ge0, nN_gt0, nN_le0, nN_eq0, nN_eq1, nN_neN, pIn_n, pIx_n, eq_self, Nat.reduceLT, Bool.false_eq_true, Nat.add_zero, Nat.zero_add, Nat.reduceAdd, Nat.reduceMul, Nat.reduceSub, Nat.zero_le, Nat.reduceLeDiff, Nat.reduceEqDiff, Nat.le_refl, not_false_eq_true, not_true_eq_false, false_implies, true_implies, forall_const, true_and, and_true, if_true, if_false, implies_true, and_self, ne_eq, false_and, and_false, or_false, false_or, true_or, or_true]
    rw [e_68_12]
    simp (disch := omega) only [q_aload0, q_aload0N, q_invv0, inv_1, q_get_i, pTag_1, pRf_s, q_istore1, q_ldc_s, q_invv1, q_if_eq, q_get_r, q_iconst, q_iald, q_bipush, q_ic_ne, q_iload1, q_nop, q_sipush, q_invv2, q_istore2, q_ic_eq, q_vret, q_imul, q_iadd, q_istore3, q_iload3, q_iload2, q_iast, q_dup2, q_goto, q_ishl, q_ior, q_istore4, q_istore5, q_istore6, q_iload4, q_iload5, q_iload6, q_invv5, q_pop_i, q_pop_r, q_isub, q_invv3, L_0, L_1, L_2, L_3, L_4, L_7, L_10, L_12, L_46, L_99, L_999, k_some, k_none, pRm_i, pRm_r, pRm_0, pF_1, pF_2, inv_s, nN_le, nN_lt, nN_eq, nN_add, nN_mul, nN_lt0, nN_ge0, nN_gt0, nN_le0, nN_eq0, nN_eq1, nN_neN, pIn_n, pIx_n, eq_self, Nat.reduceLT, Bool.false_eq_true, Nat.add_zero, Nat.zero_add, Nat.reduceAdd, Nat.reduceMul, Nat.reduceSub, Nat.zero_le, Nat.reduceLeDiff, Nat.reduceEqDiff, Nat.le_refl, not_false_eq_true, not_true_eq_false, false_implies, true_implies, forall_const, true_and, and_true, if_true, if_false, implies_true, and_self, ne_eq, false_and, and_false, or_false, false_or, true_or, or_true]
    refine f21 (r := .inl 0) A04 trivial ⟨rfl, ?_⟩
    rw [pRs_inl (v := 1000 + 4) (e := nx9 n b (nx9 n b (nx9 n b p))) (show (pnm (th uW n b) (nx9 n b) 0 (nF a) (nx9 n b p) fun x q => pwd (th uW n b) (nx9 n b) 1008 q fun q => pnm (th uW n b) (nx9 n b) 0 (nP a) q fun y q => .inr (q, [x, y]) : pAg) = _ from by rw [pnm, if_pos c1, pwd, if_pos c2, pnm, if_neg c3])]
    exact ⟨a, hM, fun j _ => rfl⟩

  rw [bR_r, if_pos ⟨c3.2, nm1 _ (by omega)⟩] at h4
  obtain ⟨q4, h4⟩ := h4
  have ev1 := e2 _ rfl c1
  have ev2 := e4 _ rfl c3.2
  have f := h4.sd.ft
  rw [ev1, ev2]
  rw [pRs_inr (v := 1000 + 4) (s := (nx9 n b (nx9 n b (nx9 n b (nx9 n b p))), [th uW n b (nx9 n b p), th uW n b (nx9 n b (nx9 n b (nx9 n b p)))])) (show (pnm (th uW n b) (nx9 n b) 0 (nF a) (nx9 n b p) fun x q => pwd (th uW n b) (nx9 n b) 1008 q fun q => pnm (th uW n b) (nx9 n b) 0 (nP a) q fun y q => .inr (q, [x, y]) : pAg) = _ from by rw [pnm, if_pos c1, pwd, if_pos c2, pnm, if_pos c3])]
  have fin : ∀ (M5 : pMem) (a' : Nat → Int32), MR M5 u a' → Ag (XMw u) M4 M5 → sPs a (th uW n b (nx9 n b p)) (th uW n b (nx9 n b (nx9 n b (nx9 n b p)))) = a' → bw (d + 69) 68 12 ([some (.ref u), l2, some (.int (nN (th uW n b (nx9 n b p)))), some (.int (nN (th uW n b (nx9 n b (nx9 n b (nx9 n b p)))))), l5, l6, l7], [], M5) (fun o M' => MtL M' u n b a (.inr (nx9 n b (nx9 n b (nx9 n b (nx9 n b p))), sEx a (1000 + 4) [th uW n b (nx9 n b p), th uW n b (nx9 n b (nx9 n b (nx9 n b p)))])) o ∧ Ag (XTm u) M M') := by
    intro M5 a' m5 A5 hs
    rw [e_68_12]
    simp (disch := omega) only [q_aload0, q_aload0N, q_invv0, inv_1, q_get_i, pTag_1, pRf_s, q_istore1, q_ldc_s, q_invv1, q_if_eq, q_get_r, q_iconst, q_iald, q_bipush, q_ic_ne, q_iload1, q_nop, q_sipush, q_invv2, q_istore2, q_ic_eq, q_vret, q_imul, q_iadd, q_istore3, q_iload3, q_iload2, q_iast, q_dup2, q_goto, q_ishl, q_ior, q_istore4, q_istore5, q_istore6, q_iload4, q_iload5, q_iload6, q_invv5, q_pop_i, q_pop_r, q_isub, q_invv3, L_0, L_1, L_2, L_3, L_4, L_7, L_10, L_12, L_46, L_99, L_999, k_some, k_none, pRm_i, pRm_r, pRm_0, pF_1, pF_2, inv_s, nN_le, nN_lt, nN_eq, nN_add, nN_mul, nN_lt0, nN_ge0, nN_gt0, nN_le0, nN_eq0, nN_eq1, nN_neN, pIn_n, pIx_n, eq_self, Nat.reduceLT, Bool.false_eq_true, Nat.add_zero, Nat.zero_add, Nat.reduceAdd, Nat.reduceMul, Nat.reduceSub, Nat.zero_le, Nat.reduceLeDiff, Nat.reduceEqDiff, Nat.le_refl, not_false_eq_true, not_true_eq_false, false_implies, true_implies, forall_const, true_and, and_true, if_true, if_false, implies_true, and_self, ne_eq, false_and, and_false, or_false, false_or, true_or, or_true]
    refine f21 (r := .inl 0) (a := a) (n := n) (b := b) (rr := .inr (nx9 n b (nx9 n b (nx9 n b (nx9 n b p))), sEx a (1000 + 4) [th uW n b (nx9 n b p), th uW n b (nx9 n b (nx9 n b (nx9 n b p)))])) (A04.trans (A5.mono XMw_T)) trivial ⟨rfl, q4, ?_⟩
    show MdU M5 u n b (sPs a (th uW n b (nx9 n b p)) (th uW n b (nx9 n b (nx9 n b (nx9 n b p))))) q4 (nx9 n b (nx9 n b (nx9 n b (nx9 n b p))))
    rw [hs]
    exact h4.eff A5 m5
  by_cases c4 : fa a (th uW n b (nx9 n b p)) 2 = nN (th uW n b (nx9 n b (nx9 n b (nx9 n b p))))
  · simp (disch := first | omega | rfl | (repeat' (first | exact gS_sI | exact gP_sI | refine Eq.trans gS_sI ?_ | refine Eq.trans gP_sI ?_ | refine Eq.trans (gIr_sI (by omega)) ?_ | rfl))) only [q_aload0, q_aload0N, q_invv0, inv_1, q_get_i, pTag_1, pRf_s, q_istore1, q_ldc_s, q_invv1, q_if_eq, q_get_r, q_iconst, q_iald, q_bipush, q_ic_ne, q_iload1, q_nop, q_sipush, q_invv2, q_istore2, q_ic_eq, q_vret, q_imul, q_iadd, q_istore3, q_iload3, q_iload2, q_iast, q_dup2, q_goto, q_ishl, q_ior, q_istore4, q_istore5, q_istore6, q_iload4, q_iload5, q_iload6, q_invv5, q_pop_i, q_pop_r, q_isub, q_invv3, L_0, L_1, L_2, L_3, L_4, L_7, L_10, L_12, L_46, L_99, L_999, k_some, k_none, pRm_i, pRm_r, pRm_0, pF_1, pF_2, inv_s, h4.sd.sh.k0, f, w_ofX h4.mr, c4, nN_le, nN_lt, nN_eq, nN_add, nN_mul, nN_lt0, nN_ge0, nN_gt0, nN_le0, nN_eq0, nN_eq1, nN_neN, pIn_n, pIx_n, eq_self, Nat.reduceLT, Bool.false_eq_true, Nat.add_zero, Nat.zero_add, Nat.reduceAdd, Nat.reduceMul, Nat.reduceSub, Nat.zero_le, Nat.reduceLeDiff, Nat.reduceEqDiff, Nat.le_refl, not_false_eq_true, not_true_eq_false, false_implies, true_implies, forall_const, true_and, and_true, if_true, if_false, implies_true, and_self, ne_eq, false_and, and_false, or_false, false_or, true_or, or_true]
    exact fin M4 a h4.mr Ag.rfl (by unfold sPs; rw [if_pos c4])
  · simp (disch := first | omega | rfl | (repeat' (first | exact gS_sI | exact gP_sI | refine Eq.trans gS_sI ?_ | refine Eq.trans gP_sI ?_ | refine Eq.trans (gIr_sI (by omega)) ?_ | rfl))) only [q_aload0, q_aload0N, q_invv0, inv_1, q_get_i, pTag_1, pRf_s, q_istore1, q_ldc_s, q_invv1, q_if_eq, q_get_r, q_iconst, q_iald, q_bipush, q_ic_ne, q_iload1, q_nop, q_sipush, q_invv2, q_istore2, q_ic_eq, q_vret, q_imul, q_iadd, q_istore3, q_iload3, q_iload2, q_iast, q_dup2, q_goto, q_ishl, q_ior, q_istore4, q_istore5, q_istore6, q_iload4, q_iload5, q_iload6, q_invv5, q_pop_i, q_pop_r, q_isub, q_invv3, L_0, L_1, L_2, L_3, L_4, L_7, L_10, L_12, L_46, L_99, L_999, k_some, k_none, pRm_i, pRm_r, pRm_0, pF_1, pF_2, inv_s, h4.sd.sh.k0, f, w_ofX h4.mr, c4, nN_le, nN_lt, nN_eq, nN_add, nN_mul, nN_lt0, nN_ge0, nN_gt0, nN_le0, nN_eq0, nN_eq1, nN_neN, pIn_n, pIx_n, eq_self, Nat.reduceLT, Bool.false_eq_true, Nat.add_zero, Nat.zero_add, Nat.reduceAdd, Nat.reduceMul, Nat.reduceSub, Nat.zero_le, Nat.reduceLeDiff, Nat.reduceEqDiff, Nat.le_refl, not_false_eq_true, not_true_eq_false, false_implies, true_implies, forall_const, true_and, and_true, if_true, if_false, implies_true, and_self, ne_eq, false_and, and_false, or_false, false_or, true_or, or_true]
    refine mw_mono (w_passesM (d := d + 2) h4.mr hw.1 hw.2.1 hw.2.2.2.1 c1.2 c3.2) ?_
    rintro o M5 ⟨h5, A5⟩
    by_cases c5 : sCanP a (th uW n b (nx9 n b p)) (th uW n b (nx9 n b (nx9 n b (nx9 n b p)))) = true
    · rw [if_pos c5] at h5
      obtain ⟨rfl, m5⟩ := h5
      simp (disch := omega) only [q_aload0, q_aload0N, q_invv0, inv_1, q_get_i, pTag_1, pRf_s, q_istore1, q_ldc_s, q_invv1, q_if_eq, q_get_r, q_iconst, q_iald, q_bipush, q_ic_ne, q_iload1, q_nop, q_sipush, q_invv2, q_istore2, q_ic_eq, q_vret, q_imul, q_iadd, q_istore3, q_iload3, q_iload2, q_iast, q_dup2, q_goto, q_ishl, q_ior, q_istore4, q_istore5, q_istore6, q_iload4, q_iload5, q_iload6, q_invv5, q_pop_i, q_pop_r, q_isub, q_invv3, L_0, L_1, L_2, L_3, L_4, L_7, L_10, L_12, L_46, L_99, L_999, k_some, k_none, pRm_i, pRm_r, pRm_0, pF_1, pF_2, inv_s, nN_le, nN_lt, nN_eq, nN_add, nN_mul, nN_lt0, nN_ge0, nN_gt0, nN_le0, nN_eq0, nN_eq1, nN_neN, pIn_n, pIx_n, eq_self, Nat.reduceLT, Bool.false_eq_true, Nat.add_zero, Nat.zero_add, Nat.reduceAdd, Nat.reduceMul, Nat.reduceSub, Nat.zero_le, Nat.reduceLeDiff, Nat.reduceEqDiff, Nat.le_refl, not_false_eq_true, not_true_eq_false, false_implies, true_implies, forall_const, true_and, and_true, if_true, if_false, implies_true, and_self, ne_eq, false_and, and_false, or_false, false_or, true_or, or_true]
      exact fin M5 _ m5 A5 (by unfold sPs; rw [if_neg c4, if_pos c5])
    · rw [if_neg c5] at h5
      obtain ⟨rfl, m5⟩ := h5
      simp (disch := omega) only [q_aload0, q_aload0N, q_invv0, inv_1, q_get_i, pTag_1, pRf_s, q_istore1, q_ldc_s, q_invv1, q_if_eq, q_get_r, q_iconst, q_iald, q_bipush, q_ic_ne, q_iload1, q_nop, q_sipush, q_invv2, q_istore2, q_ic_eq, q_vret, q_imul, q_iadd, q_istore3, q_iload3, q_iload2, q_iast, q_dup2, q_goto, q_ishl, q_ior, q_istore4, q_istore5, q_istore6, q_iload4, q_iload5, q_iload6, q_invv5, q_pop_i, q_pop_r, q_isub, q_invv3, L_0, L_1, L_2, L_3, L_4, L_7, L_10, L_12, L_46, L_99, L_999, k_some, k_none, pRm_i, pRm_r, pRm_0, pF_1, pF_2, inv_s, nN_le, nN_lt, nN_eq, nN_add, nN_mul, nN_lt0, nN_ge0, nN_gt0, nN_le0, nN_eq0, nN_eq1, nN_neN, pIn_n, pIx_n, eq_self, Nat.reduceLT, Bool.false_eq_true, Nat.add_zero, Nat.zero_add, Nat.reduceAdd, Nat.reduceMul, Nat.reduceSub, Nat.zero_le, Nat.reduceLeDiff, Nat.reduceEqDiff, Nat.le_refl, not_false_eq_true, not_true_eq_false, false_implies, true_implies, forall_const, true_and, and_true, if_true, if_false, implies_true, and_self, ne_eq, false_and, and_false, or_false, false_or, true_or, or_true]
      exact fin M5 _ m5 A5 (by unfold sPs; rw [if_neg c4, if_neg c5])
end MW9
