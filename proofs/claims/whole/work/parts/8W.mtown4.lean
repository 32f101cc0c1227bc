/-! THE LAW'S MODEL READS A LINE OF THE TOWN: near, need, person -/
section MW8
variable {d n u p q k m c lo sr i e K : Nat} {b : Nat → Nat} {a a' : Nat → Int32} {M M1 M' : pMem} {Q : pOut → pMem → Prop} {x y but : Int32} {r : Nat ⊕ Nat} {l1 l2 l3 l4 l5 l6 l7 : Option Value}
theorem thU (h : ∀ k, b k < 256) : th uW n b p ≤ 3001 := th_lt (by decide) h
theorem vb3 (h : MdU M u n b a p p) (hw : Wt a K) (hK : K < 2000000)
    (next : ∀ M1, MdU M1 u n b a p p → Ag (XTm u) M M1 → th uW n b p ≠ 1000 + 1 → bw (d + 69) 68 5 ([some (.ref u), l2, l3, l4, l5, l6, l7], [], M1) (fun o M' => MtL M' u n b a (pTL (th uW n b) (nx9 n b) a p) o ∧ Ag (XTm u) M M')) :
    bw (d + 69) 68 3 ([some (.ref u), l2, l3, l4, l5, l6, l7], [], M) (fun o M' => MtL M' u n b a (pTL (th uW n b) (nx9 n b) a p) o ∧ Ag (XTm u) M M') := by
  have hp' := hw.1.p'
  have hf' := hw.1.f'
  have hn' := hw.1.n'
  have nm1 : ∀ x, x < 4000 → ¬ nN x = iN (-1) := fun x hx => by rw [nN_neN (by omega)]; exact not_false
  rw [e_68_3]
  simp (disch := omega) only [q_aload0, q_aload0N, q_invv0, inv_1, q_get_i, pTag_1, pRf_s, q_istore1, q_ldc_s, q_invv1, q_if_eq, q_get_r, q_iconst, q_iald, q_bipush, q_ic_ne, q_iload1, q_nop, q_sipush, q_invv2, q_istore2, q_ic_eq, q_vret, q_imul, q_iadd, q_istore3, q_iload3, q_iload2, q_iast, q_dup2, q_goto, q_ishl, q_ior, q_istore4, q_istore5, q_istore6, q_iload4, q_iload5, q_iload6, q_invv5, q_pop_i, q_pop_r, q_isub, q_invv3, L_0, L_1, L_2, L_3, L_4, L_7, L_10, L_12, L_46, L_99, L_999, k_some, k_none, pRm_i, pRm_r, pRm_0, pF_1, pF_2, inv_s, h.sd.sh.k0, nN_le, nN_lt, nN_eq, nN_add, nN_mul, nN_lt0, nN_ge0, nN_gt0, nN_le0, nN_eq0, nN_eq1, nN_neN, pIn_n, pIx_n, eq_self, Nat.reduceLT, Bool.false_eq_true, Nat.add_zero, Nat.zero_add, Nat.reduceAdd, Nat.reduceMul, Nat.reduceSub, Nat.zero_le, Nat.reduceLeDiff, Nat.reduceEqDiff, Nat.le_refl, not_false_eq_true, not_true_eq_false, false_implies, true_implies, forall_const, true_and, and_true, if_true, if_false, implies_true, and_self, ne_eq, false_and, and_false, or_false, false_or, true_or, or_true]
  refine mw_mono (hasU (i := 1) h (by omega) rfl) ?_
  rintro o M1 ⟨h1, A1⟩
  by_cases c : th uW n b p = 1000 + 1
  rotate_left
  · rw [if_neg c] at h1
    obtain ⟨rfl, h1⟩ := h1
    simp (disch := omega) only [q_aload0, q_aload0N, q_invv0, inv_1, q_get_i, pTag_1, pRf_s, q_istore1, q_ldc_s, q_invv1, q_if_eq, q_get_r, q_iconst, q_iald, q_bipush, q_ic_ne, q_iload1, q_nop, q_sipush, q_invv2, q_istore2, q_ic_eq, q_vret, q_imul, q_iadd, q_istore3, q_iload3, q_iload2, q_iast, q_dup2, q_goto, q_ishl, q_ior, q_istore4, q_istore5, q_istore6, q_iload4, q_iload5, q_iload6, q_invv5, q_pop_i, q_pop_r, q_isub, q_invv3, L_0, L_1, L_2, L_3, L_4, L_7, L_10, L_12, L_46, L_99, L_999, k_some, k_none, pRm_i, pRm_r, pRm_0, pF_1, pF_2, inv_s, h1.sd.sh.k0, nN_le, nN_lt, nN_eq, nN_add, nN_mul, nN_lt0, nN_ge0, nN_gt0, nN_le0, nN_eq0, nN_eq1, nN_neN, pIn_n, pIx_n, eq_self, Nat.reduceLT, Bool.false_eq_true, Nat.add_zero, Nat.zero_add, Nat.reduceAdd, Nat.reduceMul, Nat.reduceSub, Nat.zero_le, Nat.reduceLeDiff, Nat.reduceEqDiff, Nat.le_refl, not_false_eq_true, not_true_eq_false, false_implies, true_implies, forall_const, true_and, and_true, if_true, if_false, implies_true, and_self, ne_eq, false_and, and_false, or_false, false_or, true_or, or_true]
    exact next M1 h1 (A1.mono X9_T) c
  rw [if_pos c] at h1
  obtain ⟨rfl, h1⟩ := h1
  rw [pTL_v c (by omega) (by omega) (by omega)]
  simp (disch := omega) only [q_aload0, q_aload0N, q_invv0, inv_1, q_get_i, pTag_1, pRf_s, q_istore1, q_ldc_s, q_invv1, q_if_eq, q_get_r, q_iconst, q_iald, q_bipush, q_ic_ne, q_iload1, q_nop, q_sipush, q_invv2, q_istore2, q_ic_eq, q_vret, q_imul, q_iadd, q_istore3, q_iload3, q_iload2, q_iast, q_dup2, q_goto, q_ishl, q_ior, q_istore4, q_istore5, q_istore6, q_iload4, q_iload5, q_iload6, q_invv5, q_pop_i, q_pop_r, q_isub, q_invv3, L_0, L_1, L_2, L_3, L_4, L_7, L_10, L_12, L_46, L_99, L_999, k_some, k_none, pRm_i, pRm_r, pRm_0, pF_1, pF_2, inv_s, h1.sd.sh.k0, nN_le, nN_lt, nN_eq, nN_add, nN_mul, nN_lt0, nN_ge0, nN_gt0, nN_le0, nN_eq0, nN_eq1, nN_neN, pIn_n, pIx_n, eq_self, Nat.reduceLT, Bool.false_eq_true, Nat.add_zero, Nat.zero_add, Nat.reduceAdd, Nat.reduceMul, Nat.reduceSub, Nat.zero_le, Nat.reduceLeDiff, Nat.reduceEqDiff, Nat.le_refl, not_false_eq_true, not_true_eq_false, false_implies, true_implies, forall_const, true_and, and_true, if_true, if_false, implies_true, and_self, ne_eq, false_and, and_false, or_false, false_or, true_or, or_true]
  refine mw_mono (u_person (but := iN (-1)) (r := .inr (nx9 n b p)) ⟨_, h1⟩ hw.1) ?_
  rintro o M2 ⟨v1, rfl, h2, e2, A2⟩
  have k2 : (gS M2 u).1 = 12 := by rw [A2.S, h1.sd.sh.k0]
  simp (disch := omega) only [q_aload0, q_aload0N, q_invv0, inv_1, q_get_i, pTag_1, pRf_s, q_istore1, q_ldc_s, q_invv1, q_if_eq, q_get_r, q_iconst, q_iald, q_bipush, q_ic_ne, q_iload1, q_nop, q_sipush, q_invv2, q_istore2, q_ic_eq, q_vret, q_imul, q_iadd, q_istore3, q_iload3, q_iload2, q_iast, q_dup2, q_goto, q_ishl, q_ior, q_istore4, q_istore5, q_istore6, q_iload4, q_iload5, q_iload6, q_invv5, q_pop_i, q_pop_r, q_isub, q_invv3, L_0, L_1, L_2, L_3, L_4, L_7, L_10, L_12, L_46, L_99, L_999, k_some, k_none, pRm_i, pRm_r, pRm_0, pF_1, pF_2, inv_s, k2, nN_le, nN_lt, nN_eq, nN_add, nN_mul, nN_lt0, nN_ge0, nN_gt0, nN_le0, nN_eq0, nN_eq1, nN_neN, pIn_n, pIx_n, eq_self, Nat.reduceLT, Bool.false_eq_true, Nat.add_zero, Nat.zero_add, Nat.reduceAdd, Nat.reduceMul, Nat.reduceSub, Nat.zero_le, Nat.reduceLeDiff, Nat.reduceEqDiff, Nat.le_refl, not_false_eq_true, not_true_eq_false, false_implies, true_implies, forall_const, true_and, and_true, if_true, if_false, implies_true, and_self, ne_eq, false_and, and_false, or_false, false_or, true_or, or_true]
  refine mw_mono (u_person (but := v1) h2 hw.1) ?_
  rintro o M3 ⟨v2, rfl, h3, e3, A3⟩
  have A03 := ((A1.mono X9_T).trans (A2.mono MdX_T)).trans (A3.mono MdX_T)
  have hb9 := h.sd.b9
  by_cases c1 : 0 ≤ th uW n b (nx9 n b p) ∧ th uW n b (nx9 n b p) < nP a
  rotate_left
  · rw [bR_r, if_neg (fun z => c1 ⟨Nat.zero_le _, z.1⟩), bR_l] at h3
    have hM : MfU M3 u n b a (nx9 n b p) := h3
    have f := hM.ft
    have f2 := nN_ft hM.e9
    simp (disch := omega) only [q_aload0, q_aload0N, q_invv0, inv_1, q_get_i, pTag_1, pRf_s, q_istore1, q_ldc_s, q_invv1, q_if_eq, q_get_r, q_iconst, q_iald, q_bipush, q_ic_ne, q_iload1, q_nop, q_sipush, q_invv2, q_istore2, q_ic_eq, q_vret, q_imul, q_iadd, q_istore3, q_iload3, q_iload2, q_iast, q_dup2, q_goto, q_ishl, q_ior, q_istore4, q_istore5, q_istore6, q_iload4, q_iload5, q_iload6, q_invv5, q_pop_i, q_pop_r, q_isub, q_invv3, L_0, L_1, L_2, L_3, L_4, L_7, L_10, L_12, L_46, L_99, L_999, k_some, k_none, pRm_i, pRm_r, pRm_0, pF_1, pF_2, inv_s, hM.sh.k0, f, f2, nN_le, nN_lt, nN_eq, nN_add, nN_mul, nN_lt0, nN_ge0, nN_gt0, nN_le0, nN_eq0, nN_eq1, nN_neN, pIn_n, pIx_n, eq_self, Nat.reduceLT, Bool.false_eq_true, Nat.add_zero, Nat.zero_add, Nat.reduceAdd, Nat.reduceMul, Nat.reduceSub, Nat.zero_le, Nat.reduceLeDiff, Nat.reduceEqDiff, Nat.le_refl, not_false_eq_true, not_true_eq_false, false_implies, true_implies, forall_const, true_and, and_true, if_true, if_false, implies_true, and_self, ne_eq, false_and, and_false, or_false, false_or, true_or, or_true]
    refine ⟨⟨rfl, ?_⟩, A03⟩
    rw [pRs_inl (v := 1000 + 1) (e := nx9 n b p) (show (pnm (th uW n b) (nx9 n b) 0 (nP a) (nx9 n b p) fun x q => psec (th uW n b) (nx9 n b) (nP a) x q fun y q => .inr (q, [x, y]) : pAg) = _ from by rw [pnm, if_neg c1])]
    exact ⟨a, hM, fun j _ => rfl⟩

  rw [bR_r, if_pos ⟨c1.2, nm1 _ (by omega)⟩] at h3 e3
  have ev1 := e2 _ rfl c1.2
  have t2 := thU (n := n) (p := nx9 n b (nx9 n b p)) hb9
  rw [ev1, bR_r] at h3
  have en := nN_eq (a := th uW n b (nx9 n b (nx9 n b p))) (b := th uW n b (nx9 n b p)) (by omega) (by omega)
  by_cases c2 : th uW n b (nx9 n b (nx9 n b p)) = th uW n b (nx9 n b p)
  · rw [if_neg (fun z => z.2 (by rw [c2]))] at h3
    have hM : MfU M3 u n b a (nx9 n b (nx9 n b p)) := h3
    have f := hM.ft
    have f2 := nN_ft hM.e9
    simp (disch := omega) only [q_aload0, q_aload0N, q_invv0, inv_1, q_get_i, pTag_1, pRf_s, q_istore1, q_ldc_s, q_invv1, q_if_eq, q_get_r, q_iconst, q_iald, q_bipush, q_ic_ne, q_iload1, q_nop, q_sipush, q_invv2, q_istore2, q_ic_eq, q_vret, q_imul, q_iadd, q_istore3, q_iload3, q_iload2, q_iast, q_dup2, q_goto, q_ishl, q_ior, q_istore4, q_istore5, q_istore6, q_iload4, q_iload5, q_iload6, q_invv5, q_pop_i, q_pop_r, q_isub, q_invv3, L_0, L_1, L_2, L_3, L_4, L_7, L_10, L_12, L_46, L_99, L_999, k_some, k_none, pRm_i, pRm_r, pRm_0, pF_1, pF_2, inv_s, hM.sh.k0, f, f2, nN_le, nN_lt, nN_eq, nN_add, nN_mul, nN_lt0, nN_ge0, nN_gt0, nN_le0, nN_eq0, nN_eq1, nN_neN, pIn_n, pIx_n, eq_self, Nat.reduceLT, Bool.false_eq_true, Nat.add_zero, Nat.zero_add, Nat.reduceAdd, Nat.reduceMul, Nat.reduceSub, Nat.zero_le, Nat.reduceLeDiff, Nat.reduceEqDiff, Nat.le_refl, not_false_eq_true, not_true_eq_false, false_implies, true_implies, forall_const, true_and, and_true, if_true, if_false, implies_true, and_self, ne_eq, false_and, and_false, or_false, false_or, true_or, or_true]
    refine ⟨⟨rfl, ?_⟩, A03⟩
    rw [pRs_inl (v := 1000 + 1) (e := nx9 n b (nx9 n b p)) (show (pnm (th uW n b) (nx9 n b) 0 (nP a) (nx9 n b p) fun x q => psec (th uW n b) (nx9 n b) (nP a) x q fun y q => .inr (q, [x, y]) : pAg) = _ from by rw [pnm, if_pos c1, psec, if_pos c2])]
    exact ⟨a, hM, fun j _ => rfl⟩

  by_cases c3 : 0 ≤ th uW n b (nx9 n b (nx9 n b p)) ∧ th uW n b (nx9 n b (nx9 n b p)) < nP a
  rotate_left
  · rw [if_neg (fun z => c3 ⟨Nat.zero_le _, z.1⟩)] at h3
    have hM : MfU M3 u n b a (nx9 n b (nx9 n b p)) := h3
    have f := hM.ft
    have f2 := nN_ft hM.e9
    simp (disch := omega) only [q_aload0, q_aload0N, q_invv0, inv_1, q_get_i, pTag_1, pRf_s, q_istore1, q_ldc_s, q_invv1, q_if_eq, q_get_r, q_iconst, q_iald, q_bipush, q_ic_ne, q_iload1, q_nop, q_sipush, q_invv2, q_istore2, q_ic_eq, q_vret, q_imul, q_iadd, q_istore3, q_iload3, q_iload2, q_iast, q_dup2, q_goto, q_ishl, q_ior, q_istore4, q_istore5, q_istore6, q_iload4, q_iload5, q_iload6, q_invv5, q_pop_i, q_pop_r, q_isub, q_invv3, L_0, L_1, L_2, L_3, L_4, L_7, L_10, L_12, L_46, L_99, L_999, k_some, k_none, pRm_i, pRm_r, pRm_0, pF_1, pF_2, inv_s, hM.sh.k0, f, f2, nN_le, nN_lt, nN_eq, nN_add, nN_mul, nN_lt0, nN_ge0, nN_gt0, nN_le0, nN_eq0, nN_eq1, nN_neN, pIn_n, pIx_n, eq_self, Nat.reduceLT, Bool.false_eq_true, Nat.add_zero, Nat.zero_add, Nat.reduceAdd, Nat.reduceMul, Nat.reduceSub, Nat.zero_le, Nat.reduceLeDiff, Nat.reduceEqDiff, Nat.le_refl, not_false_eq_true, not_true_eq_false, false_implies, true_implies, forall_const, true_and, and_true, if_true, if_false, implies_true, and_self, ne_eq, false_and, and_false, or_false, false_or, true_or, or_true]
    refine ⟨⟨rfl, ?_⟩, A03⟩
    rw [pRs_inl (v := 1000 + 1) (e := nx9 n b (nx9 n b p)) (show (pnm (th uW n b) (nx9 n b) 0 (nP a) (nx9 n b p) fun x q => psec (th uW n b) (nx9 n b) (nP a) x q fun y q => .inr (q, [x, y]) : pAg) = _ from by rw [pnm, if_pos c1, psec, if_neg c2, pnm, if_neg c3])]
    exact ⟨a, hM, fun j _ => rfl⟩

  rw [if_pos ⟨c3.2, fun z => c2 (by rwa [en] at z)⟩] at h3
  obtain ⟨q3, h3⟩ := h3
  have ev2 := e3 _ rfl c3.2
  have f := h3.sd.ft
  rw [ev1, ev2]
  rw [pRs_inr (v := 1000 + 1) (s := (nx9 n b (nx9 n b (nx9 n b p)), [th uW n b (nx9 n b p), th uW n b (nx9 n b (nx9 n b p))])) (show (pnm (th uW n b) (nx9 n b) 0 (nP a) (nx9 n b p) fun x q => psec (th uW n b) (nx9 n b) (nP a) x q fun y q => .inr (q, [x, y]) : pAg) = _ from by rw [pnm, if_pos c1, psec, if_neg c2, pnm, if_pos c3])]
  generalize th uW n b (nx9 n b p) = x9 at c1 c2 c3 ev1 ⊢
  generalize th uW n b (nx9 n b (nx9 n b p)) = y9 at c2 c3 ev2 ⊢
  have i1 : 10 + 3 * x9 + 2 < 3346 := by omega
  have i2 : 10 + 3 * y9 + 2 < 3346 := by omega
  have i3 : ¬ 10 + 3 * y9 + 2 = 10 + 3 * x9 + 2 := by omega
  have i4 : ¬ 3 * y9 = 3 * x9 := by omega
  have g1 : gI M3 (u + 1) (10 + 3 * x9 + 2) = pa a x9 2 := by rw [h3.tb]; rfl
  have g2 : gI M3 (u + 1) (10 + 3 * y9 + 2) = pa a y9 2 := by rw [h3.tb]; rfl
  simp (disch := omega) only [q_aload0, q_aload0N, q_invv0, inv_1, q_get_i, pTag_1, pRf_s, q_istore1, q_ldc_s, q_invv1, q_if_eq, q_get_r, q_iconst, q_iald, q_bipush, q_ic_ne, q_iload1, q_nop, q_sipush, q_invv2, q_istore2, q_ic_eq, q_vret, q_imul, q_iadd, q_istore3, q_iload3, q_iload2, q_iast, q_dup2, q_goto, q_ishl, q_ior, q_istore4, q_istore5, q_istore6, q_iload4, q_iload5, q_iload6, q_invv5, q_pop_i, q_pop_r, q_isub, q_invv3, L_0, L_1, L_2, L_3, L_4, L_7, L_10, L_12, L_46, L_99, L_999, k_some, k_none, pRm_i, pRm_r, pRm_0, pF_1, pF_2, inv_s, h3.sd.sh.k0, f, nN_le, nN_lt, nN_eq, nN_add, nN_mul, nN_lt0, nN_ge0, nN_gt0, nN_le0, nN_eq0, nN_eq1, nN_neN, pIn_n, pIx_n, eq_self, Nat.reduceLT, Bool.false_eq_true, Nat.add_zero, Nat.zero_add, Nat.reduceAdd, Nat.reduceMul, Nat.reduceSub, Nat.zero_le, Nat.reduceLeDiff, Nat.reduceEqDiff, Nat.le_refl, not_false_eq_true, not_true_eq_false, false_implies, true_implies, forall_const, true_and, and_true, if_true, if_false, implies_true, and_self, ne_eq, false_and, and_false, or_false, false_or, true_or, or_true]
  rw [e_68_4]
  simp (disch := omega) only [q_aload0, q_aload0N, q_invv0, inv_1, q_get_i, pTag_1, pRf_s, q_istore1, q_ldc_s, q_invv1, q_if_eq, q_get_r, q_iconst, q_iald, q_bipush, q_ic_ne, q_iload1, q_nop, q_sipush, q_invv2, q_istore2, q_ic_eq, q_vret, q_imul, q_iadd, q_istore3, q_iload3, q_iload2, q_iast, q_dup2, q_goto, q_ishl, q_ior, q_istore4, q_istore5, q_istore6, q_iload4, q_iload5, q_iload6, q_invv5, q_pop_i, q_pop_r, q_isub, q_invv3, L_0, L_1, L_2, L_3, L_4, L_7, L_10, L_12, L_46, L_99, L_999, k_some, k_none, pRm_i, pRm_r, pRm_0, pF_1, pF_2, inv_s, h3.sd.sh.k0, h3.sd.sh.k1, h3.sd.sh.p1, gS_sI, gP_sI, gI_sI, i1, i2, i3, i4, c2, g1, g2, pIn_n, pIx_n, nN_mul, nN_add, eq_self, Nat.reduceLT, Bool.false_eq_true, Nat.add_zero, Nat.zero_add, Nat.reduceAdd, Nat.reduceMul, Nat.reduceSub, Nat.zero_le, Nat.reduceLeDiff, Nat.reduceEqDiff, Nat.le_refl, not_false_eq_true, not_true_eq_false, false_implies, true_implies, forall_const, true_and, and_true, if_true, if_false, implies_true, and_self, ne_eq, false_and, and_false, or_false, false_or, true_or, or_true]
  have A4 : Ag (XMw u) M3 (sI (sI M3 (u + 1) (10 + 3 * x9 + 2) (pa a x9 2 ||| nN 1 <<< (nN y9 &&& 31))) (u + 1) (10 + 3 * y9 + 2) (pa a y9 2 ||| nN 1 <<< (nN x9 &&& 31))) := Ag.put (Ag.one (Or.inr rfl)) (Or.inr rfl)
  refine f21 (r := .inl 0) (A03.trans (A4.mono XMw_T)) trivial ?_
  refine ⟨rfl, q3, ?_⟩
  refine h3.eff A4 ⟨h3.sd.sh, ?_⟩
  funext j
  rw [gI_sI, gI_sI, h3.tb]
  show _ = sNea a x9 y9 j
  unfold sNea aU nrV
  by_cases d1 : j = 10 + 3 * y9 + 2
  · rw [if_pos ⟨rfl, d1⟩, if_pos d1]
  · rw [if_neg (fun z => d1 z.2), if_neg d1]
    by_cases d2 : j = 10 + 3 * x9 + 2
    · rw [if_pos ⟨rfl, d2⟩, if_pos d2]
    · rw [if_neg (fun z => d2 z.2), if_neg d2]
theorem vb18 {r0 : Nat ⊕ Nat} (h : MdO M u n b a r0) (hb9 : ∀ k, b k < 256) (hk : (gS M u).1 = 12) (hw : Wf a) (hE : ∀ q, r0 = .inr q → nE a < 12) : bw (d + 69) 68 18 ([some (.ref u), l2, l3, l4, l5, l6, l7], [], M) (fun o M' => MtL M' u n b a (pRs n b a 1007 r0) o ∧ Ag (XTm u) M M') := by
  have hp' := hw.p'
  have hn' := hw.n'
  have nm1 : ∀ x, x < 4000 → ¬ nN x = iN (-1) := fun x hx => by rw [nN_neN (by omega)]; exact not_false
  rw [e_68_18]
  simp (disch := omega) only [q_aload0, q_aload0N, q_invv0, inv_1, q_get_i, pTag_1, pRf_s, q_istore1, q_ldc_s, q_invv1, q_if_eq, q_get_r, q_iconst, q_iald, q_bipush, q_ic_ne, q_iload1, q_nop, q_sipush, q_invv2, q_istore2, q_ic_eq, q_vret, q_imul, q_iadd, q_istore3, q_iload3, q_iload2, q_iast, q_dup2, q_goto, q_ishl, q_ior, q_istore4, q_istore5, q_istore6, q_iload4, q_iload5, q_iload6, q_invv5, q_pop_i, q_pop_r, q_isub, q_invv3, L_0, L_1, L_2, L_3, L_4, L_7, L_10, L_12, L_46, L_99, L_999, k_some, k_none, pRm_i, pRm_r, pRm_0, pF_1, pF_2, inv_s, hk, nN_le, nN_lt, nN_eq, nN_add, nN_mul, nN_lt0, nN_ge0, nN_gt0, nN_le0, nN_eq0, nN_eq1, nN_neN, pIn_n, pIx_n, eq_self, Nat.reduceLT, Bool.false_eq_true, Nat.add_zero, Nat.zero_add, Nat.reduceAdd, Nat.reduceMul, Nat.reduceSub, Nat.zero_le, Nat.reduceLeDiff, Nat.reduceEqDiff, Nat.le_refl, not_false_eq_true, not_true_eq_false, false_implies, true_implies, forall_const, true_and, and_true, if_true, if_false, implies_true, and_self, ne_eq, false_and, and_false, or_false, false_or, true_or, or_true]
  refine mw_mono (u_person (but := iN (-1)) h hw) ?_
  rintro o M2 ⟨v1, rfl, h2, e2, A2⟩
  have k2 : (gS M2 u).1 = 12 := by rw [A2.S, hk]
  simp (disch := omega) only [q_aload0, q_aload0N, q_invv0, inv_1, q_get_i, pTag_1, pRf_s, q_istore1, q_ldc_s, q_invv1, q_if_eq, q_get_r, q_iconst, q_iald, q_bipush, q_ic_ne, q_iload1, q_nop, q_sipush, q_invv2, q_istore2, q_ic_eq, q_vret, q_imul, q_iadd, q_istore3, q_iload3, q_iload2, q_iast, q_dup2, q_goto, q_ishl, q_ior, q_istore4, q_istore5, q_istore6, q_iload4, q_iload5, q_iload6, q_invv5, q_pop_i, q_pop_r, q_isub, q_invv3, L_0, L_1, L_2, L_3, L_4, L_7, L_10, L_12, L_46, L_99, L_999, k_some, k_none, pRm_i, pRm_r, pRm_0, pF_1, pF_2, inv_s, k2, nN_le, nN_lt, nN_eq, nN_add, nN_mul, nN_lt0, nN_ge0, nN_gt0, nN_le0, nN_eq0, nN_eq1, nN_neN, pIn_n, pIx_n, eq_self, Nat.reduceLT, Bool.false_eq_true, Nat.add_zero, Nat.zero_add, Nat.reduceAdd, Nat.reduceMul, Nat.reduceSub, Nat.zero_le, Nat.reduceLeDiff, Nat.reduceEqDiff, Nat.le_refl, not_false_eq_true, not_true_eq_false, false_implies, true_implies, forall_const, true_and, and_true, if_true, if_false, implies_true, and_self, ne_eq, false_and, and_false, or_false, false_or, true_or, or_true]
  refine mw_mono (u_must (i := 9) h2 (by omega) rfl) ?_
  rintro o M3 ⟨rfl, h3, A3⟩
  have k3 : (gS M3 u).1 = 12 := by rw [A3.S, k2]
  simp (disch := omega) only [q_aload0, q_aload0N, q_invv0, inv_1, q_get_i, pTag_1, pRf_s, q_istore1, q_ldc_s, q_invv1, q_if_eq, q_get_r, q_iconst, q_iald, q_bipush, q_ic_ne, q_iload1, q_nop, q_sipush, q_invv2, q_istore2, q_ic_eq, q_vret, q_imul, q_iadd, q_istore3, q_iload3, q_iload2, q_iast, q_dup2, q_goto, q_ishl, q_ior, q_istore4, q_istore5, q_istore6, q_iload4, q_iload5, q_iload6, q_invv5, q_pop_i, q_pop_r, q_isub, q_invv3, L_0, L_1, L_2, L_3, L_4, L_7, L_10, L_12, L_46, L_99, L_999, k_some, k_none, pRm_i, pRm_r, pRm_0, pF_1, pF_2, inv_s, k3, nN_le, nN_lt, nN_eq, nN_add, nN_mul, nN_lt0, nN_ge0, nN_gt0, nN_le0, nN_eq0, nN_eq1, nN_neN, pIn_n, pIx_n, eq_self, Nat.reduceLT, Bool.false_eq_true, Nat.add_zero, Nat.zero_add, Nat.reduceAdd, Nat.reduceMul, Nat.reduceSub, Nat.zero_le, Nat.reduceLeDiff, Nat.reduceEqDiff, Nat.le_refl, not_false_eq_true, not_true_eq_false, false_implies, true_implies, forall_const, true_and, and_true, if_true, if_false, implies_true, and_self, ne_eq, false_and, and_false, or_false, false_or, true_or, or_true]
  refine mw_mono (u_person (but := v1) h3 hw) ?_
  rintro o M4 ⟨v2, rfl, h4, e4, A4⟩
  have k4 : (gS M4 u).1 = 12 := by rw [A4.S, k3]
  simp (disch := omega) only [q_aload0, q_aload0N, q_invv0, inv_1, q_get_i, pTag_1, pRf_s, q_istore1, q_ldc_s, q_invv1, q_if_eq, q_get_r, q_iconst, q_iald, q_bipush, q_ic_ne, q_iload1, q_nop, q_sipush, q_invv2, q_istore2, q_ic_eq, q_vret, q_imul, q_iadd, q_istore3, q_iload3, q_iload2, q_iast, q_dup2, q_goto, q_ishl, q_ior, q_istore4, q_istore5, q_istore6, q_iload4, q_iload5, q_iload6, q_invv5, q_pop_i, q_pop_r, q_isub, q_invv3, L_0, L_1, L_2, L_3, L_4, L_7, L_10, L_12, L_46, L_99, L_999, k_some, k_none, pRm_i, pRm_r, pRm_0, pF_1, pF_2, inv_s, k4, nN_le, nN_lt, nN_eq, nN_add, nN_mul, nN_lt0, nN_ge0, nN_gt0, nN_le0, nN_eq0, nN_eq1, nN_neN, pIn_n, pIx_n, eq_self, Nat.reduceLT, Bool.false_eq_true, Nat.add_zero, Nat.zero_add, Nat.reduceAdd, Nat.reduceMul, Nat.reduceSub, Nat.zero_le, Nat.reduceLeDiff, Nat.reduceEqDiff, Nat.le_refl, not_false_eq_true, not_true_eq_false, false_implies, true_implies, forall_const, true_and, and_true, if_true, if_false, implies_true, and_self, ne_eq, false_and, and_false, or_false, false_or, true_or, or_true]
  refine mw_mono (u_figs (lo := 1) (c := 100) h4 (by omega) nm99 (by omega)) ?_
  rintro o M5 ⟨v3, rfl, h5, e5, A5⟩
  have A05 := (((A2.mono MdX_T).trans (A3.mono MdX_T)).trans (A4.mono MdX_T)).trans (A5.mono MdX_T)
  cases r0 with
  | inl e =>
    rw [bR_l, bR_l, bR_l, bR_l] at h5
    have hM : MfU M5 u n b a e := h5
    have f := hM.ft
    have f2 := nN_ft hM.e9
    simp (disch := omega) only [q_aload0, q_aload0N, q_invv0, inv_1, q_get_i, pTag_1, pRf_s, q_istore1, q_ldc_s, q_invv1, q_if_eq, q_get_r, q_iconst, q_iald, q_bipush, q_ic_ne, q_iload1, q_nop, q_sipush, q_invv2, q_istore2, q_ic_eq, q_vret, q_imul, q_iadd, q_istore3, q_iload3, q_iload2, q_iast, q_dup2, q_goto, q_ishl, q_ior, q_istore4, q_istore5, q_istore6, q_iload4, q_iload5, q_iload6, q_invv5, q_pop_i, q_pop_r, q_isub, q_invv3, L_0, L_1, L_2, L_3, L_4, L_7, L_10, L_12, L_46, L_99, L_999, k_some, k_none, pRm_i, pRm_r, pRm_0, pF_1, pF_2, inv_s, hM.sh.k0, f, f2, nN_le, nN_lt, nN_eq, nN_add, nN_mul, nN_lt0, nN_ge0, nN_gt0, nN_le0, nN_eq0, nN_eq1, nN_neN, pIn_n, pIx_n, eq_self, Nat.reduceLT, Bool.false_eq_true, Nat.add_zero, Nat.zero_add, Nat.reduceAdd, Nat.reduceMul, Nat.reduceSub, Nat.zero_le, Nat.reduceLeDiff, Nat.reduceEqDiff, Nat.le_refl, not_false_eq_true, not_true_eq_false, false_implies, true_implies, forall_const, true_and, and_true, if_true, if_false, implies_true, and_self, ne_eq, false_and, and_false, or_false, false_or, true_or, or_true]
    exact ⟨⟨rfl, a, hM, fun j _ => rfl⟩, A05⟩
  | inr q =>
  have hE := hE q rfl
  by_cases c1 : 0 ≤ th uW n b (q) ∧ th uW n b (q) < nP a
  rotate_left
  · rw [bR_r, if_neg (fun z => c1 ⟨Nat.zero_le _, z.1⟩), bR_l, bR_l, bR_l] at h5
    have hM : MfU M5 u n b a (q) := h5
    have f := hM.ft
    have f2 := nN_ft hM.e9
    simp (disch := omega) only [q_aload0, q_aload0N, q_invv0, inv_1, q_get_i, pTag_1, pRf_s, q_istore1, q_ldc_s, q_invv1, q_if_eq, q_get_r, q_iconst, q_iald, q_bipush, q_ic_ne, q_iload1, q_nop, q_sipush, q_invv2, q_istore2, q_ic_eq, q_vret, q_imul, q_iadd, q_istore3, q_iload3, q_iload2, q_iast, q_dup2, q_goto, q_ishl, q_ior, q_istore4, q_istore5, q_istore6, q_iload4, q_iload5, q_iload6, q_invv5, q_pop_i, q_pop_r, q_isub, q_invv3, L_0, L_1, L_2, L_3, L_4, L_7, L_10, L_12, L_46, L_99, L_999, k_some, k_none, pRm_i, pRm_r, pRm_0, pF_1, pF_2, inv_s, hM.sh.k0, f, f2, nN_le, nN_lt, nN_eq, nN_add, nN_mul, nN_lt0, nN_ge0, nN_gt0, nN_le0, nN_eq0, nN_eq1, nN_neN, pIn_n, pIx_n, eq_self, Nat.reduceLT, Bool.false_eq_true, Nat.add_zero, Nat.zero_add, Nat.reduceAdd, Nat.reduceMul, Nat.reduceSub, Nat.zero_le, Nat.reduceLeDiff, Nat.reduceEqDiff, Nat.le_refl, not_false_eq_true, not_true_eq_false, false_implies, true_implies, forall_const, true_and, and_true, if_true, if_false, implies_true, and_self, ne_eq, false_and, and_false, or_false, false_or, true_or, or_true]
    refine ⟨⟨rfl, ?_⟩, A05⟩
    rw [pRs_inl (v := 1007) (e := q) (show (pnm (th uW n b) (nx9 n b) 0 (nP a) q fun x q => pwd (th uW n b) (nx9 n b) 1009 q fun q => psec (th uW n b) (nx9 n b) (nP a) x q fun y q => pnm (th uW n b) (nx9 n b) 1 100 q fun n q => .inr (q, [x, y, n]) : pAg) = _ from by rw [pnm, if_neg c1])]
    exact ⟨a, hM, fun j _ => rfl⟩

  rw [bR_r, if_pos ⟨c1.2, nm1 _ (by omega)⟩] at h4 h5 e4 e5
  have ev1 := e2 _ rfl c1.2
  by_cases c2 : th uW n b (nx9 n b q) = 1000 + 9
  rotate_left
  · rw [bR_r, if_neg c2, bR_l, bR_l] at h5
    have hM : MfU M5 u n b a (nx9 n b q) := h5
    have f := hM.ft
    have f2 := nN_ft hM.e9
    simp (disch := omega) only [q_aload0, q_aload0N, q_invv0, inv_1, q_get_i, pTag_1, pRf_s, q_istore1, q_ldc_s, q_invv1, q_if_eq, q_get_r, q_iconst, q_iald, q_bipush, q_ic_ne, q_iload1, q_nop, q_sipush, q_invv2, q_istore2, q_ic_eq, q_vret, q_imul, q_iadd, q_istore3, q_iload3, q_iload2, q_iast, q_dup2, q_goto, q_ishl, q_ior, q_istore4, q_istore5, q_istore6, q_iload4, q_iload5, q_iload6, q_invv5, q_pop_i, q_pop_r, q_isub, q_invv3, L_0, L_1, L_2, L_3, L_4, L_7, L_10, L_12, L_46, L_99, L_999, k_some, k_none, pRm_i, pRm_r, pRm_0, pF_1, pF_2, inv_s, hM.sh.k0, f, f2, nN_le, nN_lt, nN_eq, nN_add, nN_mul, nN_lt0, nN_ge0, nN_gt0, nN_le0, nN_eq0, nN_eq1, nN_neN, pIn_n, pIx_n, eq_self, Nat.reduceLT, Bool.false_eq_true, Nat.add_zero, Nat.zero_add, Nat.reduceAdd, Nat.reduceMul, Nat.reduceSub, Nat.zero_le, Nat.reduceLeDiff, Nat.reduceEqDiff, Nat.le_refl, not_false_eq_true, not_true_eq_false, false_implies, true_implies, forall_const, true_and, and_true, if_true, if_false, implies_true, and_self, ne_eq, false_and, and_false, or_false, false_or, true_or, or_true]
    refine ⟨⟨rfl, ?_⟩, A05⟩
    rw [pRs_inl (v := 1007) (e := nx9 n b q) (show (pnm (th uW n b) (nx9 n b) 0 (nP a) q fun x q => pwd (th uW n b) (nx9 n b) 1009 q fun q => psec (th uW n b) (nx9 n b) (nP a) x q fun y q => pnm (th uW n b) (nx9 n b) 1 100 q fun n q => .inr (q, [x, y, n]) : pAg) = _ from by rw [pnm, if_pos c1, pwd, if_neg c2])]
    exact ⟨a, hM, fun j _ => rfl⟩

  rw [bR_r, if_pos c2] at h5 e4 e5
  have t2 := thU (n := n) (p := nx9 n b (nx9 n b q)) hb9
  rw [ev1, bR_r] at h5 e5
  have en := nN_eq (a := th uW n b (nx9 n b (nx9 n b q))) (b := th uW n b (q)) (by omega) (by omega)
  by_cases c3 : th uW n b (nx9 n b (nx9 n b q)) = th uW n b (q)
  · rw [if_neg (fun z => z.2 (by rw [c3])), bR_l] at h5
    have hM : MfU M5 u n b a (nx9 n b (nx9 n b q)) := h5
    have f := hM.ft
    have f2 := nN_ft hM.e9
    simp (disch := omega) only [q_aload0, q_aload0N, q_invv0, inv_1, q_get_i, pTag_1, pRf_s, q_istore1, q_ldc_s, q_invv1, q_if_eq, q_get_r, q_iconst, q_iald, q_bipush, q_ic_ne, q_iload1, q_nop, q_sipush, q_invv2, q_istore2, q_ic_eq, q_vret, q_imul, q_iadd, q_istore3, q_iload3, q_iload2, q_iast, q_dup2, q_goto, q_ishl, q_ior, q_istore4, q_istore5, q_istore6, q_iload4, q_iload5, q_iload6, q_invv5, q_pop_i, q_pop_r, q_isub, q_invv3, L_0, L_1, L_2, L_3, L_4, L_7, L_10, L_12, L_46, L_99, L_999, k_some, k_none, pRm_i, pRm_r, pRm_0, pF_1, pF_2, inv_s, hM.sh.k0, f, f2, nN_le, nN_lt, nN_eq, nN_add, nN_mul, nN_lt0, nN_ge0, nN_gt0, nN_le0, nN_eq0, nN_eq1, nN_neN, pIn_n, pIx_n, eq_self, Nat.reduceLT, Bool.false_eq_true, Nat.add_zero, Nat.zero_add, Nat.reduceAdd, Nat.reduceMul, Nat.reduceSub, Nat.zero_le, Nat.reduceLeDiff, Nat.reduceEqDiff, Nat.le_refl, not_false_eq_true, not_true_eq_false, false_implies, true_implies, forall_const, true_and, and_true, if_true, if_false, implies_true, and_self, ne_eq, false_and, and_false, or_false, false_or, true_or, or_true]
    refine ⟨⟨rfl, ?_⟩, A05⟩
    rw [pRs_inl (v := 1007) (e := nx9 n b (nx9 n b q)) (show (pnm (th uW n b) (nx9 n b) 0 (nP a) q fun x q => pwd (th uW n b) (nx9 n b) 1009 q fun q => psec (th uW n b) (nx9 n b) (nP a) x q fun y q => pnm (th uW n b) (nx9 n b) 1 100 q fun n q => .inr (q, [x, y, n]) : pAg) = _ from by rw [pnm, if_pos c1, pwd, if_pos c2, psec, if_pos c3])]
    exact ⟨a, hM, fun j _ => rfl⟩

  by_cases c4 : 0 ≤ th uW n b (nx9 n b (nx9 n b q)) ∧ th uW n b (nx9 n b (nx9 n b q)) < nP a
  rotate_left
  · rw [if_neg (fun z => c4 ⟨Nat.zero_le _, z.1⟩), bR_l] at h5
    have hM : MfU M5 u n b a (nx9 n b (nx9 n b q)) := h5
    have f := hM.ft
    have f2 := nN_ft hM.e9
    simp (disch := omega) only [q_aload0, q_aload0N, q_invv0, inv_1, q_get_i, pTag_1, pRf_s, q_istore1, q_ldc_s, q_invv1, q_if_eq, q_get_r, q_iconst, q_iald, q_bipush, q_ic_ne, q_iload1, q_nop, q_sipush, q_invv2, q_istore2, q_ic_eq, q_vret, q_imul, q_iadd, q_istore3, q_iload3, q_iload2, q_iast, q_dup2, q_goto, q_ishl, q_ior, q_istore4, q_istore5, q_istore6, q_iload4, q_iload5, q_iload6, q_invv5, q_pop_i, q_pop_r, q_isub, q_invv3, L_0, L_1, L_2, L_3, L_4, L_7, L_10, L_12, L_46, L_99, L_999, k_some, k_none, pRm_i, pRm_r, pRm_0, pF_1, pF_2, inv_s, hM.sh.k0, f, f2, nN_le, nN_lt, nN_eq, nN_add, nN_mul, nN_lt0, nN_ge0, nN_gt0, nN_le0, nN_eq0, nN_eq1, nN_neN, pIn_n, pIx_n, eq_self, Nat.reduceLT, Bool.false_eq_true, Nat.add_zero, Nat.zero_add, Nat.reduceAdd, Nat.reduceMul, Nat.reduceSub, Nat.zero_le, Nat.reduceLeDiff, Nat.reduceEqDiff, Nat.le_refl, not_false_eq_true, not_true_eq_false, false_implies, true_implies, forall_const, true_and, and_true, if_true, if_false, implies_true, and_self, ne_eq, false_and, and_false, or_false, false_or, true_or, or_true]
    refine ⟨⟨rfl, ?_⟩, A05⟩
    rw [pRs_inl (v := 1007) (e := nx9 n b (nx9 n b q)) (show (pnm (th uW n b) (nx9 n b) 0 (nP a) q fun x q => pwd (th uW n b) (nx9 n b) 1009 q fun q => psec (th uW n b) (nx9 n b) (nP a) x q fun y q => pnm (th uW n b) (nx9 n b) 1 100 q fun n q => .inr (q, [x, y, n]) : pAg) = _ from by rw [pnm, if_pos c1, pwd, if_pos c2, psec, if_neg c3, pnm, if_neg c4])]
    exact ⟨a, hM, fun j _ => rfl⟩

  rw [if_pos ⟨c4.2, fun z => c3 (by rwa [en] at z)⟩] at h5 e5
  have ev2 := e4 _ rfl c4.2
  by_cases c5 : 1 ≤ th uW n b (nx9 n b (nx9 n b (nx9 n b q))) ∧ th uW n b (nx9 n b (nx9 n b (nx9 n b q))) < 100
  rotate_left
  · rw [bR_r, if_neg c5] at h5
    have hM : MfU M5 u n b a (nx9 n b (nx9 n b (nx9 n b q))) := h5
    have f := hM.ft
    have f2 := nN_ft hM.e9
    simp (disch := omega) only [q_aload0, q_aload0N, q_invv0, inv_1, q_get_i, pTag_1, pRf_s, q_istore1, q_ldc_s, q_invv1, q_if_eq, q_get_r, q_iconst, q_iald, q_bipush, q_ic_ne, q_iload1, q_nop, q_sipush, q_invv2, q_istore2, q_ic_eq, q_vret, q_imul, q_iadd, q_istore3, q_iload3, q_iload2, q_iast, q_dup2, q_goto, q_ishl, q_ior, q_istore4, q_istore5, q_istore6, q_iload4, q_iload5, q_iload6, q_invv5, q_pop_i, q_pop_r, q_isub, q_invv3, L_0, L_1, L_2, L_3, L_4, L_7, L_10, L_12, L_46, L_99, L_999, k_some, k_none, pRm_i, pRm_r, pRm_0, pF_1, pF_2, inv_s, hM.sh.k0, f, f2, nN_le, nN_lt, nN_eq, nN_add, nN_mul, nN_lt0, nN_ge0, nN_gt0, nN_le0, nN_eq0, nN_eq1, nN_neN, pIn_n, pIx_n, eq_self, Nat.reduceLT, Bool.false_eq_true, Nat.add_zero, Nat.zero_add, Nat.reduceAdd, Nat.reduceMul, Nat.reduceSub, Nat.zero_le, Nat.reduceLeDiff, Nat.reduceEqDiff, Nat.le_refl, not_false_eq_true, not_true_eq_false, false_implies, true_implies, forall_const, true_and, and_true, if_true, if_false, implies_true, and_self, ne_eq, false_and, and_false, or_false, false_or, true_or, or_true]
    refine ⟨⟨rfl, ?_⟩, A05⟩
    rw [pRs_inl (v := 1007) (e := nx9 n b (nx9 n b (nx9 n b q))) (show (pnm (th uW n b) (nx9 n b) 0 (nP a) q fun x q => pwd (th uW n b) (nx9 n b) 1009 q fun q => psec (th uW n b) (nx9 n b) (nP a) x q fun y q => pnm (th uW n b) (nx9 n b) 1 100 q fun n q => .inr (q, [x, y, n]) : pAg) = _ from by rw [pnm, if_pos c1, pwd, if_pos c2, psec, if_neg c3, pnm, if_pos c4, pnm, if_neg c5])]
    exact ⟨a, hM, fun j _ => rfl⟩

  rw [bR_r, if_pos c5] at h5
  obtain ⟨q5, h5⟩ := h5
  have ev3 := e5 _ rfl c5
  have f := h5.sd.ft
  rw [ev1, ev2, ev3]
  rw [pRs_inr (v := 1007) (s := (nx9 n b (nx9 n b (nx9 n b (nx9 n b q))), [th uW n b (q), th uW n b (nx9 n b (nx9 n b q)), th uW n b (nx9 n b (nx9 n b (nx9 n b q)))])) (show (pnm (th uW n b) (nx9 n b) 0 (nP a) q fun x q => pwd (th uW n b) (nx9 n b) 1009 q fun q => psec (th uW n b) (nx9 n b) (nP a) x q fun y q => pnm (th uW n b) (nx9 n b) 1 100 q fun n q => .inr (q, [x, y, n]) : pAg) = _ from by rw [pnm, if_pos c1, pwd, if_pos c2, psec, if_neg c3, pnm, if_pos c4, pnm, if_pos c5])]
  generalize th uW n b (q) = x9 at ⊢
  generalize th uW n b (nx9 n b (nx9 n b q)) = y9 at ⊢
  generalize th uW n b (nx9 n b (nx9 n b (nx9 n b q))) = n9 at ⊢
  have g4 : gI M5 (u + 1) 4 = nN (nE a) := by rw [h5.tb]; exact hw.n
  have i1 : 46 + 3 * nE a < 3346 := by omega
  have i2 : 46 + 3 * nE a + 1 < 3346 := by omega
  have i3 : 46 + 3 * nE a + 2 < 3346 := by omega
  have i4 : ¬ 4 = 46 + 3 * nE a := by omega
  have i5 : ¬ 4 = 46 + 3 * nE a + 1 := by omega
  have i6 : ¬ 4 = 46 + 3 * nE a + 2 := by omega
  simp (disch := omega) only [q_aload0, q_aload0N, q_invv0, inv_1, q_get_i, pTag_1, pRf_s, q_istore1, q_ldc_s, q_invv1, q_if_eq, q_get_r, q_iconst, q_iald, q_bipush, q_ic_ne, q_iload1, q_nop, q_sipush, q_invv2, q_istore2, q_ic_eq, q_vret, q_imul, q_iadd, q_istore3, q_iload3, q_iload2, q_iast, q_dup2, q_goto, q_ishl, q_ior, q_istore4, q_istore5, q_istore6, q_iload4, q_iload5, q_iload6, q_invv5, q_pop_i, q_pop_r, q_isub, q_invv3, L_0, L_1, L_2, L_3, L_4, L_7, L_10, L_12, L_46, L_99, L_999, k_some, k_none, pRm_i, pRm_r, pRm_0, pF_1, pF_2, inv_s, h5.sd.sh.k0, f, nN_le, nN_lt, nN_eq, nN_add, nN_mul, nN_lt0, nN_ge0, nN_gt0, nN_le0, nN_eq0, nN_eq1, nN_neN, pIn_n, pIx_n, eq_self, Nat.reduceLT, Bool.false_eq_true, Nat.add_zero, Nat.zero_add, Nat.reduceAdd, Nat.reduceMul, Nat.reduceSub, Nat.zero_le, Nat.reduceLeDiff, Nat.reduceEqDiff, Nat.le_refl, not_false_eq_true, not_true_eq_false, false_implies, true_implies, forall_const, true_and, and_true, if_true, if_false, implies_true, and_self, ne_eq, false_and, and_false, or_false, false_or, true_or, or_true]
  rw [e_68_19]
  simp (disch := omega) only [q_aload0, q_aload0N, q_invv0, inv_1, q_get_i, pTag_1, pRf_s, q_istore1, q_ldc_s, q_invv1, q_if_eq, q_get_r, q_iconst, q_iald, q_bipush, q_ic_ne, q_iload1, q_nop, q_sipush, q_invv2, q_istore2, q_ic_eq, q_vret, q_imul, q_iadd, q_istore3, q_iload3, q_iload2, q_iast, q_dup2, q_goto, q_ishl, q_ior, q_istore4, q_istore5, q_istore6, q_iload4, q_iload5, q_iload6, q_invv5, q_pop_i, q_pop_r, q_isub, q_invv3, L_0, L_1, L_2, L_3, L_4, L_7, L_10, L_12, L_46, L_99, L_999, k_some, k_none, pRm_i, pRm_r, pRm_0, pF_1, pF_2, inv_s, h5.sd.sh.k0, h5.sd.sh.k1, h5.sd.sh.p1, gS_sI, gP_sI, gI_sI, i1, i2, i3, i4, i5, i6, g4, pIn_n, pIx_n, nN_mul, nN_add, eq_self, Nat.reduceLT, Bool.false_eq_true, Nat.add_zero, Nat.zero_add, Nat.reduceAdd, Nat.reduceMul, Nat.reduceSub, Nat.zero_le, Nat.reduceLeDiff, Nat.reduceEqDiff, Nat.le_refl, not_false_eq_true, not_true_eq_false, false_implies, true_implies, forall_const, true_and, and_true, if_true, if_false, implies_true, and_self, ne_eq, false_and, and_false, or_false, false_or, true_or, or_true]
  generalize hM6 : sI (sI (sI (sI M5 (u + 1) (46 + 3 * nE a) (nN x9)) (u + 1) (46 + 3 * nE a + 1) (nN y9)) (u + 1) (46 + 3 * nE a + 2) (nN n9)) (u + 1) 4 (nN (nE a + 1)) = M6
  have A6 : Ag (XMw u) M5 M6 := by rw [← hM6]; exact Ag.put (Ag.put (Ag.put (Ag.one (Or.inr rfl)) (Or.inr rfl)) (Or.inr rfl)) (Or.inr rfl)
  refine f21 (r := .inl 0) (A05.trans (A6.mono XMw_T)) trivial ?_
  refine ⟨rfl, q5, ?_⟩
  refine h5.eff A6 ⟨by rw [A6.S, A6.P]; exact h5.sd.sh, ?_⟩
  funext j
  rw [← hM6, gI_sI, gI_sI, gI_sI, gI_sI, h5.tb]
  show _ = sNee a x9 y9 n9 j
  unfold sNee
  by_cases d1 : j = 46 + 3 * nE a
  · rw [if_neg (by omega), if_neg (by omega), if_neg (by omega), if_pos ⟨rfl, d1⟩, if_pos d1]
  · rw [if_neg d1]
    by_cases d2 : j = 47 + 3 * nE a
    · rw [if_neg (by omega), if_neg (by omega), if_pos ⟨rfl, by omega⟩, if_pos d2]
    · rw [if_neg d2]
      by_cases d3 : j = 48 + 3 * nE a
      · rw [if_neg (by omega), if_pos ⟨rfl, by omega⟩, if_pos d3]
      · rw [if_neg d3]
        by_cases d4 : j = 4
        · rw [if_pos ⟨rfl, d4⟩, if_pos d4]
        · rw [if_neg (by omega), if_neg (by omega), if_neg (by omega), if_neg (by omega), if_neg d4]
theorem vb17 (h : MdU M u n b a p p) (hw : Wt a K) (hK : K < 2000000)
    (next : ∀ M1, MdU M1 u n b a p p → Ag (XTm u) M M1 → th uW n b p ≠ 1000 + 7 → bw (d + 69) 68 20 ([some (.ref u), some (.int (nN p)), l3, l4, l5, l6, l7], [], M1) (fun o M' => MtL M' u n b a (pTL (th uW n b) (nx9 n b) a p) o ∧ Ag (XTm u) M M')) :
    bw (d + 69) 68 17 ([some (.ref u), some (.int (nN p)), l3, l4, l5, l6, l7], [], M) (fun o M' => MtL M' u n b a (pTL (th uW n b) (nx9 n b) a p) o ∧ Ag (XTm u) M M') := by
  have hp' := hw.1.p'
  have hf' := hw.1.f'
  have hn' := hw.1.n'
  have nm1 : ∀ x, x < 4000 → ¬ nN x = iN (-1) := fun x hx => by rw [nN_neN (by omega)]; exact not_false
  rw [e_68_17]
  simp (disch := omega) only [q_aload0, q_aload0N, q_invv0, inv_1, q_get_i, pTag_1, pRf_s, q_istore1, q_ldc_s, q_invv1, q_if_eq, q_get_r, q_iconst, q_iald, q_bipush, q_ic_ne, q_iload1, q_nop, q_sipush, q_invv2, q_istore2, q_ic_eq, q_vret, q_imul, q_iadd, q_istore3, q_iload3, q_iload2, q_iast, q_dup2, q_goto, q_ishl, q_ior, q_istore4, q_istore5, q_istore6, q_iload4, q_iload5, q_iload6, q_invv5, q_pop_i, q_pop_r, q_isub, q_invv3, L_0, L_1, L_2, L_3, L_4, L_7, L_10, L_12, L_46, L_99, L_999, k_some, k_none, pRm_i, pRm_r, pRm_0, pF_1, pF_2, inv_s, h.sd.sh.k0, nN_le, nN_lt, nN_eq, nN_add, nN_mul, nN_lt0, nN_ge0, nN_gt0, nN_le0, nN_eq0, nN_eq1, nN_neN, pIn_n, pIx_n, eq_self, Nat.reduceLT, Bool.false_eq_true, Nat.add_zero, Nat.zero_add, Nat.reduceAdd, Nat.reduceMul, Nat.reduceSub, Nat.zero_le, Nat.reduceLeDiff, Nat.reduceEqDiff, Nat.le_refl, not_false_eq_true, not_true_eq_false, false_implies, true_implies, forall_const, true_and, and_true, if_true, if_false, implies_true, and_self, ne_eq, false_and, and_false, or_false, false_or, true_or, or_true]
  refine mw_mono (hasU (i := 7) h (by omega) rfl) ?_
  rintro o M1 ⟨h1, A1⟩
  by_cases c : th uW n b p = 1000 + 7
  rotate_left
  · rw [if_neg c] at h1
    obtain ⟨rfl, h1⟩ := h1
    simp (disch := omega) only [q_aload0, q_aload0N, q_invv0, inv_1, q_get_i, pTag_1, pRf_s, q_istore1, q_ldc_s, q_invv1, q_if_eq, q_get_r, q_iconst, q_iald, q_bipush, q_ic_ne, q_iload1, q_nop, q_sipush, q_invv2, q_istore2, q_ic_eq, q_vret, q_imul, q_iadd, q_istore3, q_iload3, q_iload2, q_iast, q_dup2, q_goto, q_ishl, q_ior, q_istore4, q_istore5, q_istore6, q_iload4, q_iload5, q_iload6, q_invv5, q_pop_i, q_pop_r, q_isub, q_invv3, L_0, L_1, L_2, L_3, L_4, L_7, L_10, L_12, L_46, L_99, L_999, k_some, k_none, pRm_i, pRm_r, pRm_0, pF_1, pF_2, inv_s, h1.sd.sh.k0, nN_le, nN_lt, nN_eq, nN_add, nN_mul, nN_lt0, nN_ge0, nN_gt0, nN_le0, nN_eq0, nN_eq1, nN_neN, pIn_n, pIx_n, eq_self, Nat.reduceLT, Bool.false_eq_true, Nat.add_zero, Nat.zero_add, Nat.reduceAdd, Nat.reduceMul, Nat.reduceSub, Nat.zero_le, Nat.reduceLeDiff, Nat.reduceEqDiff, Nat.le_refl, not_false_eq_true, not_true_eq_false, false_implies, true_implies, forall_const, true_and, and_true, if_true, if_false, implies_true, and_self, ne_eq, false_and, and_false, or_false, false_or, true_or, or_true]
    exact next M1 h1 (A1.mono X9_T) c
  rw [if_pos c] at h1
  obtain ⟨rfl, h1⟩ := h1
  have m1 : gI M1 (u + 1) 4 = nN (nE a) := by rw [h1.tb]; exact hw.1.n
  by_cases c12 : nE a = 12
  · have hpn := h.sd.ple.2
    have hn := h.sd.n9
    simp (disch := omega) only [q_aload0, q_aload0N, q_invv0, inv_1, q_get_i, pTag_1, pRf_s, q_istore1, q_ldc_s, q_invv1, q_if_eq, q_get_r, q_iconst, q_iald, q_bipush, q_ic_ne, q_iload1, q_nop, q_sipush, q_invv2, q_istore2, q_ic_eq, q_vret, q_imul, q_iadd, q_istore3, q_iload3, q_iload2, q_iast, q_dup2, q_goto, q_ishl, q_ior, q_istore4, q_istore5, q_istore6, q_iload4, q_iload5, q_iload6, q_invv5, q_pop_i, q_pop_r, q_isub, q_invv3, L_0, L_1, L_2, L_3, L_4, L_7, L_10, L_12, L_46, L_99, L_999, k_some, k_none, pRm_i, pRm_r, pRm_0, pF_1, pF_2, inv_s, h1.sd.sh.k0, h1.sd.sh.k1, h1.sd.sh.p1, m1, c12, pIn_n, pIx_n, nN_le, nN_lt, nN_eq, nN_add, nN_mul, nN_lt0, nN_ge0, nN_gt0, nN_le0, nN_eq0, nN_eq1, nN_neN, pIn_n, pIx_n, eq_self, Nat.reduceLT, Bool.false_eq_true, Nat.add_zero, Nat.zero_add, Nat.reduceAdd, Nat.reduceMul, Nat.reduceSub, Nat.zero_le, Nat.reduceLeDiff, Nat.reduceEqDiff, Nat.le_refl, not_false_eq_true, not_true_eq_false, false_implies, true_implies, forall_const, true_and, and_true, if_true, if_false, implies_true, and_self, ne_eq, false_and, and_false, or_false, false_or, true_or, or_true]
    refine mw_mono (w_wrongM h1.sd.sh h1.sd.ft) ?_
    rintro _ M2 ⟨rfl, h2, A2⟩
    have hM : MfU M2 u n b a p := h1.bad A2 X10_U h2 (by omega) ⟨te n b p, by have := h1.sd.cl.1; omega, by rw [A2.I (by omega)]; exact h1.sd.aq⟩
    simp (disch := omega) only [q_aload0, q_aload0N, q_invv0, inv_1, q_get_i, pTag_1, pRf_s, q_istore1, q_ldc_s, q_invv1, q_if_eq, q_get_r, q_iconst, q_iald, q_bipush, q_ic_ne, q_iload1, q_nop, q_sipush, q_invv2, q_istore2, q_ic_eq, q_vret, q_imul, q_iadd, q_istore3, q_iload3, q_iload2, q_iast, q_dup2, q_goto, q_ishl, q_ior, q_istore4, q_istore5, q_istore6, q_iload4, q_iload5, q_iload6, q_invv5, q_pop_i, q_pop_r, q_isub, q_invv3, L_0, L_1, L_2, L_3, L_4, L_7, L_10, L_12, L_46, L_99, L_999, k_some, k_none, pRm_i, pRm_r, pRm_0, pF_1, pF_2, inv_s, nN_le, nN_lt, nN_eq, nN_add, nN_mul, nN_lt0, nN_ge0, nN_gt0, nN_le0, nN_eq0, nN_eq1, nN_neN, pIn_n, pIx_n, eq_self, Nat.reduceLT, Bool.false_eq_true, Nat.add_zero, Nat.zero_add, Nat.reduceAdd, Nat.reduceMul, Nat.reduceSub, Nat.zero_le, Nat.reduceLeDiff, Nat.reduceEqDiff, Nat.le_refl, not_false_eq_true, not_true_eq_false, false_implies, true_implies, forall_const, true_and, and_true, if_true, if_false, implies_true, and_self, ne_eq, false_and, and_false, or_false, false_or, true_or, or_true]
    refine bw_mono (vb18 (r0 := .inl p) hM h.sd.b9 (by rw [hM.sh.k0]) hw.1 (fun q z => nomatch z)) ?_
    rintro o M3 ⟨h3, A3⟩
    refine ⟨?_, ((A1.mono X9_T).trans (A2.mono fun h k z => MdX_T h k (MdX_10 h k z))).trans A3⟩
    rw [show pTL (th uW n b) (nx9 n b) a p = .inl p from by unfold pTL; rw [if_pos (Or.inr (Or.inl ⟨c, c12⟩))]]
    exact h3
  · rw [pTL_v c (by omega) (by omega) (by omega)]
    have c11 : ¬ 12 = nE a := fun z => c12 z.symm
    simp (disch := omega) only [q_aload0, q_aload0N, q_invv0, inv_1, q_get_i, pTag_1, pRf_s, q_istore1, q_ldc_s, q_invv1, q_if_eq, q_get_r, q_iconst, q_iald, q_bipush, q_ic_ne, q_iload1, q_nop, q_sipush, q_invv2, q_istore2, q_ic_eq, q_vret, q_imul, q_iadd, q_istore3, q_iload3, q_iload2, q_iast, q_dup2, q_goto, q_ishl, q_ior, q_istore4, q_istore5, q_istore6, q_iload4, q_iload5, q_iload6, q_invv5, q_pop_i, q_pop_r, q_isub, q_invv3, L_0, L_1, L_2, L_3, L_4, L_7, L_10, L_12, L_46, L_99, L_999, k_some, k_none, pRm_i, pRm_r, pRm_0, pF_1, pF_2, inv_s, h1.sd.sh.k0, h1.sd.sh.k1, h1.sd.sh.p1, m1, c12, pIn_n, pIx_n, nN_le, nN_lt, nN_eq, nN_add, nN_mul, nN_lt0, nN_ge0, nN_gt0, nN_le0, nN_eq0, nN_eq1, nN_neN, pIn_n, pIx_n, eq_self, Nat.reduceLT, Bool.false_eq_true, Nat.add_zero, Nat.zero_add, Nat.reduceAdd, Nat.reduceMul, Nat.reduceSub, Nat.zero_le, Nat.reduceLeDiff, Nat.reduceEqDiff, Nat.le_refl, not_false_eq_true, not_true_eq_false, false_implies, true_implies, forall_const, true_and, and_true, if_true, if_false, implies_true, and_self, ne_eq, false_and, and_false, or_false, false_or, true_or, or_true]
    refine bw_mono (vb18 (r0 := .inr (nx9 n b p)) ⟨_, h1⟩ h.sd.b9 (by rw [h1.sd.sh.k0]) hw.1 (fun q z => by omega)) ?_
    rintro o M3 ⟨h3, A3⟩
    exact ⟨h3, (A1.mono X9_T).trans A3⟩
end MW8
