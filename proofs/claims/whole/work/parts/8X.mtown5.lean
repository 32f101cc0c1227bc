/-! THE LAW'S MODEL READS A LINE OF THE TOWN: give, person, all of it -/
section MX9
variable {d n u p q k m c lo sr i e K : Nat} {b : Nat → Nat} {a a' : Nat → Int32} {M M1 M' : pMem} {Q : pOut → pMem → Prop} {x y but : Int32} {r : Nat ⊕ Nat} {l1 l2 l3 l4 l5 l6 l7 : Option Value}
/-- a line's rest, where the parts' rest is known -/
noncomputable def pX (a : Nat → Int32) (v : Nat) (r : pAg) : pLn := match r with
  | .inl e => .inl e
  | .inr s => .inr (s.1, sEx a v s.2)
theorem pRs_pX {v : Nat} {r : pAg} (h : pAr (th uW n b) (nx9 n b) (nP a) (nF a) v q = r) : pRs n b a v (.inr q) = pX a v r := by
  rw [← h]; rfl
theorem vb7 {x9 y9 n9 dd : Nat} {M0 : pMem} (h : MdU M u n b a q p) (hw : Wt a K) (hK : K < 2000000) (hx : x9 < nP a) (hy : y9 < nP a) (hn : n9 < 100) (hd : dd < 100) (A0 : Ag (XTm u) M0 M) :
    bw (d + 69) 68 7 ([some (.ref u), l2, some (.int (nN x9)), some (.int (nN y9)), some (.int (nN n9)), some (.int (nN dd)), l7], [], M) (fun o M' => MtL M' u n b a (pX a 1003 (pFc (th uW n b) (nx9 n b) x9 y9 n9 dd p)) o ∧ Ag (XTm u) M0 M') := by
  have hp' := hw.1.p'
  have fin : ∀ (M5 : pMem) (q5 p5 : Nat) (fc : Bool), MdU M5 u n b a q5 p5 → Ag (XTm u) M0 M5 → bw (d + 69) 68 9 ([some (.ref u), l2, some (.int (nN x9)), some (.int (nN y9)), some (.int (nN n9)), some (.int (nN dd)), l7], [.int (bI (fc = true))], M5) (fun o M' => MtL M' u n b a (.inr (p5, sGv a x9 y9 n9 dd fc)) o ∧ Ag (XTm u) M0 M') := by
    intro M5 q5 p5 fc h5 A5
    have f := h5.sd.ft
    rw [e_68_9]
    simp (disch := omega) only [q_aload0, q_aload0N, q_invv0, inv_1, q_get_i, pTag_1, pRf_s, q_istore1, q_ldc_s, q_invv1, q_if_eq, q_get_r, q_iconst, q_iald, q_bipush, q_ic_ne, q_iload1, q_nop, q_sipush, q_invv2, q_istore2, q_ic_eq, q_vret, q_imul, q_iadd, q_istore3, q_iload3, q_iload2, q_iast, q_dup2, q_goto, q_ishl, q_ior, q_istore4, q_istore5, q_istore6, q_iload4, q_iload5, q_iload6, q_invv5, q_pop_i, q_pop_r, q_isub, q_invv3, L_0, L_1, L_2, L_3, L_4, L_7, L_10, L_12, L_46, L_99, L_999, k_some, k_none, pRm_i, pRm_r, pRm_0, pF_1, pF_2, inv_s, h5.sd.sh.k0, f, nN_le, nN_lt, nN_eq, nN_add, nN_mul, nN_lt0, nN_ge0, nN_gt0, nN_le0, nN_eq0, nN_eq1, nN_neN, pIn_n, pIx_n, eq_self, Nat.reduceLT, Bool.false_eq_true, Nat.add_zero, Nat.zero_add, Nat.reduceAdd, Nat.reduceMul, Nat.reduceSub, Nat.zero_le, Nat.reduceLeDiff, Nat.reduceEqDiff, Nat.le_refl, not_false_eq_true, not_true_eq_false, false_implies, true_implies, forall_const, true_and, and_true, if_true, if_false, implies_true, and_self, ne_eq, false_and, and_false, or_false, false_or, true_or, or_true]
    refine mw_mono (w_givesM (d := d + 3) (fc := fc) h5.mr hw.1 hw.2.1 hw.2.2.2.1 (hw.dy hK) hx hy hn hd) ?_
    rintro o M6 ⟨h6, A6⟩
    unfold sGv
    by_cases c : sCanGive a x9 y9 n9 dd fc = true
    · rw [if_pos c] at h6 ⊢
      obtain ⟨rfl, m6⟩ := h6
      simp (disch := omega) only [q_aload0, q_aload0N, q_invv0, inv_1, q_get_i, pTag_1, pRf_s, q_istore1, q_ldc_s, q_invv1, q_if_eq, q_get_r, q_iconst, q_iald, q_bipush, q_ic_ne, q_iload1, q_nop, q_sipush, q_invv2, q_istore2, q_ic_eq, q_vret, q_imul, q_iadd, q_istore3, q_iload3, q_iload2, q_iast, q_dup2, q_goto, q_ishl, q_ior, q_istore4, q_istore5, q_istore6, q_iload4, q_iload5, q_iload6, q_invv5, q_pop_i, q_pop_r, q_isub, q_invv3, L_0, L_1, L_2, L_3, L_4, L_7, L_10, L_12, L_46, L_99, L_999, k_some, k_none, pRm_i, pRm_r, pRm_0, pF_1, pF_2, inv_s, nN_le, nN_lt, nN_eq, nN_add, nN_mul, nN_lt0, nN_ge0, nN_gt0, nN_le0, nN_eq0, nN_eq1, nN_neN, pIn_n, pIx_n, eq_self, Nat.reduceLT, Bool.false_eq_true, Nat.add_zero, Nat.zero_add, Nat.reduceAdd, Nat.reduceMul, Nat.reduceSub, Nat.zero_le, Nat.reduceLeDiff, Nat.reduceEqDiff, Nat.le_refl, not_false_eq_true, not_true_eq_false, false_implies, true_implies, forall_const, true_and, and_true, if_true, if_false, implies_true, and_self, ne_eq, false_and, and_false, or_false, false_or, true_or, or_true]
      rw [e_68_10]
      simp (disch := omega) only [q_aload0, q_aload0N, q_invv0, inv_1, q_get_i, pTag_1, pRf_s, q_istore1, q_ldc_s, q_invv1, q_if_eq, q_get_r, q_iconst, q_iald, q_bipush, q_ic_ne, q_iload1, q_nop, q_sipush, q_invv2, q_istore2, q_ic_eq, q_vret, q_imul, q_iadd, q_istore3, q_iload3, q_iload2, q_iast, q_dup2, q_goto, q_ishl, q_ior, q_istore4, q_istore5, q_istore6, q_iload4, q_iload5, q_iload6, q_invv5, q_pop_i, q_pop_r, q_isub, q_invv3, L_0, L_1, L_2, L_3, L_4, L_7, L_10, L_12, L_46, L_99, L_999, k_some, k_none, pRm_i, pRm_r, pRm_0, pF_1, pF_2, inv_s, nN_le, nN_lt, nN_eq, nN_add, nN_mul, nN_lt0, nN_ge0, nN_gt0, nN_le0, nN_eq0, nN_eq1, nN_neN, pIn_n, pIx_n, eq_self, Nat.reduceLT, Bool.false_eq_true, Nat.add_zero, Nat.zero_add, Nat.reduceAdd, Nat.reduceMul, Nat.reduceSub, Nat.zero_le, Nat.reduceLeDiff, Nat.reduceEqDiff, Nat.le_refl, not_false_eq_true, not_true_eq_false, false_implies, true_implies, forall_const, true_and, and_true, if_true, if_false, implies_true, and_self, ne_eq, false_and, and_false, or_false, false_or, true_or, or_true]
      refine f21 (r := .inl 0) (A5.trans (A6.mono XMw_T)) trivial ?_
      exact ⟨rfl, q5, h5.eff A6 m6⟩
    · rw [if_neg c] at h6 ⊢
      obtain ⟨rfl, m6⟩ := h6
      simp (disch := omega) only [q_aload0, q_aload0N, q_invv0, inv_1, q_get_i, pTag_1, pRf_s, q_istore1, q_ldc_s, q_invv1, q_if_eq, q_get_r, q_iconst, q_iald, q_bipush, q_ic_ne, q_iload1, q_nop, q_sipush, q_invv2, q_istore2, q_ic_eq, q_vret, q_imul, q_iadd, q_istore3, q_iload3, q_iload2, q_iast, q_dup2, q_goto, q_ishl, q_ior, q_istore4, q_istore5, q_istore6, q_iload4, q_iload5, q_iload6, q_invv5, q_pop_i, q_pop_r, q_isub, q_invv3, L_0, L_1, L_2, L_3, L_4, L_7, L_10, L_12, L_46, L_99, L_999, k_some, k_none, pRm_i, pRm_r, pRm_0, pF_1, pF_2, inv_s, nN_le, nN_lt, nN_eq, nN_add, nN_mul, nN_lt0, nN_ge0, nN_gt0, nN_le0, nN_eq0, nN_eq1, nN_neN, pIn_n, pIx_n, eq_self, Nat.reduceLT, Bool.false_eq_true, Nat.add_zero, Nat.zero_add, Nat.reduceAdd, Nat.reduceMul, Nat.reduceSub, Nat.zero_le, Nat.reduceLeDiff, Nat.reduceEqDiff, Nat.le_refl, not_false_eq_true, not_true_eq_false, false_implies, true_implies, forall_const, true_and, and_true, if_true, if_false, implies_true, and_self, ne_eq, false_and, and_false, or_false, false_or, true_or, or_true]
      rw [e_68_10]
      simp (disch := omega) only [q_aload0, q_aload0N, q_invv0, inv_1, q_get_i, pTag_1, pRf_s, q_istore1, q_ldc_s, q_invv1, q_if_eq, q_get_r, q_iconst, q_iald, q_bipush, q_ic_ne, q_iload1, q_nop, q_sipush, q_invv2, q_istore2, q_ic_eq, q_vret, q_imul, q_iadd, q_istore3, q_iload3, q_iload2, q_iast, q_dup2, q_goto, q_ishl, q_ior, q_istore4, q_istore5, q_istore6, q_iload4, q_iload5, q_iload6, q_invv5, q_pop_i, q_pop_r, q_isub, q_invv3, L_0, L_1, L_2, L_3, L_4, L_7, L_10, L_12, L_46, L_99, L_999, k_some, k_none, pRm_i, pRm_r, pRm_0, pF_1, pF_2, inv_s, nN_le, nN_lt, nN_eq, nN_add, nN_mul, nN_lt0, nN_ge0, nN_gt0, nN_le0, nN_eq0, nN_eq1, nN_neN, pIn_n, pIx_n, eq_self, Nat.reduceLT, Bool.false_eq_true, Nat.add_zero, Nat.zero_add, Nat.reduceAdd, Nat.reduceMul, Nat.reduceSub, Nat.zero_le, Nat.reduceLeDiff, Nat.reduceEqDiff, Nat.le_refl, not_false_eq_true, not_true_eq_false, false_implies, true_implies, forall_const, true_and, and_true, if_true, if_false, implies_true, and_self, ne_eq, false_and, and_false, or_false, false_or, true_or, or_true]
      refine f21 (r := .inl 0) (A5.trans (A6.mono XMw_T)) trivial ?_
      exact ⟨rfl, q5, h5.eff A6 m6⟩
  have f := h.sd.ft
  rw [e_68_7]
  simp (disch := omega) only [q_aload0, q_aload0N, q_invv0, inv_1, q_get_i, pTag_1, pRf_s, q_istore1, q_ldc_s, q_invv1, q_if_eq, q_get_r, q_iconst, q_iald, q_bipush, q_ic_ne, q_iload1, q_nop, q_sipush, q_invv2, q_istore2, q_ic_eq, q_vret, q_imul, q_iadd, q_istore3, q_iload3, q_iload2, q_iast, q_dup2, q_goto, q_ishl, q_ior, q_istore4, q_istore5, q_istore6, q_iload4, q_iload5, q_iload6, q_invv5, q_pop_i, q_pop_r, q_isub, q_invv3, L_0, L_1, L_2, L_3, L_4, L_7, L_10, L_12, L_46, L_99, L_999, k_some, k_none, pRm_i, pRm_r, pRm_0, pF_1, pF_2, inv_s, h.sd.sh.k0, f, nN_le, nN_lt, nN_eq, nN_add, nN_mul, nN_lt0, nN_ge0, nN_gt0, nN_le0, nN_eq0, nN_eq1, nN_neN, pIn_n, pIx_n, eq_self, Nat.reduceLT, Bool.false_eq_true, Nat.add_zero, Nat.zero_add, Nat.reduceAdd, Nat.reduceMul, Nat.reduceSub, Nat.zero_le, Nat.reduceLeDiff, Nat.reduceEqDiff, Nat.le_refl, not_false_eq_true, not_true_eq_false, false_implies, true_implies, forall_const, true_and, and_true, if_true, if_false, implies_true, and_self, ne_eq, false_and, and_false, or_false, false_or, true_or, or_true]
  refine mw_mono (hasU (i := 11) h (by omega) rfl) ?_
  rintro o M1 ⟨h1, A1⟩
  unfold pFc
  by_cases c : th uW n b p = 1011
  · rw [if_pos (show th uW n b p = 1000 + 11 from c)] at h1
    rw [if_pos c]
    obtain ⟨rfl, h1⟩ := h1
    simp (disch := omega) only [q_aload0, q_aload0N, q_invv0, inv_1, q_get_i, pTag_1, pRf_s, q_istore1, q_ldc_s, q_invv1, q_if_eq, q_get_r, q_iconst, q_iald, q_bipush, q_ic_ne, q_iload1, q_nop, q_sipush, q_invv2, q_istore2, q_ic_eq, q_vret, q_imul, q_iadd, q_istore3, q_iload3, q_iload2, q_iast, q_dup2, q_goto, q_ishl, q_ior, q_istore4, q_istore5, q_istore6, q_iload4, q_iload5, q_iload6, q_invv5, q_pop_i, q_pop_r, q_isub, q_invv3, L_0, L_1, L_2, L_3, L_4, L_7, L_10, L_12, L_46, L_99, L_999, k_some, k_none, pRm_i, pRm_r, pRm_0, pF_1, pF_2, inv_s, nN_le, nN_lt, nN_eq, nN_add, nN_mul, nN_lt0, nN_ge0, nN_gt0, nN_le0, nN_eq0, nN_eq1, nN_neN, pIn_n, pIx_n, eq_self, Nat.reduceLT, Bool.false_eq_true, Nat.add_zero, Nat.zero_add, Nat.reduceAdd, Nat.reduceMul, Nat.reduceSub, Nat.zero_le, Nat.reduceLeDiff, Nat.reduceEqDiff, Nat.le_refl, not_false_eq_true, not_true_eq_false, false_implies, true_implies, forall_const, true_and, and_true, if_true, if_false, implies_true, and_self, ne_eq, false_and, and_false, or_false, false_or, true_or, or_true]
    exact fin M1 _ _ true h1 (A0.trans (A1.mono X9_T))
  · rw [if_neg (show ¬ th uW n b p = 1000 + 11 from c)] at h1
    rw [if_neg c]
    obtain ⟨rfl, h1⟩ := h1
    simp (disch := omega) only [q_aload0, q_aload0N, q_invv0, inv_1, q_get_i, pTag_1, pRf_s, q_istore1, q_ldc_s, q_invv1, q_if_eq, q_get_r, q_iconst, q_iald, q_bipush, q_ic_ne, q_iload1, q_nop, q_sipush, q_invv2, q_istore2, q_ic_eq, q_vret, q_imul, q_iadd, q_istore3, q_iload3, q_iload2, q_iast, q_dup2, q_goto, q_ishl, q_ior, q_istore4, q_istore5, q_istore6, q_iload4, q_iload5, q_iload6, q_invv5, q_pop_i, q_pop_r, q_isub, q_invv3, L_0, L_1, L_2, L_3, L_4, L_7, L_10, L_12, L_46, L_99, L_999, k_some, k_none, pRm_i, pRm_r, pRm_0, pF_1, pF_2, inv_s, nN_le, nN_lt, nN_eq, nN_add, nN_mul, nN_lt0, nN_ge0, nN_gt0, nN_le0, nN_eq0, nN_eq1, nN_neN, pIn_n, pIx_n, eq_self, Nat.reduceLT, Bool.false_eq_true, Nat.add_zero, Nat.zero_add, Nat.reduceAdd, Nat.reduceMul, Nat.reduceSub, Nat.zero_le, Nat.reduceLeDiff, Nat.reduceEqDiff, Nat.le_refl, not_false_eq_true, not_true_eq_false, false_implies, true_implies, forall_const, true_and, and_true, if_true, if_false, implies_true, and_self, ne_eq, false_and, and_false, or_false, false_or, true_or, or_true]
    rw [e_68_8]
    simp (disch := omega) only [q_aload0, q_aload0N, q_invv0, inv_1, q_get_i, pTag_1, pRf_s, q_istore1, q_ldc_s, q_invv1, q_if_eq, q_get_r, q_iconst, q_iald, q_bipush, q_ic_ne, q_iload1, q_nop, q_sipush, q_invv2, q_istore2, q_ic_eq, q_vret, q_imul, q_iadd, q_istore3, q_iload3, q_iload2, q_iast, q_dup2, q_goto, q_ishl, q_ior, q_istore4, q_istore5, q_istore6, q_iload4, q_iload5, q_iload6, q_invv5, q_pop_i, q_pop_r, q_isub, q_invv3, L_0, L_1, L_2, L_3, L_4, L_7, L_10, L_12, L_46, L_99, L_999, k_some, k_none, pRm_i, pRm_r, pRm_0, pF_1, pF_2, inv_s, nN_le, nN_lt, nN_eq, nN_add, nN_mul, nN_lt0, nN_ge0, nN_gt0, nN_le0, nN_eq0, nN_eq1, nN_neN, pIn_n, pIx_n, eq_self, Nat.reduceLT, Bool.false_eq_true, Nat.add_zero, Nat.zero_add, Nat.reduceAdd, Nat.reduceMul, Nat.reduceSub, Nat.zero_le, Nat.reduceLeDiff, Nat.reduceEqDiff, Nat.le_refl, not_false_eq_true, not_true_eq_false, false_implies, true_implies, forall_const, true_and, and_true, if_true, if_false, implies_true, and_self, ne_eq, false_and, and_false, or_false, false_or, true_or, or_true]
    exact fin M1 _ _ false h1 (A0.trans (A1.mono X9_T))
theorem vb6 (h : MdU M u n b a p p) (hw : Wt a K) (hK : K < 2000000)
    (next : ∀ M1, MdU M1 u n b a p p → Ag (XTm u) M M1 → th uW n b p ≠ 1000 + 3 → bw (d + 69) 68 11 ([some (.ref u), l2, l3, l4, l5, l6, l7], [], M1) (fun o M' => MtL M' u n b a (pTL (th uW n b) (nx9 n b) a p) o ∧ Ag (XTm u) M M')) :
    bw (d + 69) 68 6 ([some (.ref u), l2, l3, l4, l5, l6, l7], [], M) (fun o M' => MtL M' u n b a (pTL (th uW n b) (nx9 n b) a p) o ∧ Ag (XTm u) M M') := by
  have hp' := hw.1.p'
  have hf' := hw.1.f'
  have hn' := hw.1.n'
  have nm1 : ∀ x, x < 4000 → ¬ nN x = iN (-1) := fun x hx => by rw [nN_neN (by omega)]; exact not_false
  rw [e_68_6]
  simp (disch := omega) only [q_aload0, q_aload0N, q_invv0, inv_1, q_get_i, pTag_1, pRf_s, q_istore1, q_ldc_s, q_invv1, q_if_eq, q_get_r, q_iconst, q_iald, q_bipush, q_ic_ne, q_iload1, q_nop, q_sipush, q_invv2, q_istore2, q_ic_eq, q_vret, q_imul, q_iadd, q_istore3, q_iload3, q_iload2, q_iast, q_dup2, q_goto, q_ishl, q_ior, q_istore4, q_istore5, q_istore6, q_iload4, q_iload5, q_iload6, q_invv5, q_pop_i, q_pop_r, q_isub, q_invv3, L_0, L_1, L_2, L_3, L_4, L_7, L_10, L_12, L_46, L_99, L_999, k_some, k_none, pRm_i, pRm_r, pRm_0, pF_1, pF_2, inv_s, h.sd.sh.k0, nN_le, nN_lt, nN_eq, nN_add, nN_mul, nN_lt0, nN_ge0, nN_gt0, nN_le0, nN_eq0, nN_eq1, nN_neN, pIn_n, pIx_n, eq_self, Nat.reduceLT, Bool.false_eq_true, Nat.add_zero, Nat.zero_add, Nat.reduceAdd, Nat.reduceMul, Nat.reduceSub, Nat.zero_le, Nat.reduceLeDiff, Nat.reduceEqDiff, Nat.le_refl, not_false_eq_true, not_true_eq_false, false_implies, true_implies, forall_const, true_and, and_true, if_true, if_false, implies_true, and_self, ne_eq, false_and, and_false, or_false, false_or, true_or, or_true]
  refine mw_mono (hasU (i := 3) h (by omega) rfl) ?_
  rintro o M1 ⟨h1, A1⟩
  by_cases c : th uW n b p = 1000 + 3
  rotate_left
  · rw [if_neg c] at h1
    obtain ⟨rfl, h1⟩ := h1
    simp (disch := omega) only [q_aload0, q_aload0N, q_invv0, inv_1, q_get_i, pTag_1, pRf_s, q_istore1, q_ldc_s, q_invv1, q_if_eq, q_get_r, q_iconst, q_iald, q_bipush, q_ic_ne, q_iload1, q_nop, q_sipush, q_invv2, q_istore2, q_ic_eq, q_vret, q_imul, q_iadd, q_istore3, q_iload3, q_iload2, q_iast, q_dup2, q_goto, q_ishl, q_ior, q_istore4, q_istore5, q_istore6, q_iload4, q_iload5, q_iload6, q_invv5, q_pop_i, q_pop_r, q_isub, q_invv3, L_0, L_1, L_2, L_3, L_4, L_7, L_10, L_12, L_46, L_99, L_999, k_some, k_none, pRm_i, pRm_r, pRm_0, pF_1, pF_2, inv_s, h1.sd.sh.k0, nN_le, nN_lt, nN_eq, nN_add, nN_mul, nN_lt0, nN_ge0, nN_gt0, nN_le0, nN_eq0, nN_eq1, nN_neN, pIn_n, pIx_n, eq_self, Nat.reduceLT, Bool.false_eq_true, Nat.add_zero, Nat.zero_add, Nat.reduceAdd, Nat.reduceMul, Nat.reduceSub, Nat.zero_le, Nat.reduceLeDiff, Nat.reduceEqDiff, Nat.le_refl, not_false_eq_true, not_true_eq_false, false_implies, true_implies, forall_const, true_and, and_true, if_true, if_false, implies_true, and_self, ne_eq, false_and, and_false, or_false, false_or, true_or, or_true]
    exact next M1 h1 (A1.mono X9_T) c
  rw [if_pos c] at h1
  obtain ⟨rfl, h1⟩ := h1
  rw [pTL_v c (by omega) (by omega) (by omega)]
  simp (disch := omega) only [q_aload0, q_aload0N, q_invv0, inv_1, q_get_i, pTag_1, pRf_s, q_istore1, q_ldc_s, q_invv1, q_if_eq, q_get_r, q_iconst, q_iald, q_bipush, q_ic_ne, q_iload1, q_nop, q_sipush, q_invv2, q_istore2, q_ic_eq, q_vret, q_imul, q_iadd, q_istore3, q_iload3, q_iload2, q_iast, q_dup2, q_goto, q_ishl, q_ior, q_istore4, q_istore5, q_istore6, q_iload4, q_iload5, q_iload6, q_invv5, q_pop_i, q_pop_r, q_isub, q_invv3, L_0, L_1, L_2, L_3, L_4, L_7, L_10, L_12, L_46, L_99, L_999, k_some, k_none, pRm_i, pRm_r, pRm_0, pF_1, pF_2, inv_s, h1.sd.sh.k0, nN_le, nN_lt, nN_eq, nN_add, nN_mul, nN_lt0, nN_ge0, nN_gt0, nN_le0, nN_eq0, nN_eq1, nN_neN, pIn_n, pIx_n, eq_self, Nat.reduceLT, Bool.false_eq_true, Nat.add_zero, Nat.zero_add, Nat.reduceAdd, Nat.reduceMul, Nat.reduceSub, Nat.zero_le, Nat.reduceLeDiff, Nat.reduceEqDiff, Nat.le_refl, not_false_eq_true, not_true_eq_false, false_implies, true_implies, forall_const, true_and, and_true, if_true, if_false, implies_true, and_self, ne_eq, false_and, and_false, or_false, false_or, true_or, or_true]
  refine mw_mono (u_person (but := iN (-1)) (r := .inr (nx9 n b p)) ⟨_, h1⟩ hw.1) ?_
  rintro o M2 ⟨v1, rfl, h2, e2, A2⟩
  have k2 : (gS M2 u).1 = 12 := by rw [A2.S, h1.sd.sh.k0]
  simp (disch := omega) only [q_aload0, q_aload0N, q_invv0, inv_1, q_get_i, pTag_1, pRf_s, q_istore1, q_ldc_s, q_invv1, q_if_eq, q_get_r, q_iconst, q_iald, q_bipush, q_ic_ne, q_iload1, q_nop, q_sipush, q_invv2, q_istore2, q_ic_eq, q_vret, q_imul, q_iadd, q_istore3, q_iload3, q_iload2, q_iast, q_dup2, q_goto, q_ishl, q_ior, q_istore4, q_istore5, q_istore6, q_iload4, q_iload5, q_iload6, q_invv5, q_pop_i, q_pop_r, q_isub, q_invv3, L_0, L_1, L_2, L_3, L_4, L_7, L_10, L_12, L_46, L_99, L_999, k_some, k_none, pRm_i, pRm_r, pRm_0, pF_1, pF_2, inv_s, k2, nN_le, nN_lt, nN_eq, nN_add, nN_mul, nN_lt0, nN_ge0, nN_gt0, nN_le0, nN_eq0, nN_eq1, nN_neN, pIn_n, pIx_n, eq_self, Nat.reduceLT, Bool.false_eq_true, Nat.add_zero, Nat.zero_add, Nat.reduceAdd, Nat.reduceMul, Nat.reduceSub, Nat.zero_le, Nat.reduceLeDiff, Nat.reduceEqDiff, Nat.le_refl, not_false_eq_true, not_true_eq_false, false_implies, true_implies, forall_const, true_and, and_true, if_true, if_false, implies_true, and_self, ne_eq, false_and, and_false, or_false, false_or, true_or, or_true]
  refine mw_mono (u_must (i := 8) h2 (by omega) rfl) ?_
  rintro o M3 ⟨rfl, h3, A3⟩
  have k3 : (gS M3 u).1 = 12 := by rw [A3.S, k2]
  simp (disch := omega) only [q_aload0, q_aload0N, q_invv0, inv_1, q_get_i, pTag_1, pRf_s, q_istore1, q_ldc_s, q_invv1, q_if_eq, q_get_r, q_iconst, q_iald, q_bipush, q_ic_ne, q_iload1, q_nop, q_sipush, q_invv2, q_istore2, q_ic_eq, q_vret, q_imul, q_iadd, q_istore3, q_iload3, q_iload2, q_iast, q_dup2, q_goto, q_ishl, q_ior, q_istore4, q_istore5, q_istore6, q_iload4, q_iload5, q_iload6, q_invv5, q_pop_i, q_pop_r, q_isub, q_invv3, L_0, L_1, L_2, L_3, L_4, L_7, L_10, L_12, L_46, L_99, L_999, k_some, k_none, pRm_i, pRm_r, pRm_0, pF_1, pF_2, inv_s, k3, nN_le, nN_lt, nN_eq, nN_add, nN_mul, nN_lt0, nN_ge0, nN_gt0, nN_le0, nN_eq0, nN_eq1, nN_neN, pIn_n, pIx_n, eq_self, Nat.reduceLT, Bool.false_eq_true, Nat.add_zero, Nat.zero_add, Nat.reduceAdd, Nat.reduceMul, Nat.reduceSub, Nat.zero_le, Nat.reduceLeDiff, Nat.reduceEqDiff, Nat.le_refl, not_false_eq_true, not_true_eq_false, false_implies, true_implies, forall_const, true_and, and_true, if_true, if_false, implies_true, and_self, ne_eq, false_and, and_false, or_false, false_or, true_or, or_true]
  refine mw_mono (u_person (but := v1) h3 hw.1) ?_
  rintro o M4 ⟨v2, rfl, h4, e4, A4⟩
  have k4 : (gS M4 u).1 = 12 := by rw [A4.S, k3]
  simp (disch := omega) only [q_aload0, q_aload0N, q_invv0, inv_1, q_get_i, pTag_1, pRf_s, q_istore1, q_ldc_s, q_invv1, q_if_eq, q_get_r, q_iconst, q_iald, q_bipush, q_ic_ne, q_iload1, q_nop, q_sipush, q_invv2, q_istore2, q_ic_eq, q_vret, q_imul, q_iadd, q_istore3, q_iload3, q_iload2, q_iast, q_dup2, q_goto, q_ishl, q_ior, q_istore4, q_istore5, q_istore6, q_iload4, q_iload5, q_iload6, q_invv5, q_pop_i, q_pop_r, q_isub, q_invv3, L_0, L_1, L_2, L_3, L_4, L_7, L_10, L_12, L_46, L_99, L_999, k_some, k_none, pRm_i, pRm_r, pRm_0, pF_1, pF_2, inv_s, k4, nN_le, nN_lt, nN_eq, nN_add, nN_mul, nN_lt0, nN_ge0, nN_gt0, nN_le0, nN_eq0, nN_eq1, nN_neN, pIn_n, pIx_n, eq_self, Nat.reduceLT, Bool.false_eq_true, Nat.add_zero, Nat.zero_add, Nat.reduceAdd, Nat.reduceMul, Nat.reduceSub, Nat.zero_le, Nat.reduceLeDiff, Nat.reduceEqDiff, Nat.le_refl, not_false_eq_true, not_true_eq_false, false_implies, true_implies, forall_const, true_and, and_true, if_true, if_false, implies_true, and_self, ne_eq, false_and, and_false, or_false, false_or, true_or, or_true]
  refine mw_mono (u_figs (lo := 1) (c := 100) h4 (by omega) nm99 (by omega)) ?_
  rintro o M5 ⟨v3, rfl, h5, e5, A5⟩
  have A05 := ((((A1.mono X9_T).trans (A2.mono MdX_T)).trans (A3.mono MdX_T)).trans (A4.mono MdX_T)).trans (A5.mono MdX_T)
  have hb9 := h.sd.b9
  by_cases c1 : 0 ≤ th uW n b (nx9 n b p) ∧ th uW n b (nx9 n b p) < nP a
  rotate_left
  · rw [bR_r, if_neg (fun z => c1 ⟨Nat.zero_le _, z.1⟩), bR_l, bR_l, bR_l] at h5
    have hM : MfU M5 u n b a (nx9 n b p) := h5
    have f := hM.ft
    have f2 := nN_ft hM.e9
    simp (disch := omega) only [q_aload0, q_aload0N, q_invv0, inv_1, q_get_i, pTag_1, pRf_s, q_istore1, q_ldc_s, q_invv1, q_if_eq, q_get_r, q_iconst, q_iald, q_bipush, q_ic_ne, q_iload1, q_nop, q_sipush, q_invv2, q_istore2, q_ic_eq, q_vret, q_imul, q_iadd, q_istore3, q_iload3, q_iload2, q_iast, q_dup2, q_goto, q_ishl, q_ior, q_istore4, q_istore5, q_istore6, q_iload4, q_iload5, q_iload6, q_invv5, q_pop_i, q_pop_r, q_isub, q_invv3, e_68_7, e_68_8, e_68_9, e_68_10, L_0, L_1, L_2, L_3, L_4, L_7, L_10, L_12, L_46, L_99, L_999, k_some, k_none, pRm_i, pRm_r, pRm_0, pF_1, pF_2, inv_s, hM.sh.k0, f, f2, nN_le, nN_lt, nN_eq, nN_add, nN_mul, nN_lt0, nN_ge0, nN_gt0, nN_le0, nN_eq0, nN_eq1, nN_neN, pIn_n, pIx_n, eq_self, Nat.reduceLT, Bool.false_eq_true, Nat.add_zero, Nat.zero_add, Nat.reduceAdd, Nat.reduceMul, Nat.reduceSub, Nat.zero_le, Nat.reduceLeDiff, Nat.reduceEqDiff, Nat.le_refl, not_false_eq_true, not_true_eq_false, false_implies, true_implies, forall_const, true_and, and_true, if_true, if_false, implies_true, and_self, ne_eq, false_and, and_false, or_false, false_or, true_or, or_true]
    refine f21 (r := .inl 0) A05 trivial ?_
    rw [pRs_inl (v := 1000 + 3) (e := nx9 n b p) (show (pnm (th uW n b) (nx9 n b) 0 (nP a) (nx9 n b p) fun x q => pwd (th uW n b) (nx9 n b) 1008 q fun q => psec (th uW n b) (nx9 n b) (nP a) x q fun y q => pnm (th uW n b) (nx9 n b) 1 100 q fun n9 q => if th uW n b q = 1010 then pnm (th uW n b) (nx9 n b) 1 100 (nx9 n b q) fun dd q => pFc (th uW n b) (nx9 n b) x y n9 dd q else pFc (th uW n b) (nx9 n b) x y n9 0 q : pAg) = _ from by rw [pnm, if_neg c1])]
    exact ⟨rfl, a, hM, fun j _ => rfl⟩
  rw [bR_r, if_pos ⟨c1.2, nm1 _ (by omega)⟩] at h4 h5 e4 e5
  have ev1 := e2 _ rfl c1.2
  by_cases c2 : th uW n b (nx9 n b (nx9 n b p)) = 1000 + 8
  rotate_left
  · rw [bR_r, if_neg c2, bR_l, bR_l] at h5
    have hM : MfU M5 u n b a (nx9 n b (nx9 n b p)) := h5
    have f := hM.ft
    have f2 := nN_ft hM.e9
    simp (disch := omega) only [q_aload0, q_aload0N, q_invv0, inv_1, q_get_i, pTag_1, pRf_s, q_istore1, q_ldc_s, q_invv1, q_if_eq, q_get_r, q_iconst, q_iald, q_bipush, q_ic_ne, q_iload1, q_nop, q_sipush, q_invv2, q_istore2, q_ic_eq, q_vret, q_imul, q_iadd, q_istore3, q_iload3, q_iload2, q_iast, q_dup2, q_goto, q_ishl, q_ior, q_istore4, q_istore5, q_istore6, q_iload4, q_iload5, q_iload6, q_invv5, q_pop_i, q_pop_r, q_isub, q_invv3, e_68_7, e_68_8, e_68_9, e_68_10, L_0, L_1, L_2, L_3, L_4, L_7, L_10, L_12, L_46, L_99, L_999, k_some, k_none, pRm_i, pRm_r, pRm_0, pF_1, pF_2, inv_s, hM.sh.k0, f, f2, nN_le, nN_lt, nN_eq, nN_add, nN_mul, nN_lt0, nN_ge0, nN_gt0, nN_le0, nN_eq0, nN_eq1, nN_neN, pIn_n, pIx_n, eq_self, Nat.reduceLT, Bool.false_eq_true, Nat.add_zero, Nat.zero_add, Nat.reduceAdd, Nat.reduceMul, Nat.reduceSub, Nat.zero_le, Nat.reduceLeDiff, Nat.reduceEqDiff, Nat.le_refl, not_false_eq_true, not_true_eq_false, false_implies, true_implies, forall_const, true_and, and_true, if_true, if_false, implies_true, and_self, ne_eq, false_and, and_false, or_false, false_or, true_or, or_true]
    refine f21 (r := .inl 0) A05 trivial ?_
    rw [pRs_inl (v := 1000 + 3) (e := nx9 n b (nx9 n b p)) (show (pnm (th uW n b) (nx9 n b) 0 (nP a) (nx9 n b p) fun x q => pwd (th uW n b) (nx9 n b) 1008 q fun q => psec (th uW n b) (nx9 n b) (nP a) x q fun y q => pnm (th uW n b) (nx9 n b) 1 100 q fun n9 q => if th uW n b q = 1010 then pnm (th uW n b) (nx9 n b) 1 100 (nx9 n b q) fun dd q => pFc (th uW n b) (nx9 n b) x y n9 dd q else pFc (th uW n b) (nx9 n b) x y n9 0 q : pAg) = _ from by rw [pnm, if_pos c1, pwd, if_neg c2])]
    exact ⟨rfl, a, hM, fun j _ => rfl⟩
  rw [bR_r, if_pos c2] at h5 e4 e5
  have t2 := thU (n := n) (p := nx9 n b (nx9 n b (nx9 n b p))) hb9
  rw [ev1, bR_r] at h5 e5
  have en := nN_eq (a := th uW n b (nx9 n b (nx9 n b (nx9 n b p)))) (b := th uW n b (nx9 n b p)) (by omega) (by omega)
  by_cases c3 : th uW n b (nx9 n b (nx9 n b (nx9 n b p))) = th uW n b (nx9 n b p)
  · rw [if_neg (fun z => z.2 (by rw [c3])), bR_l] at h5
    have hM : MfU M5 u n b a (nx9 n b (nx9 n b (nx9 n b p))) := h5
    have f := hM.ft
    have f2 := nN_ft hM.e9
    simp (disch := omega) only [q_aload0, q_aload0N, q_invv0, inv_1, q_get_i, pTag_1, pRf_s, q_istore1, q_ldc_s, q_invv1, q_if_eq, q_get_r, q_iconst, q_iald, q_bipush, q_ic_ne, q_iload1, q_nop, q_sipush, q_invv2, q_istore2, q_ic_eq, q_vret, q_imul, q_iadd, q_istore3, q_iload3, q_iload2, q_iast, q_dup2, q_goto, q_ishl, q_ior, q_istore4, q_istore5, q_istore6, q_iload4, q_iload5, q_iload6, q_invv5, q_pop_i, q_pop_r, q_isub, q_invv3, e_68_7, e_68_8, e_68_9, e_68_10, L_0, L_1, L_2, L_3, L_4, L_7, L_10, L_12, L_46, L_99, L_999, k_some, k_none, pRm_i, pRm_r, pRm_0, pF_1, pF_2, inv_s, hM.sh.k0, f, f2, nN_le, nN_lt, nN_eq, nN_add, nN_mul, nN_lt0, nN_ge0, nN_gt0, nN_le0, nN_eq0, nN_eq1, nN_neN, pIn_n, pIx_n, eq_self, Nat.reduceLT, Bool.false_eq_true, Nat.add_zero, Nat.zero_add, Nat.reduceAdd, Nat.reduceMul, Nat.reduceSub, Nat.zero_le, Nat.reduceLeDiff, Nat.reduceEqDiff, Nat.le_refl, not_false_eq_true, not_true_eq_false, false_implies, true_implies, forall_const, true_and, and_true, if_true, if_false, implies_true, and_self, ne_eq, false_and, and_false, or_false, false_or, true_or, or_true]
    refine f21 (r := .inl 0) A05 trivial ?_
    rw [pRs_inl (v := 1000 + 3) (e := nx9 n b (nx9 n b (nx9 n b p))) (show (pnm (th uW n b) (nx9 n b) 0 (nP a) (nx9 n b p) fun x q => pwd (th uW n b) (nx9 n b) 1008 q fun q => psec (th uW n b) (nx9 n b) (nP a) x q fun y q => pnm (th uW n b) (nx9 n b) 1 100 q fun n9 q => if th uW n b q = 1010 then pnm (th uW n b) (nx9 n b) 1 100 (nx9 n b q) fun dd q => pFc (th uW n b) (nx9 n b) x y n9 dd q else pFc (th uW n b) (nx9 n b) x y n9 0 q : pAg) = _ from by rw [pnm, if_pos c1, pwd, if_pos c2, psec, if_pos c3])]
    exact ⟨rfl, a, hM, fun j _ => rfl⟩
  by_cases c4 : 0 ≤ th uW n b (nx9 n b (nx9 n b (nx9 n b p))) ∧ th uW n b (nx9 n b (nx9 n b (nx9 n b p))) < nP a
  rotate_left
  · rw [if_neg (fun z => c4 ⟨Nat.zero_le _, z.1⟩), bR_l] at h5
    have hM : MfU M5 u n b a (nx9 n b (nx9 n b (nx9 n b p))) := h5
    have f := hM.ft
    have f2 := nN_ft hM.e9
    simp (disch := omega) only [q_aload0, q_aload0N, q_invv0, inv_1, q_get_i, pTag_1, pRf_s, q_istore1, q_ldc_s, q_invv1, q_if_eq, q_get_r, q_iconst, q_iald, q_bipush, q_ic_ne, q_iload1, q_nop, q_sipush, q_invv2, q_istore2, q_ic_eq, q_vret, q_imul, q_iadd, q_istore3, q_iload3, q_iload2, q_iast, q_dup2, q_goto, q_ishl, q_ior, q_istore4, q_istore5, q_istore6, q_iload4, q_iload5, q_iload6, q_invv5, q_pop_i, q_pop_r, q_isub, q_invv3, e_68_7, e_68_8, e_68_9, e_68_10, L_0, L_1, L_2, L_3, L_4, L_7, L_10, L_12, L_46, L_99, L_999, k_some, k_none, pRm_i, pRm_r, pRm_0, pF_1, pF_2, inv_s, hM.sh.k0, f, f2, nN_le, nN_lt, nN_eq, nN_add, nN_mul, nN_lt0, nN_ge0, nN_gt0, nN_le0, nN_eq0, nN_eq1, nN_neN, pIn_n, pIx_n, eq_self, Nat.reduceLT, Bool.false_eq_true, Nat.add_zero, Nat.zero_add, Nat.reduceAdd, Nat.reduceMul, Nat.reduceSub, Nat.zero_le, Nat.reduceLeDiff, Nat.reduceEqDiff, Nat.le_refl, not_false_eq_true, not_true_eq_false, false_implies, true_implies, forall_const, true_and, and_true, if_true, if_false, implies_true, and_self, ne_eq, false_and, and_false, or_false, false_or, true_or, or_true]
    refine f21 (r := .inl 0) A05 trivial ?_
    rw [pRs_inl (v := 1000 + 3) (e := nx9 n b (nx9 n b (nx9 n b p))) (show (pnm (th uW n b) (nx9 n b) 0 (nP a) (nx9 n b p) fun x q => pwd (th uW n b) (nx9 n b) 1008 q fun q => psec (th uW n b) (nx9 n b) (nP a) x q fun y q => pnm (th uW n b) (nx9 n b) 1 100 q fun n9 q => if th uW n b q = 1010 then pnm (th uW n b) (nx9 n b) 1 100 (nx9 n b q) fun dd q => pFc (th uW n b) (nx9 n b) x y n9 dd q else pFc (th uW n b) (nx9 n b) x y n9 0 q : pAg) = _ from by rw [pnm, if_pos c1, pwd, if_pos c2, psec, if_neg c3, pnm, if_neg c4])]
    exact ⟨rfl, a, hM, fun j _ => rfl⟩
  rw [if_pos ⟨c4.2, fun z => c3 (by rwa [en] at z)⟩] at h5 e5
  have ev2 := e4 _ rfl c4.2
  by_cases c5 : 1 ≤ th uW n b (nx9 n b (nx9 n b (nx9 n b (nx9 n b p)))) ∧ th uW n b (nx9 n b (nx9 n b (nx9 n b (nx9 n b p)))) < 100
  rotate_left
  · rw [bR_r, if_neg c5] at h5
    have hM : MfU M5 u n b a (nx9 n b (nx9 n b (nx9 n b (nx9 n b p)))) := h5
    have f := hM.ft
    have f2 := nN_ft hM.e9
    simp (disch := omega) only [q_aload0, q_aload0N, q_invv0, inv_1, q_get_i, pTag_1, pRf_s, q_istore1, q_ldc_s, q_invv1, q_if_eq, q_get_r, q_iconst, q_iald, q_bipush, q_ic_ne, q_iload1, q_nop, q_sipush, q_invv2, q_istore2, q_ic_eq, q_vret, q_imul, q_iadd, q_istore3, q_iload3, q_iload2, q_iast, q_dup2, q_goto, q_ishl, q_ior, q_istore4, q_istore5, q_istore6, q_iload4, q_iload5, q_iload6, q_invv5, q_pop_i, q_pop_r, q_isub, q_invv3, e_68_7, e_68_8, e_68_9, e_68_10, L_0, L_1, L_2, L_3, L_4, L_7, L_10, L_12, L_46, L_99, L_999, k_some, k_none, pRm_i, pRm_r, pRm_0, pF_1, pF_2, inv_s, hM.sh.k0, f, f2, nN_le, nN_lt, nN_eq, nN_add, nN_mul, nN_lt0, nN_ge0, nN_gt0, nN_le0, nN_eq0, nN_eq1, nN_neN, pIn_n, pIx_n, eq_self, Nat.reduceLT, Bool.false_eq_true, Nat.add_zero, Nat.zero_add, Nat.reduceAdd, Nat.reduceMul, Nat.reduceSub, Nat.zero_le, Nat.reduceLeDiff, Nat.reduceEqDiff, Nat.le_refl, not_false_eq_true, not_true_eq_false, false_implies, true_implies, forall_const, true_and, and_true, if_true, if_false, implies_true, and_self, ne_eq, false_and, and_false, or_false, false_or, true_or, or_true]
    refine f21 (r := .inl 0) A05 trivial ?_
    rw [pRs_inl (v := 1000 + 3) (e := nx9 n b (nx9 n b (nx9 n b (nx9 n b p)))) (show (pnm (th uW n b) (nx9 n b) 0 (nP a) (nx9 n b p) fun x q => pwd (th uW n b) (nx9 n b) 1008 q fun q => psec (th uW n b) (nx9 n b) (nP a) x q fun y q => pnm (th uW n b) (nx9 n b) 1 100 q fun n9 q => if th uW n b q = 1010 then pnm (th uW n b) (nx9 n b) 1 100 (nx9 n b q) fun dd q => pFc (th uW n b) (nx9 n b) x y n9 dd q else pFc (th uW n b) (nx9 n b) x y n9 0 q : pAg) = _ from by rw [pnm, if_pos c1, pwd, if_pos c2, psec, if_neg c3, pnm, if_pos c4, pnm, if_neg c5])]
    exact ⟨rfl, a, hM, fun j _ => rfl⟩
  rw [bR_r, if_pos c5] at h5
  obtain ⟨q5, h5⟩ := h5
  have ev3 := e5 _ rfl c5
  have f := h5.sd.ft
  rw [ev1, ev2, ev3]
  have hs : (pnm (th uW n b) (nx9 n b) 0 (nP a) (nx9 n b p) fun x q => pwd (th uW n b) (nx9 n b) 1008 q fun q => psec (th uW n b) (nx9 n b) (nP a) x q fun y q => pnm (th uW n b) (nx9 n b) 1 100 q fun n9 q => if th uW n b q = 1010 then pnm (th uW n b) (nx9 n b) 1 100 (nx9 n b q) fun dd q => pFc (th uW n b) (nx9 n b) x y n9 dd q else pFc (th uW n b) (nx9 n b) x y n9 0 q : pAg) = (if th uW n b (nx9 n b (nx9 n b (nx9 n b (nx9 n b (nx9 n b p))))) = 1010 then pnm (th uW n b) (nx9 n b) 1 100 (nx9 n b (nx9 n b (nx9 n b (nx9 n b (nx9 n b (nx9 n b p)))))) fun dd q => pFc (th uW n b) (nx9 n b) (th uW n b (nx9 n b p)) (th uW n b (nx9 n b (nx9 n b (nx9 n b p)))) (th uW n b (nx9 n b (nx9 n b (nx9 n b (nx9 n b p))))) dd q else pFc (th uW n b) (nx9 n b) (th uW n b (nx9 n b p)) (th uW n b (nx9 n b (nx9 n b (nx9 n b p)))) (th uW n b (nx9 n b (nx9 n b (nx9 n b (nx9 n b p))))) 0 (nx9 n b (nx9 n b (nx9 n b (nx9 n b (nx9 n b p)))))) := by
    rw [pnm, if_pos c1, pwd, if_pos c2, psec, if_neg c3, pnm, if_pos c4, pnm, if_pos c5]
  rw [pRs_pX (v := 1000 + 3) (r := _) hs]
  simp (disch := omega) only [q_aload0, q_aload0N, q_invv0, inv_1, q_get_i, pTag_1, pRf_s, q_istore1, q_ldc_s, q_invv1, q_if_eq, q_get_r, q_iconst, q_iald, q_bipush, q_ic_ne, q_iload1, q_nop, q_sipush, q_invv2, q_istore2, q_ic_eq, q_vret, q_imul, q_iadd, q_istore3, q_iload3, q_iload2, q_iast, q_dup2, q_goto, q_ishl, q_ior, q_istore4, q_istore5, q_istore6, q_iload4, q_iload5, q_iload6, q_invv5, q_pop_i, q_pop_r, q_isub, q_invv3, L_0, L_1, L_2, L_3, L_4, L_7, L_10, L_12, L_46, L_99, L_999, k_some, k_none, pRm_i, pRm_r, pRm_0, pF_1, pF_2, inv_s, h5.sd.sh.k0, f, nN_le, nN_lt, nN_eq, nN_add, nN_mul, nN_lt0, nN_ge0, nN_gt0, nN_le0, nN_eq0, nN_eq1, nN_neN, pIn_n, pIx_n, eq_self, Nat.reduceLT, Bool.false_eq_true, Nat.add_zero, Nat.zero_add, Nat.reduceAdd, Nat.reduceMul, Nat.reduceSub, Nat.zero_le, Nat.reduceLeDiff, Nat.reduceEqDiff, Nat.le_refl, not_false_eq_true, not_true_eq_false, false_implies, true_implies, forall_const, true_and, and_true, if_true, if_false, implies_true, and_self, ne_eq, false_and, and_false, or_false, false_or, true_or, or_true]
  refine mw_mono (hasU (i := 10) h5 (by omega) rfl) ?_
  rintro o M6 ⟨h6, A6⟩
  have A06 := A05.trans (A6.mono X9_T)
  by_cases c6 : th uW n b (nx9 n b (nx9 n b (nx9 n b (nx9 n b (nx9 n b p))))) = 1010
  · rw [if_pos (show th uW n b (nx9 n b (nx9 n b (nx9 n b (nx9 n b (nx9 n b p))))) = 1000 + 10 from c6)] at h6
    rw [if_pos c6]
    obtain ⟨rfl, h6⟩ := h6
    simp (disch := omega) only [q_aload0, q_aload0N, q_invv0, inv_1, q_get_i, pTag_1, pRf_s, q_istore1, q_ldc_s, q_invv1, q_if_eq, q_get_r, q_iconst, q_iald, q_bipush, q_ic_ne, q_iload1, q_nop, q_sipush, q_invv2, q_istore2, q_ic_eq, q_vret, q_imul, q_iadd, q_istore3, q_iload3, q_iload2, q_iast, q_dup2, q_goto, q_ishl, q_ior, q_istore4, q_istore5, q_istore6, q_iload4, q_iload5, q_iload6, q_invv5, q_pop_i, q_pop_r, q_isub, q_invv3, L_0, L_1, L_2, L_3, L_4, L_7, L_10, L_12, L_46, L_99, L_999, k_some, k_none, pRm_i, pRm_r, pRm_0, pF_1, pF_2, inv_s, h6.sd.sh.k0, nN_le, nN_lt, nN_eq, nN_add, nN_mul, nN_lt0, nN_ge0, nN_gt0, nN_le0, nN_eq0, nN_eq1, nN_neN, pIn_n, pIx_n, eq_self, Nat.reduceLT, Bool.false_eq_true, Nat.add_zero, Nat.zero_add, Nat.reduceAdd, Nat.reduceMul, Nat.reduceSub, Nat.zero_le, Nat.reduceLeDiff, Nat.reduceEqDiff, Nat.le_refl, not_false_eq_true, not_true_eq_false, false_implies, true_implies, forall_const, true_and, and_true, if_true, if_false, implies_true, and_self, ne_eq, false_and, and_false, or_false, false_or, true_or, or_true]
    refine mw_mono (u_figs (lo := 1) (c := 100) (r := .inr (nx9 n b (nx9 n b (nx9 n b (nx9 n b (nx9 n b (nx9 n b p))))))) ⟨_, h6⟩ (by omega) nm99 (by omega)) ?_
    rintro o M7 ⟨v4, rfl, h7, e7, A7⟩
    have A07 := A06.trans (A7.mono MdX_T)
    by_cases c7 : 1 ≤ th uW n b (nx9 n b (nx9 n b (nx9 n b (nx9 n b (nx9 n b (nx9 n b p)))))) ∧ th uW n b (nx9 n b (nx9 n b (nx9 n b (nx9 n b (nx9 n b (nx9 n b p)))))) < 100
    · rw [bR_r, if_pos c7] at h7
      obtain ⟨q7, h7⟩ := h7
      rw [e7 _ rfl c7, pnm, if_pos c7]
      simp (disch := omega) only [q_aload0, q_aload0N, q_invv0, inv_1, q_get_i, pTag_1, pRf_s, q_istore1, q_ldc_s, q_invv1, q_if_eq, q_get_r, q_iconst, q_iald, q_bipush, q_ic_ne, q_iload1, q_nop, q_sipush, q_invv2, q_istore2, q_ic_eq, q_vret, q_imul, q_iadd, q_istore3, q_iload3, q_iload2, q_iast, q_dup2, q_goto, q_ishl, q_ior, q_istore4, q_istore5, q_istore6, q_iload4, q_iload5, q_iload6, q_invv5, q_pop_i, q_pop_r, q_isub, q_invv3, L_0, L_1, L_2, L_3, L_4, L_7, L_10, L_12, L_46, L_99, L_999, k_some, k_none, pRm_i, pRm_r, pRm_0, pF_1, pF_2, inv_s, nN_le, nN_lt, nN_eq, nN_add, nN_mul, nN_lt0, nN_ge0, nN_gt0, nN_le0, nN_eq0, nN_eq1, nN_neN, pIn_n, pIx_n, eq_self, Nat.reduceLT, Bool.false_eq_true, Nat.add_zero, Nat.zero_add, Nat.reduceAdd, Nat.reduceMul, Nat.reduceSub, Nat.zero_le, Nat.reduceLeDiff, Nat.reduceEqDiff, Nat.le_refl, not_false_eq_true, not_true_eq_false, false_implies, true_implies, forall_const, true_and, and_true, if_true, if_false, implies_true, and_self, ne_eq, false_and, and_false, or_false, false_or, true_or, or_true]
      exact vb7 h7 hw hK c1.2 c4.2 c5.2 c7.2 A07
    · rw [bR_r, if_neg c7] at h7
      have hM : MfU M7 u n b a (nx9 n b (nx9 n b (nx9 n b (nx9 n b (nx9 n b (nx9 n b p)))))) := h7
      have f := hM.ft
      have f2 := nN_ft hM.e9
      rw [pnm, if_neg c7]
      simp (disch := omega) only [q_aload0, q_aload0N, q_invv0, inv_1, q_get_i, pTag_1, pRf_s, q_istore1, q_ldc_s, q_invv1, q_if_eq, q_get_r, q_iconst, q_iald, q_bipush, q_ic_ne, q_iload1, q_nop, q_sipush, q_invv2, q_istore2, q_ic_eq, q_vret, q_imul, q_iadd, q_istore3, q_iload3, q_iload2, q_iast, q_dup2, q_goto, q_ishl, q_ior, q_istore4, q_istore5, q_istore6, q_iload4, q_iload5, q_iload6, q_invv5, q_pop_i, q_pop_r, q_isub, q_invv3, e_68_7, e_68_8, e_68_9, e_68_10, L_0, L_1, L_2, L_3, L_4, L_7, L_10, L_12, L_46, L_99, L_999, k_some, k_none, pRm_i, pRm_r, pRm_0, pF_1, pF_2, inv_s, hM.sh.k0, f, f2, nN_le, nN_lt, nN_eq, nN_add, nN_mul, nN_lt0, nN_ge0, nN_gt0, nN_le0, nN_eq0, nN_eq1, nN_neN, pIn_n, pIx_n, eq_self, Nat.reduceLT, Bool.false_eq_true, Nat.add_zero, Nat.zero_add, Nat.reduceAdd, Nat.reduceMul, Nat.reduceSub, Nat.zero_le, Nat.reduceLeDiff, Nat.reduceEqDiff, Nat.le_refl, not_false_eq_true, not_true_eq_false, false_implies, true_implies, forall_const, true_and, and_true, if_true, if_false, implies_true, and_self, ne_eq, false_and, and_false, or_false, false_or, true_or, or_true]
      refine f21 (r := .inl 0) A07 trivial ?_
      exact ⟨rfl, a, hM, fun j _ => rfl⟩
  · rw [if_neg (show ¬ th uW n b (nx9 n b (nx9 n b (nx9 n b (nx9 n b (nx9 n b p))))) = 1000 + 10 from c6)] at h6
    rw [if_neg c6]
    obtain ⟨rfl, h6⟩ := h6
    simp (disch := omega) only [q_aload0, q_aload0N, q_invv0, inv_1, q_get_i, pTag_1, pRf_s, q_istore1, q_ldc_s, q_invv1, q_if_eq, q_get_r, q_iconst, q_iald, q_bipush, q_ic_ne, q_iload1, q_nop, q_sipush, q_invv2, q_istore2, q_ic_eq, q_vret, q_imul, q_iadd, q_istore3, q_iload3, q_iload2, q_iast, q_dup2, q_goto, q_ishl, q_ior, q_istore4, q_istore5, q_istore6, q_iload4, q_iload5, q_iload6, q_invv5, q_pop_i, q_pop_r, q_isub, q_invv3, L_0, L_1, L_2, L_3, L_4, L_7, L_10, L_12, L_46, L_99, L_999, k_some, k_none, pRm_i, pRm_r, pRm_0, pF_1, pF_2, inv_s, nN_le, nN_lt, nN_eq, nN_add, nN_mul, nN_lt0, nN_ge0, nN_gt0, nN_le0, nN_eq0, nN_eq1, nN_neN, pIn_n, pIx_n, eq_self, Nat.reduceLT, Bool.false_eq_true, Nat.add_zero, Nat.zero_add, Nat.reduceAdd, Nat.reduceMul, Nat.reduceSub, Nat.zero_le, Nat.reduceLeDiff, Nat.reduceEqDiff, Nat.le_refl, not_false_eq_true, not_true_eq_false, false_implies, true_implies, forall_const, true_and, and_true, if_true, if_false, implies_true, and_self, ne_eq, false_and, and_false, or_false, false_or, true_or, or_true]
    exact vb7 h6 hw hK c1.2 c4.2 c5.2 (by omega) A06
theorem vb1 {r0 : Nat ⊕ Nat} (h : MdO M u n b a r0) (hk : (gS M u).1 = 12) (hw : Wf a) (hE : ∀ q, r0 = .inr q → nP a < 12) : bw (d + 69) 68 1 ([some (.ref u), l2, l3, l4, l5, l6, l7], [], M) (fun o M' => MtL M' u n b a (pRs n b a 1000 r0) o ∧ Ag (XTm u) M M') := by
  have hp' := hw.p'
  rw [e_68_1]
  simp (disch := omega) only [q_aload0, q_aload0N, q_invv0, inv_1, q_get_i, pTag_1, pRf_s, q_istore1, q_ldc_s, q_invv1, q_if_eq, q_get_r, q_iconst, q_iald, q_bipush, q_ic_ne, q_iload1, q_nop, q_sipush, q_invv2, q_istore2, q_ic_eq, q_vret, q_imul, q_iadd, q_istore3, q_iload3, q_iload2, q_iast, q_dup2, q_goto, q_ishl, q_ior, q_istore4, q_istore5, q_istore6, q_iload4, q_iload5, q_iload6, q_invv5, q_pop_i, q_pop_r, q_isub, q_invv3, L_0, L_1, L_2, L_3, L_4, L_7, L_10, L_12, L_46, L_99, L_999, k_some, k_none, pRm_i, pRm_r, pRm_0, pF_1, pF_2, inv_s, hk, nN_le, nN_lt, nN_eq, nN_add, nN_mul, nN_lt0, nN_ge0, nN_gt0, nN_le0, nN_eq0, nN_eq1, nN_neN, pIn_n, pIx_n, eq_self, Nat.reduceLT, Bool.false_eq_true, Nat.add_zero, Nat.zero_add, Nat.reduceAdd, Nat.reduceMul, Nat.reduceSub, Nat.zero_le, Nat.reduceLeDiff, Nat.reduceEqDiff, Nat.le_refl, not_false_eq_true, not_true_eq_false, false_implies, true_implies, forall_const, true_and, and_true, if_true, if_false, implies_true, and_self, ne_eq, false_and, and_false, or_false, false_or, true_or, or_true]
  refine mw_mono (u_figs (lo := 0) (c := 1000) h (by omega) nm999 (by omega)) ?_
  rintro o M5 ⟨v3, rfl, h5, e5, A5⟩
  have A05 : Ag (XTm u) M M5 := A5.mono MdX_T
  cases r0 with
  | inl e =>
    rw [bR_l] at h5
    have hM : MfU M5 u n b a e := h5
    have f := hM.ft
    have f2 := nN_ft hM.e9
    simp (disch := omega) only [q_aload0, q_aload0N, q_invv0, inv_1, q_get_i, pTag_1, pRf_s, q_istore1, q_ldc_s, q_invv1, q_if_eq, q_get_r, q_iconst, q_iald, q_bipush, q_ic_ne, q_iload1, q_nop, q_sipush, q_invv2, q_istore2, q_ic_eq, q_vret, q_imul, q_iadd, q_istore3, q_iload3, q_iload2, q_iast, q_dup2, q_goto, q_ishl, q_ior, q_istore4, q_istore5, q_istore6, q_iload4, q_iload5, q_iload6, q_invv5, q_pop_i, q_pop_r, q_isub, q_invv3, L_0, L_1, L_2, L_3, L_4, L_7, L_10, L_12, L_46, L_99, L_999, k_some, k_none, pRm_i, pRm_r, pRm_0, pF_1, pF_2, inv_s, hM.sh.k0, f, f2, nN_le, nN_lt, nN_eq, nN_add, nN_mul, nN_lt0, nN_ge0, nN_gt0, nN_le0, nN_eq0, nN_eq1, nN_neN, pIn_n, pIx_n, eq_self, Nat.reduceLT, Bool.false_eq_true, Nat.add_zero, Nat.zero_add, Nat.reduceAdd, Nat.reduceMul, Nat.reduceSub, Nat.zero_le, Nat.reduceLeDiff, Nat.reduceEqDiff, Nat.le_refl, not_false_eq_true, not_true_eq_false, false_implies, true_implies, forall_const, true_and, and_true, if_true, if_false, implies_true, and_self, ne_eq, false_and, and_false, or_false, false_or, true_or, or_true]
    exact ⟨⟨rfl, a, hM, fun j _ => rfl⟩, A05⟩
  | inr q =>
  have hE := hE q rfl
  by_cases c1 : 0 ≤ th uW n b (q) ∧ th uW n b (q) < 1000
  rotate_left
  · rw [bR_r, if_neg c1] at h5
    have hM : MfU M5 u n b a (q) := h5
    have f := hM.ft
    have f2 := nN_ft hM.e9
    simp (disch := omega) only [q_aload0, q_aload0N, q_invv0, inv_1, q_get_i, pTag_1, pRf_s, q_istore1, q_ldc_s, q_invv1, q_if_eq, q_get_r, q_iconst, q_iald, q_bipush, q_ic_ne, q_iload1, q_nop, q_sipush, q_invv2, q_istore2, q_ic_eq, q_vret, q_imul, q_iadd, q_istore3, q_iload3, q_iload2, q_iast, q_dup2, q_goto, q_ishl, q_ior, q_istore4, q_istore5, q_istore6, q_iload4, q_iload5, q_iload6, q_invv5, q_pop_i, q_pop_r, q_isub, q_invv3, L_0, L_1, L_2, L_3, L_4, L_7, L_10, L_12, L_46, L_99, L_999, k_some, k_none, pRm_i, pRm_r, pRm_0, pF_1, pF_2, inv_s, hM.sh.k0, f, f2, nN_le, nN_lt, nN_eq, nN_add, nN_mul, nN_lt0, nN_ge0, nN_gt0, nN_le0, nN_eq0, nN_eq1, nN_neN, pIn_n, pIx_n, eq_self, Nat.reduceLT, Bool.false_eq_true, Nat.add_zero, Nat.zero_add, Nat.reduceAdd, Nat.reduceMul, Nat.reduceSub, Nat.zero_le, Nat.reduceLeDiff, Nat.reduceEqDiff, Nat.le_refl, not_false_eq_true, not_true_eq_false, false_implies, true_implies, forall_const, true_and, and_true, if_true, if_false, implies_true, and_self, ne_eq, false_and, and_false, or_false, false_or, true_or, or_true]
    refine ⟨⟨rfl, ?_⟩, A05⟩
    rw [pRs_inl (v := 1000) (e := q) (show (pnm (th uW n b) (nx9 n b) 0 1000 q fun x q => .inr (q, [x]) : pAg) = _ from by rw [pnm, if_neg c1])]
    exact ⟨a, hM, fun j _ => rfl⟩

  rw [bR_r, if_pos c1] at h5
  obtain ⟨q5, h5⟩ := h5
  have ev3 := e5 _ rfl c1
  have f := h5.sd.ft
  rw [ev3]
  rw [pRs_inr (v := 1000) (s := (nx9 n b q, [th uW n b (q)])) (show (pnm (th uW n b) (nx9 n b) 0 1000 q fun x q => .inr (q, [x]) : pAg) = _ from by rw [pnm, if_pos c1])]
  generalize th uW n b (q) = x9 at ⊢
  have g4 : gI M5 (u + 1) 1 = nN (nP a) := by rw [h5.tb]; exact hw.p
  have i1 : 10 + 3 * nP a < 3346 := by omega
  have i2 : 10 + 3 * nP a + 1 < 3346 := by omega
  have i3 : 10 + 3 * nP a + 2 < 3346 := by omega
  have i4 : ¬ 1 = 10 + 3 * nP a := by omega
  have i5 : ¬ 1 = 10 + 3 * nP a + 1 := by omega
  have i6 : ¬ 1 = 10 + 3 * nP a + 2 := by omega
  simp (disch := omega) only [q_aload0, q_aload0N, q_invv0, inv_1, q_get_i, pTag_1, pRf_s, q_istore1, q_ldc_s, q_invv1, q_if_eq, q_get_r, q_iconst, q_iald, q_bipush, q_ic_ne, q_iload1, q_nop, q_sipush, q_invv2, q_istore2, q_ic_eq, q_vret, q_imul, q_iadd, q_istore3, q_iload3, q_iload2, q_iast, q_dup2, q_goto, q_ishl, q_ior, q_istore4, q_istore5, q_istore6, q_iload4, q_iload5, q_iload6, q_invv5, q_pop_i, q_pop_r, q_isub, q_invv3, L_0, L_1, L_2, L_3, L_4, L_7, L_10, L_12, L_46, L_99, L_999, k_some, k_none, pRm_i, pRm_r, pRm_0, pF_1, pF_2, inv_s, h5.sd.sh.k0, f, nN_le, nN_lt, nN_eq, nN_add, nN_mul, nN_lt0, nN_ge0, nN_gt0, nN_le0, nN_eq0, nN_eq1, nN_neN, pIn_n, pIx_n, eq_self, Nat.reduceLT, Bool.false_eq_true, Nat.add_zero, Nat.zero_add, Nat.reduceAdd, Nat.reduceMul, Nat.reduceSub, Nat.zero_le, Nat.reduceLeDiff, Nat.reduceEqDiff, Nat.le_refl, not_false_eq_true, not_true_eq_false, false_implies, true_implies, forall_const, true_and, and_true, if_true, if_false, implies_true, and_self, ne_eq, false_and, and_false, or_false, false_or, true_or, or_true]
  rw [e_68_2]
  simp (disch := omega) only [q_aload0, q_aload0N, q_invv0, inv_1, q_get_i, pTag_1, pRf_s, q_istore1, q_ldc_s, q_invv1, q_if_eq, q_get_r, q_iconst, q_iald, q_bipush, q_ic_ne, q_iload1, q_nop, q_sipush, q_invv2, q_istore2, q_ic_eq, q_vret, q_imul, q_iadd, q_istore3, q_iload3, q_iload2, q_iast, q_dup2, q_goto, q_ishl, q_ior, q_istore4, q_istore5, q_istore6, q_iload4, q_iload5, q_iload6, q_invv5, q_pop_i, q_pop_r, q_isub, q_invv3, L_0, L_1, L_2, L_3, L_4, L_7, L_10, L_12, L_46, L_99, L_999, k_some, k_none, pRm_i, pRm_r, pRm_0, pF_1, pF_2, inv_s, h5.sd.sh.k0, h5.sd.sh.k1, h5.sd.sh.p1, gS_sI, gP_sI, gI_sI, i1, i2, i3, i4, i5, i6, g4, pIn_n, pIx_n, nN_mul, nN_add, eq_self, Nat.reduceLT, Bool.false_eq_true, Nat.add_zero, Nat.zero_add, Nat.reduceAdd, Nat.reduceMul, Nat.reduceSub, Nat.zero_le, Nat.reduceLeDiff, Nat.reduceEqDiff, Nat.le_refl, not_false_eq_true, not_true_eq_false, false_implies, true_implies, forall_const, true_and, and_true, if_true, if_false, implies_true, and_self, ne_eq, false_and, and_false, or_false, false_or, true_or, or_true]
  generalize hM6 : sI (sI (sI (sI M5 (u + 1) (10 + 3 * nP a) (nN x9)) (u + 1) (10 + 3 * nP a + 1) (iN (-1))) (u + 1) (10 + 3 * nP a + 2) (nN 0)) (u + 1) 1 (nN (nP a + 1)) = M6
  have A6 : Ag (XMw u) M5 M6 := by rw [← hM6]; exact Ag.put (Ag.put (Ag.put (Ag.one (Or.inr rfl)) (Or.inr rfl)) (Or.inr rfl)) (Or.inr rfl)
  refine f21 (r := .inl 0) (A05.trans (A6.mono XMw_T)) trivial ?_
  refine ⟨rfl, q5, ?_⟩
  refine h5.eff A6 ⟨by rw [A6.S, A6.P]; exact h5.sd.sh, ?_⟩
  funext j
  rw [← hM6, gI_sI, gI_sI, gI_sI, gI_sI, h5.tb]
  show _ = sPer a x9 j
  unfold sPer
  by_cases d1 : j = 10 + 3 * nP a
  · rw [if_neg (by omega), if_neg (by omega), if_neg (by omega), if_pos ⟨rfl, d1⟩, if_pos d1]
  · rw [if_neg d1]
    by_cases d2 : j = 11 + 3 * nP a
    · rw [if_neg (by omega), if_neg (by omega), if_pos ⟨rfl, by omega⟩, if_pos d2]
    · rw [if_neg d2]
      by_cases d3 : j = 12 + 3 * nP a
      · rw [if_neg (by omega), if_pos ⟨rfl, by omega⟩, if_pos d3]
      · rw [if_neg d3]
        by_cases d4 : j = 1
        · rw [if_pos ⟨rfl, d4⟩, if_pos d4]
        · rw [if_neg (by omega), if_neg (by omega), if_neg (by omega), if_neg (by omega), if_neg d4]
theorem w_townLine (h : MdU M u n b a q p) (hw : Wt a K) (hK : K < 2000000) : mw (d + 70) 68 [.ref u] M (fun o M' => MtL M' u n b a (pTL (th uW n b) (nx9 n b) a p) o ∧ Ag (XTm u) M M') := by
  have hp' := hw.1.p'
  have hn := h.sd.n9
  have hpn := h.sd.ple.2
  simp (disch := omega) only [m_68, q_aload0, q_aload0N, q_invv0, inv_1, q_get_i, pTag_1, pRf_s, q_istore1, q_ldc_s, q_invv1, q_if_eq, q_get_r, q_iconst, q_iald, q_bipush, q_ic_ne, q_iload1, q_nop, q_sipush, q_invv2, q_istore2, q_ic_eq, q_vret, q_imul, q_iadd, q_istore3, q_iload3, q_iload2, q_iast, q_dup2, q_goto, q_ishl, q_ior, q_istore4, q_istore5, q_istore6, q_iload4, q_iload5, q_iload6, q_invv5, q_pop_i, q_pop_r, q_isub, q_invv3, L_0, L_1, L_2, L_3, L_4, L_7, L_10, L_12, L_46, L_99, L_999, k_some, k_none, pRm_i, pRm_r, pRm_0, pF_1, pF_2, inv_s, h.sd.sh.k0, nN_le, nN_lt, nN_eq, nN_add, nN_mul, nN_lt0, nN_ge0, nN_gt0, nN_le0, nN_eq0, nN_eq1, nN_neN, pIn_n, pIx_n, eq_self, Nat.reduceLT, Bool.false_eq_true, Nat.add_zero, Nat.zero_add, Nat.reduceAdd, Nat.reduceMul, Nat.reduceSub, Nat.zero_le, Nat.reduceLeDiff, Nat.reduceEqDiff, Nat.le_refl, not_false_eq_true, not_true_eq_false, false_implies, true_implies, forall_const, true_and, and_true, if_true, if_false, implies_true, and_self, ne_eq, false_and, and_false, or_false, false_or, true_or, or_true]
  rw [e_68_0]
  simp (disch := omega) only [q_aload0, q_aload0N, q_invv0, inv_1, q_get_i, pTag_1, pRf_s, q_istore1, q_ldc_s, q_invv1, q_if_eq, q_get_r, q_iconst, q_iald, q_bipush, q_ic_ne, q_iload1, q_nop, q_sipush, q_invv2, q_istore2, q_ic_eq, q_vret, q_imul, q_iadd, q_istore3, q_iload3, q_iload2, q_iast, q_dup2, q_goto, q_ishl, q_ior, q_istore4, q_istore5, q_istore6, q_iload4, q_iload5, q_iload6, q_invv5, q_pop_i, q_pop_r, q_isub, q_invv3, L_0, L_1, L_2, L_3, L_4, L_7, L_10, L_12, L_46, L_99, L_999, k_some, k_none, pRm_i, pRm_r, pRm_0, pF_1, pF_2, inv_s, h.sd.sh.k0, nN_le, nN_lt, nN_eq, nN_add, nN_mul, nN_lt0, nN_ge0, nN_gt0, nN_le0, nN_eq0, nN_eq1, nN_neN, pIn_n, pIx_n, eq_self, Nat.reduceLT, Bool.false_eq_true, Nat.add_zero, Nat.zero_add, Nat.reduceAdd, Nat.reduceMul, Nat.reduceSub, Nat.zero_le, Nat.reduceLeDiff, Nat.reduceEqDiff, Nat.le_refl, not_false_eq_true, not_true_eq_false, false_implies, true_implies, forall_const, true_and, and_true, if_true, if_false, implies_true, and_self, ne_eq, false_and, and_false, or_false, false_or, true_or, or_true]
  refine mw_mono (w_skip h.sd) ?_
  rintro _ M0 ⟨rfl, s0, A0⟩
  have h0 := h.st A0 X9_U s0
  simp (disch := omega) only [q_aload0, q_aload0N, q_invv0, inv_1, q_get_i, pTag_1, pRf_s, q_istore1, q_ldc_s, q_invv1, q_if_eq, q_get_r, q_iconst, q_iald, q_bipush, q_ic_ne, q_iload1, q_nop, q_sipush, q_invv2, q_istore2, q_ic_eq, q_vret, q_imul, q_iadd, q_istore3, q_iload3, q_iload2, q_iast, q_dup2, q_goto, q_ishl, q_ior, q_istore4, q_istore5, q_istore6, q_iload4, q_iload5, q_iload6, q_invv5, q_pop_i, q_pop_r, q_isub, q_invv3, L_0, L_1, L_2, L_3, L_4, L_7, L_10, L_12, L_46, L_99, L_999, k_some, k_none, pRm_i, pRm_r, pRm_0, pF_1, pF_2, inv_s, s0.sh.k0, s0.aq, nN_le, nN_lt, nN_eq, nN_add, nN_mul, nN_lt0, nN_ge0, nN_gt0, nN_le0, nN_eq0, nN_eq1, nN_neN, pIn_n, pIx_n, eq_self, Nat.reduceLT, Bool.false_eq_true, Nat.add_zero, Nat.zero_add, Nat.reduceAdd, Nat.reduceMul, Nat.reduceSub, Nat.zero_le, Nat.reduceLeDiff, Nat.reduceEqDiff, Nat.le_refl, not_false_eq_true, not_true_eq_false, false_implies, true_implies, forall_const, true_and, and_true, if_true, if_false, implies_true, and_self, ne_eq, false_and, and_false, or_false, false_or, true_or, or_true]
  refine mw_mono (hasU (i := 0) h0 (by omega) rfl) ?_
  rintro o M1 ⟨h1, A1⟩
  have A01 : Ag (XTm u) M M1 := (A0.mono X9_T).trans (A1.mono X9_T)
  by_cases c : th uW n b p = 1000 + 0
  · rw [if_pos c] at h1
    obtain ⟨rfl, h1⟩ := h1
    have m1 : gI M1 (u + 1) 1 = nN (nP a) := by rw [h1.tb]; exact hw.1.p
    by_cases c12 : nP a = 12
    · simp (disch := omega) only [q_aload0, q_aload0N, q_invv0, inv_1, q_get_i, pTag_1, pRf_s, q_istore1, q_ldc_s, q_invv1, q_if_eq, q_get_r, q_iconst, q_iald, q_bipush, q_ic_ne, q_iload1, q_nop, q_sipush, q_invv2, q_istore2, q_ic_eq, q_vret, q_imul, q_iadd, q_istore3, q_iload3, q_iload2, q_iast, q_dup2, q_goto, q_ishl, q_ior, q_istore4, q_istore5, q_istore6, q_iload4, q_iload5, q_iload6, q_invv5, q_pop_i, q_pop_r, q_isub, q_invv3, L_0, L_1, L_2, L_3, L_4, L_7, L_10, L_12, L_46, L_99, L_999, k_some, k_none, pRm_i, pRm_r, pRm_0, pF_1, pF_2, inv_s, h1.sd.sh.k0, h1.sd.sh.k1, h1.sd.sh.p1, m1, c12, pIn_n, pIx_n, nN_le, nN_lt, nN_eq, nN_add, nN_mul, nN_lt0, nN_ge0, nN_gt0, nN_le0, nN_eq0, nN_eq1, nN_neN, pIn_n, pIx_n, eq_self, Nat.reduceLT, Bool.false_eq_true, Nat.add_zero, Nat.zero_add, Nat.reduceAdd, Nat.reduceMul, Nat.reduceSub, Nat.zero_le, Nat.reduceLeDiff, Nat.reduceEqDiff, Nat.le_refl, not_false_eq_true, not_true_eq_false, false_implies, true_implies, forall_const, true_and, and_true, if_true, if_false, implies_true, and_self, ne_eq, false_and, and_false, or_false, false_or, true_or, or_true]
      refine mw_mono (w_wrongM h1.sd.sh h1.sd.ft) ?_
      rintro _ M2 ⟨rfl, h2, A2⟩
      have hM : MfU M2 u n b a p := h1.bad A2 X10_U h2 (by omega) ⟨te n b p, by have := h1.sd.cl.1; omega, by rw [A2.I (by omega)]; exact h1.sd.aq⟩
      simp (disch := omega) only [q_aload0, q_aload0N, q_invv0, inv_1, q_get_i, pTag_1, pRf_s, q_istore1, q_ldc_s, q_invv1, q_if_eq, q_get_r, q_iconst, q_iald, q_bipush, q_ic_ne, q_iload1, q_nop, q_sipush, q_invv2, q_istore2, q_ic_eq, q_vret, q_imul, q_iadd, q_istore3, q_iload3, q_iload2, q_iast, q_dup2, q_goto, q_ishl, q_ior, q_istore4, q_istore5, q_istore6, q_iload4, q_iload5, q_iload6, q_invv5, q_pop_i, q_pop_r, q_isub, q_invv3, L_0, L_1, L_2, L_3, L_4, L_7, L_10, L_12, L_46, L_99, L_999, k_some, k_none, pRm_i, pRm_r, pRm_0, pF_1, pF_2, inv_s, nN_le, nN_lt, nN_eq, nN_add, nN_mul, nN_lt0, nN_ge0, nN_gt0, nN_le0, nN_eq0, nN_eq1, nN_neN, pIn_n, pIx_n, eq_self, Nat.reduceLT, Bool.false_eq_true, Nat.add_zero, Nat.zero_add, Nat.reduceAdd, Nat.reduceMul, Nat.reduceSub, Nat.zero_le, Nat.reduceLeDiff, Nat.reduceEqDiff, Nat.le_refl, not_false_eq_true, not_true_eq_false, false_implies, true_implies, forall_const, true_and, and_true, if_true, if_false, implies_true, and_self, ne_eq, false_and, and_false, or_false, false_or, true_or, or_true]
      refine bw_mono (vb1 (r0 := .inl p) hM (by rw [hM.sh.k0]) hw.1 (fun q z => nomatch z)) ?_
      rintro o M3 ⟨h3, A3⟩
      refine ⟨?_, (A01.trans (A2.mono fun h k z => MdX_T h k (MdX_10 h k z))).trans A3⟩
      rw [show pTL (th uW n b) (nx9 n b) a p = .inl p from by unfold pTL; rw [if_pos (Or.inl ⟨c, c12⟩)]]
      exact h3
    · rw [pTL_v c (by omega) (by omega) (by omega)]
      simp (disch := omega) only [q_aload0, q_aload0N, q_invv0, inv_1, q_get_i, pTag_1, pRf_s, q_istore1, q_ldc_s, q_invv1, q_if_eq, q_get_r, q_iconst, q_iald, q_bipush, q_ic_ne, q_iload1, q_nop, q_sipush, q_invv2, q_istore2, q_ic_eq, q_vret, q_imul, q_iadd, q_istore3, q_iload3, q_iload2, q_iast, q_dup2, q_goto, q_ishl, q_ior, q_istore4, q_istore5, q_istore6, q_iload4, q_iload5, q_iload6, q_invv5, q_pop_i, q_pop_r, q_isub, q_invv3, L_0, L_1, L_2, L_3, L_4, L_7, L_10, L_12, L_46, L_99, L_999, k_some, k_none, pRm_i, pRm_r, pRm_0, pF_1, pF_2, inv_s, h1.sd.sh.k0, h1.sd.sh.k1, h1.sd.sh.p1, m1, c12, pIn_n, pIx_n, nN_le, nN_lt, nN_eq, nN_add, nN_mul, nN_lt0, nN_ge0, nN_gt0, nN_le0, nN_eq0, nN_eq1, nN_neN, pIn_n, pIx_n, eq_self, Nat.reduceLT, Bool.false_eq_true, Nat.add_zero, Nat.zero_add, Nat.reduceAdd, Nat.reduceMul, Nat.reduceSub, Nat.zero_le, Nat.reduceLeDiff, Nat.reduceEqDiff, Nat.le_refl, not_false_eq_true, not_true_eq_false, false_implies, true_implies, forall_const, true_and, and_true, if_true, if_false, implies_true, and_self, ne_eq, false_and, and_false, or_false, false_or, true_or, or_true]
      refine bw_mono (vb1 (r0 := .inr (nx9 n b p)) ⟨_, h1⟩ (by rw [h1.sd.sh.k0]) hw.1 (fun q z => by omega)) ?_
      rintro o M3 ⟨h3, A3⟩
      exact ⟨h3, A01.trans A3⟩
  · rw [if_neg c] at h1
    obtain ⟨rfl, h1⟩ := h1
    simp (disch := omega) only [q_aload0, q_aload0N, q_invv0, inv_1, q_get_i, pTag_1, pRf_s, q_istore1, q_ldc_s, q_invv1, q_if_eq, q_get_r, q_iconst, q_iald, q_bipush, q_ic_ne, q_iload1, q_nop, q_sipush, q_invv2, q_istore2, q_ic_eq, q_vret, q_imul, q_iadd, q_istore3, q_iload3, q_iload2, q_iast, q_dup2, q_goto, q_ishl, q_ior, q_istore4, q_istore5, q_istore6, q_iload4, q_iload5, q_iload6, q_invv5, q_pop_i, q_pop_r, q_isub, q_invv3, L_0, L_1, L_2, L_3, L_4, L_7, L_10, L_12, L_46, L_99, L_999, k_some, k_none, pRm_i, pRm_r, pRm_0, pF_1, pF_2, inv_s, h1.sd.sh.k0, nN_le, nN_lt, nN_eq, nN_add, nN_mul, nN_lt0, nN_ge0, nN_gt0, nN_le0, nN_eq0, nN_eq1, nN_neN, pIn_n, pIx_n, eq_self, Nat.reduceLT, Bool.false_eq_true, Nat.add_zero, Nat.zero_add, Nat.reduceAdd, Nat.reduceMul, Nat.reduceSub, Nat.zero_le, Nat.reduceLeDiff, Nat.reduceEqDiff, Nat.le_refl, not_false_eq_true, not_true_eq_false, false_implies, true_implies, forall_const, true_and, and_true, if_true, if_false, implies_true, and_self, ne_eq, false_and, and_false, or_false, false_or, true_or, or_true]
    have lift : ∀ {k M1 M2}, Ag (XTm u) M1 M2 → bw (d + 69) 68 k ([some (.ref u), some (.int (nN p)), none, none, none, none, none], [], M2) (fun o M' => MtL M' u n b a (pTL (th uW n b) (nx9 n b) a p) o ∧ Ag (XTm u) M2 M') → bw (d + 69) 68 k ([some (.ref u), some (.int (nN p)), none, none, none, none, none], [], M2) (fun o M' => MtL M' u n b a (pTL (th uW n b) (nx9 n b) a p) o ∧ Ag (XTm u) M1 M') := fun A h => bw_mono h fun o M' z => ⟨z.1, A.trans z.2⟩
    refine lift A01 (vb3 h1 hw hK fun M2 h2 A2 c1 => lift A2 (vb5 h2 hw hK fun M3 h3 A3 c2 => lift A3 (vb6 h3 hw hK fun M4 h4 A4 c3 => lift A4 (vb11 h4 hw hK fun M5 h5 A5 c4 => lift A5 (l13 h5 hw.1 fun M6 h6 A6 c5 => lift A6 ?_)))))
    refine l15 h6 hw.1 (fun k hk => ?_) fun M7 h7 A7 c6 => lift A7 (vb17 h7 hw hK fun M8 h8 A8 c7 => lift A8 (l20 h8 (by omega)))
    have : k = 0 ∨ k = 1 ∨ k = 2 ∨ k = 3 ∨ k = 4 ∨ k = 5 := by omega
    rcases this with rfl | rfl | rfl | rfl | rfl | rfl
    · exact c
    · exact c1
    · exact c2
    · exact c3
    · exact c4
    · exact c5
end MX9
