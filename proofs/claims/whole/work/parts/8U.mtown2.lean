/-! THE LAW'S MODEL READS A LINE OF THE TOWN: call, days, law, pass -/
def XTm (u h k : Nat) : Prop := h = u + 1 ∨ h = u + 5 ∨ (h = u ∧ ((9 ≤ k ∧ k ≤ 11) ∨ (14 ≤ k ∧ k ≤ 17)))
def MtL (M' : pMem) (u n : Nat) (b : Nat → Nat) (a : Nat → Int32) (r : pLn) (o : pOut) : Prop := o = .inl none ∧ match r with
  | .inl e => ∃ a', MfU M' u n b a' e ∧ ∀ j, 940 ≤ j → a' j = a j
  | .inr s => ∃ q, MdU M' u n b s.2 q s.1
/-- the rest of a line, from where it stands -/
noncomputable def pRs (n : Nat) (b : Nat → Nat) (a : Nat → Int32) (v : Nat) (r : Nat ⊕ Nat) : pLn := match r with
  | .inl e => .inl e
  | .inr q => match pAr (th uW n b) (nx9 n b) (nP a) (nF a) v q with
    | .inl e => .inl e
    | .inr s => .inr (s.1, sEx a v s.2)
section MV
variable {d n u p q k m c lo sr i e K : Nat} {b : Nat → Nat} {a a' : Nat → Int32} {M M1 M' : pMem} {Q : pOut → pMem → Prop} {x y but : Int32} {r : Nat ⊕ Nat} {l1 l2 l3 l4 l5 l6 l7 : Option Value}
theorem MdX_T : ∀ h k, MdX u h k → XTm u h k := fun h k z => Or.inr (Or.inr ⟨z.1, by have := z.2; omega⟩)
theorem X9_T : ∀ h k, (h = u ∧ k = 9) → XTm u h k := fun h k z => MdX_T h k (MdX_9 h k z)
theorem XMw_T : ∀ h k, XMw u h k → XTm u h k := by
  rintro h k ((z | ⟨z, z2⟩) | z)
  · exact Or.inr (Or.inl z)
  · exact Or.inr (Or.inr ⟨z, by omega⟩)
  · exact Or.inl z
theorem X1_w : ∀ h k, (h = u + 1) → XMw u h k := fun h k z => Or.inr z
theorem MdU.mr (h : MdU M u n b a q p) : MR M u a := ⟨h.sd.sh, h.tb⟩
theorem MdU.eff (h : MdU M u n b a q p) (A : Ag (XMw u) M M') (m : MR M' u a') : MdU M' u n b a' q p := by
  have nx : ∀ h k, (h = u ∧ 7 ≤ k ∧ k ≤ 10) ∨ h = u + 4 → ¬ XMw u h k := by
    rintro h k z ((z2 | ⟨z2, z3⟩) | z2) <;> omega
  have s := h.sd
  refine MdU.mk (MdS.mk m.1 (Or.inl ⟨?_, s.n9, fun k hk => ?_⟩) s.n9 s.b9 ?_ ?_ ?_ s.cl s.nq) ?_ (fun k hk => ?_) m.2
  · rw [A.I (nx _ _ (by omega))]; exact h.t7
  · rw [A.I (nx _ _ (by omega))]; exact h.tl k hk
  · rw [A.I (nx _ _ (by omega))]; exact s.en
  · rw [A.I (nx _ _ (by omega))]; exact s.ft
  · rw [A.I (nx _ _ (by omega))]; exact s.aq
  · rw [A.I (nx _ _ (by omega))]; exact h.t7
  · rw [A.I (nx _ _ (by omega))]; exact h.tl k hk
theorem MfU.eff (h : MfU M u n b a e) (A : Ag (fun h _ => h = u + 1) M M') (m : gI M' (u + 1) = a') : MfU M' u n b a' e := by
  obtain ⟨q9, z1, z2⟩ := h.at9
  refine MfU.mk (by rw [A.S, A.P]; exact h.sh) (by rw [A.I (by omega)]; exact h.t7) (fun k hk => by rw [A.I (by omega)]; exact h.tl k hk) h.n9 h.b9 (by rw [A.I (by omega)]; exact h.en) (by rw [A.I (by omega)]; exact h.ft) h.e9 ⟨q9, z1, by rw [A.I (by omega)]; exact z2⟩ m
theorem f21 (hA : Ag (XTm u) M M1) (h : match (r : Nat ⊕ Nat) with | _ => True) {rr : pLn} (hq : MtL M1 u n b a rr (.inl none)) {ls : pLo} : bw (d + 69) 68 21 (ls, [], M1) (fun o M' => MtL M' u n b a rr o ∧ Ag (XTm u) M M') := by
  rw [e_68_21]
  simp (disch := omega) only [q_aload0, q_aload0N, q_invv0, inv_1, q_get_i, pTag_1, pRf_s, q_istore1, q_ldc_s, q_invv1, q_if_eq, q_get_r, q_iconst, q_iald, q_bipush, q_ic_ne, q_iload1, q_nop, q_sipush, q_invv2, q_istore2, q_ic_eq, q_vret, q_imul, q_iadd, q_istore3, q_iload3, q_iload2, q_iast, q_dup2, q_goto, q_ishl, q_ior, q_istore4, q_istore5, q_istore6, q_iload4, q_iload5, q_iload6, q_invv5, q_pop_i, q_pop_r, q_isub, q_invv3, L_0, L_1, L_2, L_3, L_4, L_7, L_10, L_12, L_46, L_99, L_999, k_some, k_none, pRm_i, pRm_r, pRm_0, pF_1, pF_2, inv_s, nN_le, nN_lt, nN_eq, nN_add, nN_mul, nN_lt0, nN_ge0, nN_gt0, nN_le0, nN_eq0, nN_eq1, nN_neN, pIn_n, pIx_n, eq_self, Nat.reduceLT, Bool.false_eq_true, Nat.add_zero, Nat.zero_add, Nat.reduceAdd, Nat.reduceMul, Nat.reduceSub, Nat.zero_le, Nat.reduceLeDiff, Nat.reduceEqDiff, Nat.le_refl, not_false_eq_true, not_true_eq_false, false_implies, true_implies, forall_const, true_and, and_true, if_true, if_false, implies_true, and_self, ne_eq, false_and, and_false, or_false, false_or, true_or, or_true]
  exact ⟨hq, hA⟩
theorem l20 (h : MdU M u n b a p p) (hv : th uW n b p < 1000 ∨ 1007 < th uW n b p) : bw (d + 69) 68 20 ([some (.ref u), l2, l3, l4, l5, l6, l7], [], M) (fun o M' => MtL M' u n b a (pTL (th uW n b) (nx9 n b) a p) o ∧ Ag (XTm u) M M') := by
  have hn := h.sd.n9
  have hpn := h.sd.ple.2
  rw [e_68_20]
  simp (disch := omega) only [q_aload0, q_aload0N, q_invv0, inv_1, q_get_i, pTag_1, pRf_s, q_istore1, q_ldc_s, q_invv1, q_if_eq, q_get_r, q_iconst, q_iald, q_bipush, q_ic_ne, q_iload1, q_nop, q_sipush, q_invv2, q_istore2, q_ic_eq, q_vret, q_imul, q_iadd, q_istore3, q_iload3, q_iload2, q_iast, q_dup2, q_goto, q_ishl, q_ior, q_istore4, q_istore5, q_istore6, q_iload4, q_iload5, q_iload6, q_invv5, q_pop_i, q_pop_r, q_isub, q_invv3, L_0, L_1, L_2, L_3, L_4, L_7, L_10, L_12, L_46, L_99, L_999, k_some, k_none, pRm_i, pRm_r, pRm_0, pF_1, pF_2, inv_s, h.sd.sh.k0, h.sd.aq, nN_le, nN_lt, nN_eq, nN_add, nN_mul, nN_lt0, nN_ge0, nN_gt0, nN_le0, nN_eq0, nN_eq1, nN_neN, pIn_n, pIx_n, eq_self, Nat.reduceLT, Bool.false_eq_true, Nat.add_zero, Nat.zero_add, Nat.reduceAdd, Nat.reduceMul, Nat.reduceSub, Nat.zero_le, Nat.reduceLeDiff, Nat.reduceEqDiff, Nat.le_refl, not_false_eq_true, not_true_eq_false, false_implies, true_implies, forall_const, true_and, and_true, if_true, if_false, implies_true, and_self, ne_eq, false_and, and_false, or_false, false_or, true_or, or_true]
  refine mw_mono (w_wrongM h.sd.sh h.sd.ft) ?_
  rintro _ M2 ⟨rfl, h2, A2⟩
  simp (disch := omega) only [q_aload0, q_aload0N, q_invv0, inv_1, q_get_i, pTag_1, pRf_s, q_istore1, q_ldc_s, q_invv1, q_if_eq, q_get_r, q_iconst, q_iald, q_bipush, q_ic_ne, q_iload1, q_nop, q_sipush, q_invv2, q_istore2, q_ic_eq, q_vret, q_imul, q_iadd, q_istore3, q_iload3, q_iload2, q_iast, q_dup2, q_goto, q_ishl, q_ior, q_istore4, q_istore5, q_istore6, q_iload4, q_iload5, q_iload6, q_invv5, q_pop_i, q_pop_r, q_isub, q_invv3, L_0, L_1, L_2, L_3, L_4, L_7, L_10, L_12, L_46, L_99, L_999, k_some, k_none, pRm_i, pRm_r, pRm_0, pF_1, pF_2, inv_s, nN_le, nN_lt, nN_eq, nN_add, nN_mul, nN_lt0, nN_ge0, nN_gt0, nN_le0, nN_eq0, nN_eq1, nN_neN, pIn_n, pIx_n, eq_self, Nat.reduceLT, Bool.false_eq_true, Nat.add_zero, Nat.zero_add, Nat.reduceAdd, Nat.reduceMul, Nat.reduceSub, Nat.zero_le, Nat.reduceLeDiff, Nat.reduceEqDiff, Nat.le_refl, not_false_eq_true, not_true_eq_false, false_implies, true_implies, forall_const, true_and, and_true, if_true, if_false, implies_true, and_self, ne_eq, false_and, and_false, or_false, false_or, true_or, or_true]
  refine f21 (r := .inl 0) (A2.mono fun h k z => MdX_T h k (MdX_10 h k z)) trivial ⟨rfl, ?_⟩
  unfold pTL
  rw [if_pos (Or.inr (Or.inr hv))]
  exact ⟨a, h.bad A2 X10_U h2 (by omega) ⟨p, by omega, by rw [A2.I (by omega)]; exact h.sd.aq⟩, fun j _ => rfl⟩
/-- a verb that is there -/
theorem pTL_v (hv : th uW n b p = c) (h1 : c = 1000 → nP a ≠ 12) (h7 : c = 1007 → nE a ≠ 12) (hc : 1000 ≤ c ∧ c ≤ 1007) : pTL (th uW n b) (nx9 n b) a p = pRs n b a c (.inr (nx9 n b p)) := by
  unfold pTL pRs
  rw [hv, if_neg (by omega)]
  all_goals rfl
theorem pRs_inl {v : Nat} (h : pAr (th uW n b) (nx9 n b) (nP a) (nF a) v q = .inl e) : pRs n b a v (.inr q) = .inl e := by
  unfold pRs
  dsimp only
  rw [h]
theorem pRs_inr {v : Nat} {s : Nat × List Nat} (h : pAr (th uW n b) (nx9 n b) (nP a) (nF a) v q = .inr s) : pRs n b a v (.inr q) = .inr (s.1, sEx a v s.2) := by
  unfold pRs
  dsimp only
  rw [h]
theorem l15 (h : MdU M u n b a p p) (hw : Wf a) (hv : ∀ k, k < 6 → th uW n b p ≠ 1000 + k)
    (next : ∀ M1, MdU M1 u n b a p p → Ag (XTm u) M M1 → th uW n b p ≠ 1000 + 6 → bw (d + 69) 68 17 ([some (.ref u), l2, l3, l4, l5, l6, l7], [], M1) (fun o M' => MtL M' u n b a (pTL (th uW n b) (nx9 n b) a p) o ∧ Ag (XTm u) M M')) :
    bw (d + 69) 68 15 ([some (.ref u), l2, l3, l4, l5, l6, l7], [], M) (fun o M' => MtL M' u n b a (pTL (th uW n b) (nx9 n b) a p) o ∧ Ag (XTm u) M M') := by
  rw [e_68_15]
  simp (disch := omega) only [q_aload0, q_aload0N, q_invv0, inv_1, q_get_i, pTag_1, pRf_s, q_istore1, q_ldc_s, q_invv1, q_if_eq, q_get_r, q_iconst, q_iald, q_bipush, q_ic_ne, q_iload1, q_nop, q_sipush, q_invv2, q_istore2, q_ic_eq, q_vret, q_imul, q_iadd, q_istore3, q_iload3, q_iload2, q_iast, q_dup2, q_goto, q_ishl, q_ior, q_istore4, q_istore5, q_istore6, q_iload4, q_iload5, q_iload6, q_invv5, q_pop_i, q_pop_r, q_isub, q_invv3, L_0, L_1, L_2, L_3, L_4, L_7, L_10, L_12, L_46, L_99, L_999, k_some, k_none, pRm_i, pRm_r, pRm_0, pF_1, pF_2, inv_s, h.sd.sh.k0, nN_le, nN_lt, nN_eq, nN_add, nN_mul, nN_lt0, nN_ge0, nN_gt0, nN_le0, nN_eq0, nN_eq1, nN_neN, pIn_n, pIx_n, eq_self, Nat.reduceLT, Bool.false_eq_true, Nat.add_zero, Nat.zero_add, Nat.reduceAdd, Nat.reduceMul, Nat.reduceSub, Nat.zero_le, Nat.reduceLeDiff, Nat.reduceEqDiff, Nat.le_refl, not_false_eq_true, not_true_eq_false, false_implies, true_implies, forall_const, true_and, and_true, if_true, if_false, implies_true, and_self, ne_eq, false_and, and_false, or_false, false_or, true_or, or_true]
  refine mw_mono (hasU (i := 6) h (by omega) rfl) ?_
  rintro o M1 ⟨h1, A1⟩
  by_cases c : th uW n b p = 1000 + 6
  · rw [if_pos c] at h1
    obtain ⟨rfl, h1⟩ := h1
    rw [pTL_v c (by omega) (by omega) (by omega)]
    simp (disch := omega) only [q_aload0, q_aload0N, q_invv0, inv_1, q_get_i, pTag_1, pRf_s, q_istore1, q_ldc_s, q_invv1, q_if_eq, q_get_r, q_iconst, q_iald, q_bipush, q_ic_ne, q_iload1, q_nop, q_sipush, q_invv2, q_istore2, q_ic_eq, q_vret, q_imul, q_iadd, q_istore3, q_iload3, q_iload2, q_iast, q_dup2, q_goto, q_ishl, q_ior, q_istore4, q_istore5, q_istore6, q_iload4, q_iload5, q_iload6, q_invv5, q_pop_i, q_pop_r, q_isub, q_invv3, L_0, L_1, L_2, L_3, L_4, L_7, L_10, L_12, L_46, L_99, L_999, k_some, k_none, pRm_i, pRm_r, pRm_0, pF_1, pF_2, inv_s, h1.sd.sh.k0, nN_le, nN_lt, nN_eq, nN_add, nN_mul, nN_lt0, nN_ge0, nN_gt0, nN_le0, nN_eq0, nN_eq1, nN_neN, pIn_n, pIx_n, eq_self, Nat.reduceLT, Bool.false_eq_true, Nat.add_zero, Nat.zero_add, Nat.reduceAdd, Nat.reduceMul, Nat.reduceSub, Nat.zero_le, Nat.reduceLeDiff, Nat.reduceEqDiff, Nat.le_refl, not_false_eq_true, not_true_eq_false, false_implies, true_implies, forall_const, true_and, and_true, if_true, if_false, implies_true, and_self, ne_eq, false_and, and_false, or_false, false_or, true_or, or_true]
    refine mw_mono (u_figs (lo := 1) (c := 100) (r := .inr (nx9 n b p)) ⟨_, h1⟩ (by omega) nm99 (by omega)) ?_
    rintro o M2 ⟨v, rfl, h2, e2, A2⟩
    have A02 := (A1.mono X9_T).trans (A2.mono MdX_T)
    by_cases c1 : 1 ≤ th uW n b (nx9 n b p) ∧ th uW n b (nx9 n b p) < 100
    · simp only [bR, if_pos c1] at h2
      obtain ⟨q2, h2⟩ := h2
      have ev := e2 _ rfl c1
      have f := h2.sd.ft
      simp (disch := omega) only [q_aload0, q_aload0N, q_invv0, inv_1, q_get_i, pTag_1, pRf_s, q_istore1, q_ldc_s, q_invv1, q_if_eq, q_get_r, q_iconst, q_iald, q_bipush, q_ic_ne, q_iload1, q_nop, q_sipush, q_invv2, q_istore2, q_ic_eq, q_vret, q_imul, q_iadd, q_istore3, q_iload3, q_iload2, q_iast, q_dup2, q_goto, q_ishl, q_ior, q_istore4, q_istore5, q_istore6, q_iload4, q_iload5, q_iload6, q_invv5, q_pop_i, q_pop_r, q_isub, q_invv3, L_0, L_1, L_2, L_3, L_4, L_7, L_10, L_12, L_46, L_99, L_999, k_some, k_none, pRm_i, pRm_r, pRm_0, pF_1, pF_2, inv_s, h2.sd.sh.k0, f, ev, nN_le, nN_lt, nN_eq, nN_add, nN_mul, nN_lt0, nN_ge0, nN_gt0, nN_le0, nN_eq0, nN_eq1, nN_neN, pIn_n, pIx_n, eq_self, Nat.reduceLT, Bool.false_eq_true, Nat.add_zero, Nat.zero_add, Nat.reduceAdd, Nat.reduceMul, Nat.reduceSub, Nat.zero_le, Nat.reduceLeDiff, Nat.reduceEqDiff, Nat.le_refl, not_false_eq_true, not_true_eq_false, false_implies, true_implies, forall_const, true_and, and_true, if_true, if_false, implies_true, and_self, ne_eq, false_and, and_false, or_false, false_or, true_or, or_true]
      refine mw_mono (w_goOnM (n := nN (th uW n b (nx9 n b p))) h2.mr hw) ?_
      rintro _ M3 ⟨rfl, m3, A3⟩
      simp (disch := omega) only [q_aload0, q_aload0N, q_invv0, inv_1, q_get_i, pTag_1, pRf_s, q_istore1, q_ldc_s, q_invv1, q_if_eq, q_get_r, q_iconst, q_iald, q_bipush, q_ic_ne, q_iload1, q_nop, q_sipush, q_invv2, q_istore2, q_ic_eq, q_vret, q_imul, q_iadd, q_istore3, q_iload3, q_iload2, q_iast, q_dup2, q_goto, q_ishl, q_ior, q_istore4, q_istore5, q_istore6, q_iload4, q_iload5, q_iload6, q_invv5, q_pop_i, q_pop_r, q_isub, q_invv3, L_0, L_1, L_2, L_3, L_4, L_7, L_10, L_12, L_46, L_99, L_999, k_some, k_none, pRm_i, pRm_r, pRm_0, pF_1, pF_2, inv_s, nN_le, nN_lt, nN_eq, nN_add, nN_mul, nN_lt0, nN_ge0, nN_gt0, nN_le0, nN_eq0, nN_eq1, nN_neN, pIn_n, pIx_n, eq_self, Nat.reduceLT, Bool.false_eq_true, Nat.add_zero, Nat.zero_add, Nat.reduceAdd, Nat.reduceMul, Nat.reduceSub, Nat.zero_le, Nat.reduceLeDiff, Nat.reduceEqDiff, Nat.le_refl, not_false_eq_true, not_true_eq_false, false_implies, true_implies, forall_const, true_and, and_true, if_true, if_false, implies_true, and_self, ne_eq, false_and, and_false, or_false, false_or, true_or, or_true]
      rw [e_68_16]
      simp (disch := omega) only [q_aload0, q_aload0N, q_invv0, inv_1, q_get_i, pTag_1, pRf_s, q_istore1, q_ldc_s, q_invv1, q_if_eq, q_get_r, q_iconst, q_iald, q_bipush, q_ic_ne, q_iload1, q_nop, q_sipush, q_invv2, q_istore2, q_ic_eq, q_vret, q_imul, q_iadd, q_istore3, q_iload3, q_iload2, q_iast, q_dup2, q_goto, q_ishl, q_ior, q_istore4, q_istore5, q_istore6, q_iload4, q_iload5, q_iload6, q_invv5, q_pop_i, q_pop_r, q_isub, q_invv3, L_0, L_1, L_2, L_3, L_4, L_7, L_10, L_12, L_46, L_99, L_999, k_some, k_none, pRm_i, pRm_r, pRm_0, pF_1, pF_2, inv_s, nN_le, nN_lt, nN_eq, nN_add, nN_mul, nN_lt0, nN_ge0, nN_gt0, nN_le0, nN_eq0, nN_eq1, nN_neN, pIn_n, pIx_n, eq_self, Nat.reduceLT, Bool.false_eq_true, Nat.add_zero, Nat.zero_add, Nat.reduceAdd, Nat.reduceMul, Nat.reduceSub, Nat.zero_le, Nat.reduceLeDiff, Nat.reduceEqDiff, Nat.le_refl, not_false_eq_true, not_true_eq_false, false_implies, true_implies, forall_const, true_and, and_true, if_true, if_false, implies_true, and_self, ne_eq, false_and, and_false, or_false, false_or, true_or, or_true]
      refine f21 (r := .inl 0) (A02.trans (A3.mono XMw_T)) trivial ⟨rfl, ?_⟩
      rw [pRs_inr (v := 1000 + 6) (s := (nx9 n b (nx9 n b p), [th uW n b (nx9 n b p)])) (show (pnm (th uW n b) (nx9 n b) 1 100 (nx9 n b p) (fun x q => (.inr (q, [x]) : pAg)) : pAg) = _ from by rw [pnm, if_pos c1])]
      exact ⟨q2, h2.eff A3 m3⟩
    · simp only [bR, if_neg c1] at h2
      have h2 : MfU M2 u n b a (nx9 n b p) := h2
      have f := h2.ft
      have f2 := nN_ft h2.e9
      simp (disch := omega) only [q_aload0, q_aload0N, q_invv0, inv_1, q_get_i, pTag_1, pRf_s, q_istore1, q_ldc_s, q_invv1, q_if_eq, q_get_r, q_iconst, q_iald, q_bipush, q_ic_ne, q_iload1, q_nop, q_sipush, q_invv2, q_istore2, q_ic_eq, q_vret, q_imul, q_iadd, q_istore3, q_iload3, q_iload2, q_iast, q_dup2, q_goto, q_ishl, q_ior, q_istore4, q_istore5, q_istore6, q_iload4, q_iload5, q_iload6, q_invv5, q_pop_i, q_pop_r, q_isub, q_invv3, L_0, L_1, L_2, L_3, L_4, L_7, L_10, L_12, L_46, L_99, L_999, k_some, k_none, pRm_i, pRm_r, pRm_0, pF_1, pF_2, inv_s, h2.sh.k0, f, f2, nN_le, nN_lt, nN_eq, nN_add, nN_mul, nN_lt0, nN_ge0, nN_gt0, nN_le0, nN_eq0, nN_eq1, nN_neN, pIn_n, pIx_n, eq_self, Nat.reduceLT, Bool.false_eq_true, Nat.add_zero, Nat.zero_add, Nat.reduceAdd, Nat.reduceMul, Nat.reduceSub, Nat.zero_le, Nat.reduceLeDiff, Nat.reduceEqDiff, Nat.le_refl, not_false_eq_true, not_true_eq_false, false_implies, true_implies, forall_const, true_and, and_true, if_true, if_false, implies_true, and_self, ne_eq, false_and, and_false, or_false, false_or, true_or, or_true]
      rw [e_68_16]
      simp (disch := omega) only [q_aload0, q_aload0N, q_invv0, inv_1, q_get_i, pTag_1, pRf_s, q_istore1, q_ldc_s, q_invv1, q_if_eq, q_get_r, q_iconst, q_iald, q_bipush, q_ic_ne, q_iload1, q_nop, q_sipush, q_invv2, q_istore2, q_ic_eq, q_vret, q_imul, q_iadd, q_istore3, q_iload3, q_iload2, q_iast, q_dup2, q_goto, q_ishl, q_ior, q_istore4, q_istore5, q_istore6, q_iload4, q_iload5, q_iload6, q_invv5, q_pop_i, q_pop_r, q_isub, q_invv3, L_0, L_1, L_2, L_3, L_4, L_7, L_10, L_12, L_46, L_99, L_999, k_some, k_none, pRm_i, pRm_r, pRm_0, pF_1, pF_2, inv_s, nN_le, nN_lt, nN_eq, nN_add, nN_mul, nN_lt0, nN_ge0, nN_gt0, nN_le0, nN_eq0, nN_eq1, nN_neN, pIn_n, pIx_n, eq_self, Nat.reduceLT, Bool.false_eq_true, Nat.add_zero, Nat.zero_add, Nat.reduceAdd, Nat.reduceMul, Nat.reduceSub, Nat.zero_le, Nat.reduceLeDiff, Nat.reduceEqDiff, Nat.le_refl, not_false_eq_true, not_true_eq_false, false_implies, true_implies, forall_const, true_and, and_true, if_true, if_false, implies_true, and_self, ne_eq, false_and, and_false, or_false, false_or, true_or, or_true]
      refine f21 (r := .inl 0) A02 trivial ⟨rfl, ?_⟩
      rw [pRs_inl (v := 1000 + 6) (e := nx9 n b p) (show (pnm (th uW n b) (nx9 n b) 1 100 (nx9 n b p) (fun x q => (.inr (q, [x]) : pAg)) : pAg) = _ from by rw [pnm, if_neg c1])]
      exact ⟨a, h2, fun j _ => rfl⟩
  · rw [if_neg c] at h1
    obtain ⟨rfl, h1⟩ := h1
    simp (disch := omega) only [q_aload0, q_aload0N, q_invv0, inv_1, q_get_i, pTag_1, pRf_s, q_istore1, q_ldc_s, q_invv1, q_if_eq, q_get_r, q_iconst, q_iald, q_bipush, q_ic_ne, q_iload1, q_nop, q_sipush, q_invv2, q_istore2, q_ic_eq, q_vret, q_imul, q_iadd, q_istore3, q_iload3, q_iload2, q_iast, q_dup2, q_goto, q_ishl, q_ior, q_istore4, q_istore5, q_istore6, q_iload4, q_iload5, q_iload6, q_invv5, q_pop_i, q_pop_r, q_isub, q_invv3, L_0, L_1, L_2, L_3, L_4, L_7, L_10, L_12, L_46, L_99, L_999, k_some, k_none, pRm_i, pRm_r, pRm_0, pF_1, pF_2, inv_s, h1.sd.sh.k0, nN_le, nN_lt, nN_eq, nN_add, nN_mul, nN_lt0, nN_ge0, nN_gt0, nN_le0, nN_eq0, nN_eq1, nN_neN, pIn_n, pIx_n, eq_self, Nat.reduceLT, Bool.false_eq_true, Nat.add_zero, Nat.zero_add, Nat.reduceAdd, Nat.reduceMul, Nat.reduceSub, Nat.zero_le, Nat.reduceLeDiff, Nat.reduceEqDiff, Nat.le_refl, not_false_eq_true, not_true_eq_false, false_implies, true_implies, forall_const, true_and, and_true, if_true, if_false, implies_true, and_self, ne_eq, false_and, and_false, or_false, false_or, true_or, or_true]
    exact next M1 h1 (A1.mono X9_T) c
theorem l13 (h : MdU M u n b a p p) (hw : Wf a)
    (next : ∀ M1, MdU M1 u n b a p p → Ag (XTm u) M M1 → th uW n b p ≠ 1005 → bw (d + 69) 68 15 ([some (.ref u), l2, l3, l4, l5, l6, l7], [], M1) (fun o M' => MtL M' u n b a (pTL (th uW n b) (nx9 n b) a p) o ∧ Ag (XTm u) M M')) :
    bw (d + 69) 68 13 ([some (.ref u), l2, l3, l4, l5, l6, l7], [], M) (fun o M' => MtL M' u n b a (pTL (th uW n b) (nx9 n b) a p) o ∧ Ag (XTm u) M M') := by
  have hf' := hw.f'
  rw [e_68_13]
  simp (disch := omega) only [q_aload0, q_aload0N, q_invv0, inv_1, q_get_i, pTag_1, pRf_s, q_istore1, q_ldc_s, q_invv1, q_if_eq, q_get_r, q_iconst, q_iald, q_bipush, q_ic_ne, q_iload1, q_nop, q_sipush, q_invv2, q_istore2, q_ic_eq, q_vret, q_imul, q_iadd, q_istore3, q_iload3, q_iload2, q_iast, q_dup2, q_goto, q_ishl, q_ior, q_istore4, q_istore5, q_istore6, q_iload4, q_iload5, q_iload6, q_invv5, q_pop_i, q_pop_r, q_isub, q_invv3, L_0, L_1, L_2, L_3, L_4, L_7, L_10, L_12, L_46, L_99, L_999, k_some, k_none, pRm_i, pRm_r, pRm_0, pF_1, pF_2, inv_s, h.sd.sh.k0, nN_le, nN_lt, nN_eq, nN_add, nN_mul, nN_lt0, nN_ge0, nN_gt0, nN_le0, nN_eq0, nN_eq1, nN_neN, pIn_n, pIx_n, eq_self, Nat.reduceLT, Bool.false_eq_true, Nat.add_zero, Nat.zero_add, Nat.reduceAdd, Nat.reduceMul, Nat.reduceSub, Nat.zero_le, Nat.reduceLeDiff, Nat.reduceEqDiff, Nat.le_refl, not_false_eq_true, not_true_eq_false, false_implies, true_implies, forall_const, true_and, and_true, if_true, if_false, implies_true, and_self, ne_eq, false_and, and_false, or_false, false_or, true_or, or_true]
  refine mw_mono (hasU (i := 5) h (by omega) rfl) ?_
  rintro o M1 ⟨h1, A1⟩
  by_cases c : th uW n b p = 1000 + 5
  · rw [if_pos c] at h1
    obtain ⟨rfl, h1⟩ := h1
    rw [pTL_v c (by omega) (by omega) (by omega)]
    have m1 : gI M1 (u + 1) 3 = nN (nF a) := by rw [h1.tb]; exact hw.f
    simp (disch := omega) only [q_aload0, q_aload0N, q_invv0, inv_1, q_get_i, pTag_1, pRf_s, q_istore1, q_ldc_s, q_invv1, q_if_eq, q_get_r, q_iconst, q_iald, q_bipush, q_ic_ne, q_iload1, q_nop, q_sipush, q_invv2, q_istore2, q_ic_eq, q_vret, q_imul, q_iadd, q_istore3, q_iload3, q_iload2, q_iast, q_dup2, q_goto, q_ishl, q_ior, q_istore4, q_istore5, q_istore6, q_iload4, q_iload5, q_iload6, q_invv5, q_pop_i, q_pop_r, q_isub, q_invv3, L_0, L_1, L_2, L_3, L_4, L_7, L_10, L_12, L_46, L_99, L_999, k_some, k_none, pRm_i, pRm_r, pRm_0, pF_1, pF_2, inv_s, h1.sd.sh.k0, h1.sd.sh.k1, h1.sd.sh.p1, m1, pIn_n, pIx_n, eq_self, Nat.reduceLT, Bool.false_eq_true, Nat.add_zero, Nat.zero_add, Nat.reduceAdd, Nat.reduceMul, Nat.reduceSub, Nat.zero_le, Nat.reduceLeDiff, Nat.reduceEqDiff, Nat.le_refl, not_false_eq_true, not_true_eq_false, false_implies, true_implies, forall_const, true_and, and_true, if_true, if_false, implies_true, and_self, ne_eq, false_and, and_false, or_false, false_or, true_or, or_true]
    simp (disch := omega) only [nN_eq1, nN_eq0, eq_self, Nat.reduceLT, Bool.false_eq_true, Nat.add_zero, Nat.zero_add, Nat.reduceAdd, Nat.reduceMul, Nat.reduceSub, Nat.zero_le, Nat.reduceLeDiff, Nat.reduceEqDiff, Nat.le_refl, not_false_eq_true, not_true_eq_false, false_implies, true_implies, forall_const, true_and, and_true, if_true, if_false, implies_true, and_self, ne_eq, false_and, and_false, or_false, false_or, true_or, or_true]
    refine mw_mono (u_figs (lo := 0) (c := nF a) (r := .inr (nx9 n b p)) ⟨_, h1⟩ (by omega) (nm_le (by omega)) (by omega)) ?_
    rintro o M2 ⟨v, rfl, h2, e2, A2⟩
    have A02 := (A1.mono X9_T).trans (A2.mono MdX_T)
    by_cases c1 : 0 ≤ th uW n b (nx9 n b p) ∧ th uW n b (nx9 n b p) < nF a
    · simp only [bR, if_pos c1] at h2
      obtain ⟨q2, h2⟩ := h2
      have ev := e2 _ rfl c1
      have f := h2.sd.ft
      simp (disch := first | omega | rfl | (repeat' (first | exact gS_sI | exact gP_sI | refine Eq.trans gS_sI ?_ | refine Eq.trans gP_sI ?_ | refine Eq.trans (gIr_sI (by omega)) ?_ | rfl))) only [q_aload0, q_aload0N, q_invv0, inv_1, q_get_i, pTag_1, pRf_s, q_istore1, q_ldc_s, q_invv1, q_if_eq, q_get_r, q_iconst, q_iald, q_bipush, q_ic_ne, q_iload1, q_nop, q_sipush, q_invv2, q_istore2, q_ic_eq, q_vret, q_imul, q_iadd, q_istore3, q_iload3, q_iload2, q_iast, q_dup2, q_goto, q_ishl, q_ior, q_istore4, q_istore5, q_istore6, q_iload4, q_iload5, q_iload6, q_invv5, q_pop_i, q_pop_r, q_isub, q_invv3, L_0, L_1, L_2, L_3, L_4, L_7, L_10, L_12, L_46, L_99, L_999, k_some, k_none, pRm_i, pRm_r, pRm_0, pF_1, pF_2, inv_s, h2.sd.sh.k0, f, ev, w_setsX h2.mr, nN_le, nN_lt, nN_eq, nN_add, nN_mul, nN_lt0, nN_ge0, nN_gt0, nN_le0, nN_eq0, nN_eq1, nN_neN, pIn_n, pIx_n, eq_self, Nat.reduceLT, Bool.false_eq_true, Nat.add_zero, Nat.zero_add, Nat.reduceAdd, Nat.reduceMul, Nat.reduceSub, Nat.zero_le, Nat.reduceLeDiff, Nat.reduceEqDiff, Nat.le_refl, not_false_eq_true, not_true_eq_false, false_implies, true_implies, forall_const, true_and, and_true, if_true, if_false, implies_true, and_self, ne_eq, false_and, and_false, or_false, false_or, true_or, or_true]
      rw [e_68_14]
      simp (disch := omega) only [q_aload0, q_aload0N, q_invv0, inv_1, q_get_i, pTag_1, pRf_s, q_istore1, q_ldc_s, q_invv1, q_if_eq, q_get_r, q_iconst, q_iald, q_bipush, q_ic_ne, q_iload1, q_nop, q_sipush, q_invv2, q_istore2, q_ic_eq, q_vret, q_imul, q_iadd, q_istore3, q_iload3, q_iload2, q_iast, q_dup2, q_goto, q_ishl, q_ior, q_istore4, q_istore5, q_istore6, q_iload4, q_iload5, q_iload6, q_invv5, q_pop_i, q_pop_r, q_isub, q_invv3, L_0, L_1, L_2, L_3, L_4, L_7, L_10, L_12, L_46, L_99, L_999, k_some, k_none, pRm_i, pRm_r, pRm_0, pF_1, pF_2, inv_s, nN_le, nN_lt, nN_eq, nN_add, nN_mul, nN_lt0, nN_ge0, nN_gt0, nN_le0, nN_eq0, nN_eq1, nN_neN, pIn_n, pIx_n, eq_self, Nat.reduceLT, Bool.false_eq_true, Nat.add_zero, Nat.zero_add, Nat.reduceAdd, Nat.reduceMul, Nat.reduceSub, Nat.zero_le, Nat.reduceLeDiff, Nat.reduceEqDiff, Nat.le_refl, not_false_eq_true, not_true_eq_false, false_implies, true_implies, forall_const, true_and, and_true, if_true, if_false, implies_true, and_self, ne_eq, false_and, and_false, or_false, false_or, true_or, or_true]
      have A3 : Ag (XMw u) M2 (sI M2 (u + 1) (140 + 20 * th uW n b (nx9 n b p) + 2) (iN (-1))) := Ag.one (Or.inr rfl)
      refine f21 (r := .inl 0) (A02.trans (A3.mono XMw_T)) trivial ⟨rfl, ?_⟩
      rw [pRs_inr (v := 1000 + 5) (s := (nx9 n b (nx9 n b p), [th uW n b (nx9 n b p)])) (show (pnm (th uW n b) (nx9 n b) 0 (nF a) (nx9 n b p) (fun x q => (.inr (q, [x]) : pAg)) : pAg) = _ from by rw [pnm, if_pos c1])]
      exact ⟨q2, h2.eff A3 h2.mr.gone⟩
    · simp only [bR, if_neg c1] at h2
      have h2 : MfU M2 u n b a (nx9 n b p) := h2
      have f := h2.ft
      have f2 := nN_ft h2.e9
      simp (disch := omega) only [q_aload0, q_aload0N, q_invv0, inv_1, q_get_i, pTag_1, pRf_s, q_istore1, q_ldc_s, q_invv1, q_if_eq, q_get_r, q_iconst, q_iald, q_bipush, q_ic_ne, q_iload1, q_nop, q_sipush, q_invv2, q_istore2, q_ic_eq, q_vret, q_imul, q_iadd, q_istore3, q_iload3, q_iload2, q_iast, q_dup2, q_goto, q_ishl, q_ior, q_istore4, q_istore5, q_istore6, q_iload4, q_iload5, q_iload6, q_invv5, q_pop_i, q_pop_r, q_isub, q_invv3, L_0, L_1, L_2, L_3, L_4, L_7, L_10, L_12, L_46, L_99, L_999, k_some, k_none, pRm_i, pRm_r, pRm_0, pF_1, pF_2, inv_s, h2.sh.k0, f, f2, nN_le, nN_lt, nN_eq, nN_add, nN_mul, nN_lt0, nN_ge0, nN_gt0, nN_le0, nN_eq0, nN_eq1, nN_neN, pIn_n, pIx_n, eq_self, Nat.reduceLT, Bool.false_eq_true, Nat.add_zero, Nat.zero_add, Nat.reduceAdd, Nat.reduceMul, Nat.reduceSub, Nat.zero_le, Nat.reduceLeDiff, Nat.reduceEqDiff, Nat.le_refl, not_false_eq_true, not_true_eq_false, false_implies, true_implies, forall_const, true_and, and_true, if_true, if_false, implies_true, and_self, ne_eq, false_and, and_false, or_false, false_or, true_or, or_true]
      rw [e_68_14]
      simp (disch := omega) only [q_aload0, q_aload0N, q_invv0, inv_1, q_get_i, pTag_1, pRf_s, q_istore1, q_ldc_s, q_invv1, q_if_eq, q_get_r, q_iconst, q_iald, q_bipush, q_ic_ne, q_iload1, q_nop, q_sipush, q_invv2, q_istore2, q_ic_eq, q_vret, q_imul, q_iadd, q_istore3, q_iload3, q_iload2, q_iast, q_dup2, q_goto, q_ishl, q_ior, q_istore4, q_istore5, q_istore6, q_iload4, q_iload5, q_iload6, q_invv5, q_pop_i, q_pop_r, q_isub, q_invv3, L_0, L_1, L_2, L_3, L_4, L_7, L_10, L_12, L_46, L_99, L_999, k_some, k_none, pRm_i, pRm_r, pRm_0, pF_1, pF_2, inv_s, nN_le, nN_lt, nN_eq, nN_add, nN_mul, nN_lt0, nN_ge0, nN_gt0, nN_le0, nN_eq0, nN_eq1, nN_neN, pIn_n, pIx_n, eq_self, Nat.reduceLT, Bool.false_eq_true, Nat.add_zero, Nat.zero_add, Nat.reduceAdd, Nat.reduceMul, Nat.reduceSub, Nat.zero_le, Nat.reduceLeDiff, Nat.reduceEqDiff, Nat.le_refl, not_false_eq_true, not_true_eq_false, false_implies, true_implies, forall_const, true_and, and_true, if_true, if_false, implies_true, and_self, ne_eq, false_and, and_false, or_false, false_or, true_or, or_true]
      refine f21 (r := .inl 0) A02 trivial ⟨rfl, ?_⟩
      rw [pRs_inl (v := 1000 + 5) (e := nx9 n b p) (show (pnm (th uW n b) (nx9 n b) 0 (nF a) (nx9 n b p) (fun x q => (.inr (q, [x]) : pAg)) : pAg) = _ from by rw [pnm, if_neg c1])]
      exact ⟨a, h2, fun j _ => rfl⟩
  · rw [if_neg c] at h1
    obtain ⟨rfl, h1⟩ := h1
    simp (disch := omega) only [q_aload0, q_aload0N, q_invv0, inv_1, q_get_i, pTag_1, pRf_s, q_istore1, q_ldc_s, q_invv1, q_if_eq, q_get_r, q_iconst, q_iald, q_bipush, q_ic_ne, q_iload1, q_nop, q_sipush, q_invv2, q_istore2, q_ic_eq, q_vret, q_imul, q_iadd, q_istore3, q_iload3, q_iload2, q_iast, q_dup2, q_goto, q_ishl, q_ior, q_istore4, q_istore5, q_istore6, q_iload4, q_iload5, q_iload6, q_invv5, q_pop_i, q_pop_r, q_isub, q_invv3, L_0, L_1, L_2, L_3, L_4, L_7, L_10, L_12, L_46, L_99, L_999, k_some, k_none, pRm_i, pRm_r, pRm_0, pF_1, pF_2, inv_s, h1.sd.sh.k0, nN_le, nN_lt, nN_eq, nN_add, nN_mul, nN_lt0, nN_ge0, nN_gt0, nN_le0, nN_eq0, nN_eq1, nN_neN, pIn_n, pIx_n, eq_self, Nat.reduceLT, Bool.false_eq_true, Nat.add_zero, Nat.zero_add, Nat.reduceAdd, Nat.reduceMul, Nat.reduceSub, Nat.zero_le, Nat.reduceLeDiff, Nat.reduceEqDiff, Nat.le_refl, not_false_eq_true, not_true_eq_false, false_implies, true_implies, forall_const, true_and, and_true, if_true, if_false, implies_true, and_self, ne_eq, false_and, and_false, or_false, false_or, true_or, or_true]
    exact next M1 h1 (A1.mono X9_T) c
end MV
