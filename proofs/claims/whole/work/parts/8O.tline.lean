/-! THE CLASS READS A LINE OF THE TOWN -/
def XN (S : Nat → Nat × Nat) (P : Nat → Nat → Option Nat) (h k : Nat) : Prop := X9 h k ∨ XTw S P 3 h k
def TnL (t n : Nat) (b : Nat → Nat) (r : pLn) (o : pOut) (M' : pMem) : Prop := match r with
  | .inl e => o = .inl (some (.int (nN 0))) ∧ gI M' 69 9 = nN e
  | .inr s => o = .inl (some (.int (nN 1))) ∧ TnS M' t n b s.1 s.2
def TnV (t n : Nat) (b : Nat → Nat) (p : Nat) (a : Nat → Int32) (o : pOut) (M' : pMem) : Prop := if (th uW n b p = 1000 ∧ nP a = 12) ∨ (th uW n b p = 1007 ∧ nE a = 12) ∨ th uW n b p < 1000 ∨ 1007 < th uW n b p then o = .inl (some (.int (nN 0))) ∧ gI M' 69 9 = nN p else o = .inl (some (.int (nN 1))) ∧ TnS M' t n b (nx9 n b p) a ∧ gI M' 69 11 = nN (th uW n b p)
section TLn
variable {d t n u q m c s p x y v k K lo f : Nat} {a a' ak : Nat → Int32} {b b' : Nat → Nat} {M M1 M2 M3 M' : pMem} {Q : pOut → pMem → Prop} {hi : Int32}
theorem TnS.tw (h : TnS M t n b p a) (A : Ag (XTw (gS M) (gP M) t) M M') (hr : Rep M' t a') (hG : Gk a a') : TnS M' t n b p a' := by
  have ht := h.ht
  have hx : ∀ h k, (h < 3 ∨ 25 ≤ h ∧ h ≤ 100) → ¬ XTw (gS M) (gP M) t h k := by
    rintro h k hh (z | ⟨q, ⟨z, -⟩, z2 | ⟨z2, -⟩⟩) <;> omega
  refine TnS.mk ht ?_ (by rw [A.S]; exact h.k) (by rw [A.P]; exact h.p10) hr ((h.tm.agA (A.mono (XTw_XA (by omega)))).tab (by unfold nT; rw [hG.2.1]) (fun k _ => txt_hi hG.1))
  refine h.rc.ag A (fun k => hx _ _ (by omega)) (fun k => hx _ _ (by omega)) (fun k => hx _ _ (by omega)) (hx _ _ (by omega)) ?_ ?_ h.rc.at9 ?_
  · rw [A.I (hx _ _ (by omega))]; exact h.rc.pl
  · rw [A.I (hx _ _ (by omega))]; exact h.rc.tg
  · rw [A.I (hx _ _ (by omega))]; exact h.rc.ft
def XV (h k : Nat) : Prop := h = 69 ∧ 6 ≤ k ∧ k ≠ 10
theorem t_verb (h : TnS M t n b p a) (hw : Wf a) : mw (d + 2) 243 [.ref 69] M (fun o M' => TnV t n b p a o M' ∧ Ag XV M M') := by
  have hp' := hw.p'
  have hn' := hw.n'
  have k0 := h.k
  have s := h.rp.sh
  have htl := h.rc.tl p
  have no : ∀ l1, (((th uW n b p = 1000 ∧ nP a = 12) ∨ (th uW n b p = 1007 ∧ nE a = 12) ∨ th uW n b p < 1000 ∨ 1007 < th uW n b p)) → bw (d + 1) 243 5 ([some (.ref 69), some (.int l1)], [], M) (fun o M' => TnV t n b p a o M' ∧ Ag XV M M') := by
    intro l1 hc
    rw [e_243_5]
    simp (disch := omega) only [q_aload0, q_aload0N, q_get_i, pTag_1, pRf_s, q_sipush, q_ic_ne, q_get_r, q_bipush, q_ic_ge, q_nop, q_ic_lt, q_iconst, q_goto, q_istore1, q_iload1, q_if_ne, q_ic_le, q_invv0, inv_1, q_zret, q_put_i, L_0, L_1, L_12, L_1000, L_1007, k_some, k_none, pRm_i, pRm_r, pRm_0, pF_1, pF_2, inv_s, k0, pF_2, nN_le, nN_lt, nN_eq, nN_add, nN_mul, nN_lt0, nN_ge0, nN_gt0, nN_le0, nN_eq0, nN_eq1, nN_neN, pIn_n, pIx_n, eq_self, Nat.reduceLT, Bool.false_eq_true, Nat.add_zero, Nat.zero_add, Nat.reduceAdd, Nat.reduceMul, Nat.reduceSub, Nat.zero_le, Nat.reduceLeDiff, Nat.reduceEqDiff, Nat.le_refl, not_false_eq_true, not_true_eq_false, false_implies, true_implies, forall_const, true_and, and_true, if_true, if_false, implies_true, and_self, ne_eq, false_and, and_false, or_false, false_or, true_or, or_true]
    refine mw_mono (t_wrong h) ?_
    rintro _ M1 ⟨⟨rfl, h1⟩, A1⟩
    simp (disch := omega) only [q_aload0, q_aload0N, q_get_i, pTag_1, pRf_s, q_sipush, q_ic_ne, q_get_r, q_bipush, q_ic_ge, q_nop, q_ic_lt, q_iconst, q_goto, q_istore1, q_iload1, q_if_ne, q_ic_le, q_invv0, inv_1, q_zret, q_put_i, L_0, L_1, L_12, L_1000, L_1007, k_some, k_none, pRm_i, pRm_r, pRm_0, pF_1, pF_2, inv_s, zb_0, nN_le, nN_lt, nN_eq, nN_add, nN_mul, nN_lt0, nN_ge0, nN_gt0, nN_le0, nN_eq0, nN_eq1, nN_neN, pIn_n, pIx_n, eq_self, Nat.reduceLT, Bool.false_eq_true, Nat.add_zero, Nat.zero_add, Nat.reduceAdd, Nat.reduceMul, Nat.reduceSub, Nat.zero_le, Nat.reduceLeDiff, Nat.reduceEqDiff, Nat.le_refl, not_false_eq_true, not_true_eq_false, false_implies, true_implies, forall_const, true_and, and_true, if_true, if_false, implies_true, and_self, ne_eq, false_and, and_false, or_false, false_or, true_or, or_true]
    exact ⟨by unfold TnV; rw [if_pos hc]; exact ⟨rfl, h1⟩, A1.mono fun h k z => ⟨z.1, by have := z.2; omega, by have := z.2; omega⟩⟩
  have b3 : ¬ ((th uW n b p = 1000 ∧ nP a = 12) ∨ (th uW n b p = 1007 ∧ nE a = 12)) → bw (d + 1) 243 3 ([some (.ref 69), none], [], M) (fun o M' => TnV t n b p a o M' ∧ Ag XV M M') := by
    intro hc
    rw [e_243_3]
    by_cases c1 : th uW n b p < 1000
    · simp (disch := omega) only [q_aload0, q_aload0N, q_get_i, pTag_1, pRf_s, q_sipush, q_ic_ne, q_get_r, q_bipush, q_ic_ge, q_nop, q_ic_lt, q_iconst, q_goto, q_istore1, q_iload1, q_if_ne, q_ic_le, q_invv0, inv_1, q_zret, q_put_i, e_243_4, L_0, L_1, L_12, L_1000, L_1007, k_some, k_none, pRm_i, pRm_r, pRm_0, pF_1, pF_2, inv_s, k0, h.rc.tg, c1, nN_le, nN_lt, nN_eq, nN_add, nN_mul, nN_lt0, nN_ge0, nN_gt0, nN_le0, nN_eq0, nN_eq1, nN_neN, pIn_n, pIx_n, eq_self, Nat.reduceLT, Bool.false_eq_true, Nat.add_zero, Nat.zero_add, Nat.reduceAdd, Nat.reduceMul, Nat.reduceSub, Nat.zero_le, Nat.reduceLeDiff, Nat.reduceEqDiff, Nat.le_refl, not_false_eq_true, not_true_eq_false, false_implies, true_implies, forall_const, true_and, and_true, if_true, if_false, implies_true, and_self, ne_eq, false_and, and_false, or_false, false_or, true_or, or_true]
      exact no _ (by omega)
    · by_cases c2 : th uW n b p ≤ 1007
      · have hno : ¬ ((th uW n b p = 1000 ∧ nP a = 12) ∨ (th uW n b p = 1007 ∧ nE a = 12) ∨ th uW n b p < 1000 ∨ 1007 < th uW n b p) := by omega
        have hp : p < n := (h.rc.lt (by omega)).1
        have A1 : Ag (fun h k => h = 69 ∧ k = 11) M (sI M 69 11 (nN (th uW n b p))) := Ag.one ⟨rfl, rfl⟩
        have h1 := h.sc A1 (fun h k z => ⟨z.1, by omega⟩)
        have k1 := h1.k
        simp (disch := omega) only [q_aload0, q_aload0N, q_get_i, pTag_1, pRf_s, q_sipush, q_ic_ne, q_get_r, q_bipush, q_ic_ge, q_nop, q_ic_lt, q_iconst, q_goto, q_istore1, q_iload1, q_if_ne, q_ic_le, q_invv0, inv_1, q_zret, q_put_i, e_243_4, e_243_6, L_0, L_1, L_12, L_1000, L_1007, k_some, k_none, pRm_i, pRm_r, pRm_0, pF_1, pF_2, inv_s, k0, k1, h.rc.tg, c1, c2, pF_2, nN_le, nN_lt, nN_eq, nN_add, nN_mul, nN_lt0, nN_ge0, nN_gt0, nN_le0, nN_eq0, nN_eq1, nN_neN, pIn_n, pIx_n, eq_self, Nat.reduceLT, Bool.false_eq_true, Nat.add_zero, Nat.zero_add, Nat.reduceAdd, Nat.reduceMul, Nat.reduceSub, Nat.zero_le, Nat.reduceLeDiff, Nat.reduceEqDiff, Nat.le_refl, not_false_eq_true, not_true_eq_false, false_implies, true_implies, forall_const, true_and, and_true, if_true, if_false, implies_true, and_self, ne_eq, false_and, and_false, or_false, false_or, true_or, or_true]
        refine mw_mono (t_step h1 hp) ?_
        rintro _ M2 ⟨rfl, h2, A2⟩
        simp (disch := omega) only [q_aload0, q_aload0N, q_get_i, pTag_1, pRf_s, q_sipush, q_ic_ne, q_get_r, q_bipush, q_ic_ge, q_nop, q_ic_lt, q_iconst, q_goto, q_istore1, q_iload1, q_if_ne, q_ic_le, q_invv0, inv_1, q_zret, q_put_i, L_0, L_1, L_12, L_1000, L_1007, k_some, k_none, pRm_i, pRm_r, pRm_0, pF_1, pF_2, inv_s, zb_1, nN_le, nN_lt, nN_eq, nN_add, nN_mul, nN_lt0, nN_ge0, nN_gt0, nN_le0, nN_eq0, nN_eq1, nN_neN, pIn_n, pIx_n, eq_self, Nat.reduceLT, Bool.false_eq_true, Nat.add_zero, Nat.zero_add, Nat.reduceAdd, Nat.reduceMul, Nat.reduceSub, Nat.zero_le, Nat.reduceLeDiff, Nat.reduceEqDiff, Nat.le_refl, not_false_eq_true, not_true_eq_false, false_implies, true_implies, forall_const, true_and, and_true, if_true, if_false, implies_true, and_self, ne_eq, false_and, and_false, or_false, false_or, true_or, or_true]
        exact ⟨by unfold TnV; rw [if_neg hno]; exact ⟨rfl, h2, by rw [A2.I (by rintro ⟨-, z⟩; omega), gI_sI, if_pos ⟨rfl, rfl⟩]⟩, (A1.mono fun h k z => ⟨z.1, by omega, by omega⟩).trans (A2.mono fun h k z => ⟨z.1, by have := z.2; omega, by have := z.2; omega⟩)⟩
      · simp (disch := omega) only [q_aload0, q_aload0N, q_get_i, pTag_1, pRf_s, q_sipush, q_ic_ne, q_get_r, q_bipush, q_ic_ge, q_nop, q_ic_lt, q_iconst, q_goto, q_istore1, q_iload1, q_if_ne, q_ic_le, q_invv0, inv_1, q_zret, q_put_i, e_243_4, L_0, L_1, L_12, L_1000, L_1007, k_some, k_none, pRm_i, pRm_r, pRm_0, pF_1, pF_2, inv_s, k0, h.rc.tg, c1, c2, nN_le, nN_lt, nN_eq, nN_add, nN_mul, nN_lt0, nN_ge0, nN_gt0, nN_le0, nN_eq0, nN_eq1, nN_neN, pIn_n, pIx_n, eq_self, Nat.reduceLT, Bool.false_eq_true, Nat.add_zero, Nat.zero_add, Nat.reduceAdd, Nat.reduceMul, Nat.reduceSub, Nat.zero_le, Nat.reduceLeDiff, Nat.reduceEqDiff, Nat.le_refl, not_false_eq_true, not_true_eq_false, false_implies, true_implies, forall_const, true_and, and_true, if_true, if_false, implies_true, and_self, ne_eq, false_and, and_false, or_false, false_or, true_or, or_true]
        exact no _ (by omega)
  have b2 : ((th uW n b p = 1000 ∧ nP a = 12) ∨ (th uW n b p = 1007 ∧ nE a = 12)) → bw (d + 1) 243 2 ([some (.ref 69), none], [], M) (fun o M' => TnV t n b p a o M' ∧ Ag XV M M') := by
    intro hc
    rw [e_243_2]
    simp (disch := omega) only [q_aload0, q_aload0N, q_get_i, pTag_1, pRf_s, q_sipush, q_ic_ne, q_get_r, q_bipush, q_ic_ge, q_nop, q_ic_lt, q_iconst, q_goto, q_istore1, q_iload1, q_if_ne, q_ic_le, q_invv0, inv_1, q_zret, q_put_i, e_243_4, L_0, L_1, L_12, L_1000, L_1007, k_some, k_none, pRm_i, pRm_r, pRm_0, pF_1, pF_2, inv_s, nN_le, nN_lt, nN_eq, nN_add, nN_mul, nN_lt0, nN_ge0, nN_gt0, nN_le0, nN_eq0, nN_eq1, nN_neN, pIn_n, pIx_n, eq_self, Nat.reduceLT, Bool.false_eq_true, Nat.add_zero, Nat.zero_add, Nat.reduceAdd, Nat.reduceMul, Nat.reduceSub, Nat.zero_le, Nat.reduceLeDiff, Nat.reduceEqDiff, Nat.le_refl, not_false_eq_true, not_true_eq_false, false_implies, true_implies, forall_const, true_and, and_true, if_true, if_false, implies_true, and_self, ne_eq, false_and, and_false, or_false, false_or, true_or, or_true]
    exact no _ (by omega)
  have b1 : ¬ (th uW n b p = 1000 ∧ nP a = 12) → bw (d + 1) 243 1 ([some (.ref 69), none], [], M) (fun o M' => TnV t n b p a o M' ∧ Ag XV M M') := by
    intro hc
    rw [e_243_1]
    by_cases c1 : th uW n b p = 1007
    · by_cases c2 : nE a < 12
      · simp (disch := omega) only [q_aload0, q_aload0N, q_get_i, pTag_1, pRf_s, q_sipush, q_ic_ne, q_get_r, q_bipush, q_ic_ge, q_nop, q_ic_lt, q_iconst, q_goto, q_istore1, q_iload1, q_if_ne, q_ic_le, q_invv0, inv_1, q_zret, q_put_i, L_0, L_1, L_12, L_1000, L_1007, k_some, k_none, pRm_i, pRm_r, pRm_0, pF_1, pF_2, inv_s, k0, h.rc.tg, h.p10, s.k0, h.rp.ne, hw.n, c1, c2, nN_le, nN_lt, nN_eq, nN_add, nN_mul, nN_lt0, nN_ge0, nN_gt0, nN_le0, nN_eq0, nN_eq1, nN_neN, pIn_n, pIx_n, eq_self, Nat.reduceLT, Bool.false_eq_true, Nat.add_zero, Nat.zero_add, Nat.reduceAdd, Nat.reduceMul, Nat.reduceSub, Nat.zero_le, Nat.reduceLeDiff, Nat.reduceEqDiff, Nat.le_refl, not_false_eq_true, not_true_eq_false, false_implies, true_implies, forall_const, true_and, and_true, if_true, if_false, implies_true, and_self, ne_eq, false_and, and_false, or_false, false_or, true_or, or_true]
        exact b3 (by omega)
      · simp (disch := omega) only [q_aload0, q_aload0N, q_get_i, pTag_1, pRf_s, q_sipush, q_ic_ne, q_get_r, q_bipush, q_ic_ge, q_nop, q_ic_lt, q_iconst, q_goto, q_istore1, q_iload1, q_if_ne, q_ic_le, q_invv0, inv_1, q_zret, q_put_i, L_0, L_1, L_12, L_1000, L_1007, k_some, k_none, pRm_i, pRm_r, pRm_0, pF_1, pF_2, inv_s, k0, h.rc.tg, h.p10, s.k0, h.rp.ne, hw.n, c1, c2, nN_le, nN_lt, nN_eq, nN_add, nN_mul, nN_lt0, nN_ge0, nN_gt0, nN_le0, nN_eq0, nN_eq1, nN_neN, pIn_n, pIx_n, eq_self, Nat.reduceLT, Bool.false_eq_true, Nat.add_zero, Nat.zero_add, Nat.reduceAdd, Nat.reduceMul, Nat.reduceSub, Nat.zero_le, Nat.reduceLeDiff, Nat.reduceEqDiff, Nat.le_refl, not_false_eq_true, not_true_eq_false, false_implies, true_implies, forall_const, true_and, and_true, if_true, if_false, implies_true, and_self, ne_eq, false_and, and_false, or_false, false_or, true_or, or_true]
        exact b2 (by omega)
    · simp (disch := omega) only [q_aload0, q_aload0N, q_get_i, pTag_1, pRf_s, q_sipush, q_ic_ne, q_get_r, q_bipush, q_ic_ge, q_nop, q_ic_lt, q_iconst, q_goto, q_istore1, q_iload1, q_if_ne, q_ic_le, q_invv0, inv_1, q_zret, q_put_i, L_0, L_1, L_12, L_1000, L_1007, k_some, k_none, pRm_i, pRm_r, pRm_0, pF_1, pF_2, inv_s, k0, h.rc.tg, c1, nN_le, nN_lt, nN_eq, nN_add, nN_mul, nN_lt0, nN_ge0, nN_gt0, nN_le0, nN_eq0, nN_eq1, nN_neN, pIn_n, pIx_n, eq_self, Nat.reduceLT, Bool.false_eq_true, Nat.add_zero, Nat.zero_add, Nat.reduceAdd, Nat.reduceMul, Nat.reduceSub, Nat.zero_le, Nat.reduceLeDiff, Nat.reduceEqDiff, Nat.le_refl, not_false_eq_true, not_true_eq_false, false_implies, true_implies, forall_const, true_and, and_true, if_true, if_false, implies_true, and_self, ne_eq, false_and, and_false, or_false, false_or, true_or, or_true]
      exact b3 (by omega)
  simp (disch := omega) only [m_243]
  rw [e_243_0]
  by_cases c1 : th uW n b p = 1000
  · by_cases c2 : 12 ≤ nP a
    · simp (disch := omega) only [q_aload0, q_aload0N, q_get_i, pTag_1, pRf_s, q_sipush, q_ic_ne, q_get_r, q_bipush, q_ic_ge, q_nop, q_ic_lt, q_iconst, q_goto, q_istore1, q_iload1, q_if_ne, q_ic_le, q_invv0, inv_1, q_zret, q_put_i, L_0, L_1, L_12, L_1000, L_1007, k_some, k_none, pRm_i, pRm_r, pRm_0, pF_1, pF_2, inv_s, k0, h.rc.tg, h.p10, s.k0, s.k1, s.k7, s.p0, s.p1, s.p2, s.p3, s.p4, s.p5, s.p6, s.p7, s.p8, s.q0, s.q1, s.q2, s.q3, s.q4, s.r0, s.r1, s.r2, s.r3, s.r4, s.r5, s.r6, h.rp.np, hw.p, c1, c2, nN_le, nN_lt, nN_eq, nN_add, nN_mul, nN_lt0, nN_ge0, nN_gt0, nN_le0, nN_eq0, nN_eq1, nN_neN, pIn_n, pIx_n, eq_self, Nat.reduceLT, Bool.false_eq_true, Nat.add_zero, Nat.zero_add, Nat.reduceAdd, Nat.reduceMul, Nat.reduceSub, Nat.zero_le, Nat.reduceLeDiff, Nat.reduceEqDiff, Nat.le_refl, not_false_eq_true, not_true_eq_false, false_implies, true_implies, forall_const, true_and, and_true, if_true, if_false, implies_true, and_self, ne_eq, false_and, and_false, or_false, false_or, true_or, or_true]
      exact b2 (by omega)
    · simp (disch := omega) only [q_aload0, q_aload0N, q_get_i, pTag_1, pRf_s, q_sipush, q_ic_ne, q_get_r, q_bipush, q_ic_ge, q_nop, q_ic_lt, q_iconst, q_goto, q_istore1, q_iload1, q_if_ne, q_ic_le, q_invv0, inv_1, q_zret, q_put_i, L_0, L_1, L_12, L_1000, L_1007, k_some, k_none, pRm_i, pRm_r, pRm_0, pF_1, pF_2, inv_s, k0, h.rc.tg, h.p10, s.k0, s.k1, s.k7, s.p0, s.p1, s.p2, s.p3, s.p4, s.p5, s.p6, s.p7, s.p8, s.q0, s.q1, s.q2, s.q3, s.q4, s.r0, s.r1, s.r2, s.r3, s.r4, s.r5, s.r6, h.rp.np, hw.p, c1, c2, nN_le, nN_lt, nN_eq, nN_add, nN_mul, nN_lt0, nN_ge0, nN_gt0, nN_le0, nN_eq0, nN_eq1, nN_neN, pIn_n, pIx_n, eq_self, Nat.reduceLT, Bool.false_eq_true, Nat.add_zero, Nat.zero_add, Nat.reduceAdd, Nat.reduceMul, Nat.reduceSub, Nat.zero_le, Nat.reduceLeDiff, Nat.reduceEqDiff, Nat.le_refl, not_false_eq_true, not_true_eq_false, false_implies, true_implies, forall_const, true_and, and_true, if_true, if_false, implies_true, and_self, ne_eq, false_and, and_false, or_false, false_or, true_or, or_true]
      exact b1 (by omega)
  · simp (disch := omega) only [q_aload0, q_aload0N, q_get_i, pTag_1, pRf_s, q_sipush, q_ic_ne, q_get_r, q_bipush, q_ic_ge, q_nop, q_ic_lt, q_iconst, q_goto, q_istore1, q_iload1, q_if_ne, q_ic_le, q_invv0, inv_1, q_zret, q_put_i, L_0, L_1, L_12, L_1000, L_1007, k_some, k_none, pRm_i, pRm_r, pRm_0, pF_1, pF_2, inv_s, k0, h.rc.tg, c1, nN_le, nN_lt, nN_eq, nN_add, nN_mul, nN_lt0, nN_ge0, nN_gt0, nN_le0, nN_eq0, nN_eq1, nN_neN, pIn_n, pIx_n, eq_self, Nat.reduceLT, Bool.false_eq_true, Nat.add_zero, Nat.zero_add, Nat.reduceAdd, Nat.reduceMul, Nat.reduceSub, Nat.zero_le, Nat.reduceLeDiff, Nat.reduceEqDiff, Nat.le_refl, not_false_eq_true, not_true_eq_false, false_implies, true_implies, forall_const, true_and, and_true, if_true, if_false, implies_true, and_self, ne_eq, false_and, and_false, or_false, false_or, true_or, or_true]
    exact b1 (by omega)
end TLn
