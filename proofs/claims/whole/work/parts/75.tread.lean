/-! THE CLASS READS A TEMPER -/
def TpS (M : pMem) (R tr br tb sr cr n : Nat) (b : Nat → Nat) (W : List (List Nat)) (p : Nat) (cs : List Nat) : Prop := RdC M R tr br tb sr n b W p ∧ ((gS M R).1 = 8 ∧ gP M R 10 = some cr ∧ gS M cr = (100, 400)) ∧ (cr ≠ tr ∧ cr ≠ br ∧ cr ≠ tb ∧ cr ≠ R) ∧ (gI M R 11 = nN cs.length ∧ ∀ i, i < cs.length → gI M cr i = nN (cs.getD i 0))
def RdZ (R cr h k : Nat) : Prop := h = cr ∨ (h = R ∧ ((6 ≤ k ∧ k ≤ 9) ∨ k = 11))
def TpE (R tr br tb sr cr n : Nat) (b : Nat → Nat) (W : List (List Nat)) (cs : List Nat) (r : pZ) (o : pOut) (M' : pMem) : Prop := match r with
  | .inl e => o = .inl (some (.int (nN 0))) ∧ gI M' R 9 = nN e
  | .inr s => o = .inl (some (.int (nN 1))) ∧ TpS M' R tr br tb sr cr n b W s.1 (cs ++ s.2.1)
section TR
variable {d n R tr br tb sr cr p q k m c : Nat} {b : Nat → Nat} {W : List (List Nat)} {cs : List Nat} {M M1 M' : pMem} {Q : pOut → pMem → Prop} {x : Int32}
/-- what the reader's own steps leave of the code -/
theorem TpS.rd (h : TpS M R tr br tb sr cr n b W p cs) (A : Ag (RdY R) M M') (h2 : RdC M' R tr br tb sr n b W q) : TpS M' R tr br tb sr cr n b W q cs := by
  obtain ⟨-, ⟨a1, a2, a3⟩, a4, a5, a6⟩ := h
  refine ⟨h2, ⟨by rw [A.S]; exact a1, by rw [A.P]; exact a2, by rw [A.S]; exact a3⟩, a4, ?_, fun i hi => ?_⟩
  · rw [A.I (by rintro ⟨-, -, z⟩; omega)]; exact a5
  · rw [A.I (by rintro ⟨z, -⟩; exact a4.2.2.2 z)]; exact a6 i hi
theorem RdY_Z : ∀ h k, RdY R h k → RdZ R cr h k := fun h k z => Or.inr ⟨z.1, Or.inl z.2⟩
theorem w_emit (h : TpS M R tr br tb sr cr n b W p cs) (hl : cs.length < 400) : mw (d + 1) 214 [.ref R, .int (nN c)] M (fun o M' => o = .inl none ∧ TpS M' R tr br tb sr cr n b W p (cs ++ [c]) ∧ Ag (RdZ R cr) M M') := by
  have h0 := h
  obtain ⟨h1, ⟨a1, a2, a3⟩, ⟨a4, a5, a6, a7⟩, a8, a9⟩ := h
  have e400 : iN ((400 : Nat) : Int) = nN 400 := rfl
  have e1 : ¬ 400 ≤ cs.length := by omega
  have q7 : ¬ R = cr := fun z => a7 z.symm
  simp (disch := omega) only [m_214, q_aload0, q_aload0N, q_get_i, pTag_1, pRf_s, q_if_lt, q_get_r, q_alen, q_ic_ge, q_iload1, q_iast, q_dup_i, q_dup_r, q_iconst, q_iadd, q_put_i, q_nop, q_vret, e_214_0, e_214_1, L_1, a1, a2, a3, a8, e400, e1, hl, gS_sI, gP_sI, gI_sI, Nat.add_left_cancel_iff, Nat.add_eq_left, Nat.left_eq_add, nN_le, nN_lt, nN_eq, nN_add, nN_mul, nN_lt0, nN_ge0, nN_gt0, nN_le0, nN_eq0, nN_eq1, nN_neN, pIn_n, pIx_n, eq_self, Nat.reduceLT, Bool.false_eq_true, Nat.add_zero, Nat.zero_add, Nat.reduceAdd, Nat.reduceMul, Nat.reduceSub, Nat.zero_le, Nat.reduceLeDiff, Nat.reduceEqDiff, Nat.le_refl, not_false_eq_true, not_true_eq_false, false_implies, true_implies, forall_const, true_and, and_true, if_true, if_false, implies_true, and_self, ne_eq, false_and, and_false, or_false, false_or, true_or, or_true, a7, q7]
  have A : Ag (RdZ R cr) M (sI (sI M cr cs.length (nN c)) R 11 (nN (cs.length + 1))) := Ag.put (Ag.one (Or.inl rfl)) (Or.inr ⟨rfl, Or.inr rfl⟩)
  refine ⟨⟨h1.ag A ?_ ?_ ?_ ?_ ?_ ?_ h1.at9 (by rw [gI_sI, if_neg (by omega), gI_sI, if_neg (fun z => q7 z.1)]; exact h1.ft), ⟨a1, a2, a3⟩, ⟨a4, a5, a6, a7⟩, ?_, fun i hi => ?_⟩, A⟩
  · rintro k (z | ⟨z, -⟩)
    · exact a6 z.symm
    · exact h1.s9.n6 z.symm
  · rintro k (z | ⟨z, -⟩)
    · exact a4 z.symm
    · exact h1.s9.n4 z.symm
  · rintro k (z | ⟨z, -⟩)
    · exact a5 z.symm
    · exact h1.s9.n5 z.symm
  · rintro (z | ⟨-, z⟩)
    · exact a7 z.symm
    · omega
  · rw [gI_sI, if_neg (by omega), gI_sI, if_neg (fun z => q7 z.1)]; exact h1.pl
  · rw [gI_sI, if_neg (by omega), gI_sI, if_neg (fun z => q7 z.1)]; exact h1.tg
  · rw [gI_sI, if_pos ⟨rfl, rfl⟩, List.length_append, List.length_singleton]
  · rw [List.length_append, List.length_singleton] at hi
    rw [gI_sI, if_neg (fun z => a7 z.1), gI_sI]
    by_cases c9 : i = cs.length
    · subst c9
      rw [if_pos ⟨rfl, rfl⟩]
      simp
    · rw [if_neg (fun z => c9 z.2), a9 i (by omega), List.getD_eq_getElem?_getD, List.getD_eq_getElem?_getD, List.getElem?_append_left (by omega)]
theorem w_emitAny (a1 : (gS M R).1 = 8) (a2 : gP M R 10 = some cr) (a3 : gS M cr = (100, 400)) (a7 : cr ≠ R) : mw (d + 1) 214 [.ref R, .int x] M (fun o M' => o = .inl none ∧ Ag (fun h k => h = cr ∨ (h = R ∧ k = 11)) M M') := by
  have e400 : iN ((400 : Nat) : Int) = nN 400 := rfl
  have q7 : ¬ R = cr := fun z => a7 z.symm
  by_cases c1 : gI M R 11 < 0
  · simp (disch := omega) only [m_214, q_aload0, q_aload0N, q_get_i, pTag_1, pRf_s, q_if_lt, q_get_r, q_alen, q_ic_ge, q_iload1, q_iast, q_dup_i, q_dup_r, q_iconst, q_iadd, q_put_i, q_nop, q_vret, e_214_0, e_214_1, L_1, a1, a2, a3, c1, eq_self, Nat.reduceLT, Bool.false_eq_true, Nat.add_zero, Nat.zero_add, Nat.reduceAdd, Nat.reduceMul, Nat.reduceSub, Nat.zero_le, Nat.reduceLeDiff, Nat.reduceEqDiff, Nat.le_refl, not_false_eq_true, not_true_eq_false, false_implies, true_implies, forall_const, true_and, and_true, if_true, if_false, implies_true, and_self, ne_eq, false_and, and_false, or_false, false_or, true_or, or_true]
    exact Ag.rfl
  · by_cases c2 : nN 400 ≤ gI M R 11
    · simp (disch := omega) only [m_214, q_aload0, q_aload0N, q_get_i, pTag_1, pRf_s, q_if_lt, q_get_r, q_alen, q_ic_ge, q_iload1, q_iast, q_dup_i, q_dup_r, q_iconst, q_iadd, q_put_i, q_nop, q_vret, e_214_0, e_214_1, L_1, a1, a2, a3, c1, c2, e400, eq_self, Nat.reduceLT, Bool.false_eq_true, Nat.add_zero, Nat.zero_add, Nat.reduceAdd, Nat.reduceMul, Nat.reduceSub, Nat.zero_le, Nat.reduceLeDiff, Nat.reduceEqDiff, Nat.le_refl, not_false_eq_true, not_true_eq_false, false_implies, true_implies, forall_const, true_and, and_true, if_true, if_false, implies_true, and_self, ne_eq, false_and, and_false, or_false, false_or, true_or, or_true]
      exact Ag.rfl
    · have e : pIn (gI M R 11) 400 = true := by
        obtain ⟨v, hv, e⟩ := iN_ex (gI M R 11)
        rw [e] at c1 c2 ⊢
        rw [pIn_iN hv]
        rw [iN_lt0 hv] at c1
        have : ¬ (400 : Int) ≤ v := fun z => c2 ((iN_le (sm_n (a := 400) (by omega)) hv).mpr z)
        omega
      simp (disch := omega) only [m_214, q_aload0, q_aload0N, q_get_i, pTag_1, pRf_s, q_if_lt, q_get_r, q_alen, q_ic_ge, q_iload1, q_iast, q_dup_i, q_dup_r, q_iconst, q_iadd, q_put_i, q_nop, q_vret, e_214_0, e_214_1, L_1, a1, a2, a3, c1, c2, e400, e, gS_sI, gP_sI, gI_sI, Nat.add_left_cancel_iff, Nat.add_eq_left, Nat.left_eq_add, eq_self, Nat.reduceLT, Bool.false_eq_true, Nat.add_zero, Nat.zero_add, Nat.reduceAdd, Nat.reduceMul, Nat.reduceSub, Nat.zero_le, Nat.reduceLeDiff, Nat.reduceEqDiff, Nat.le_refl, not_false_eq_true, not_true_eq_false, false_implies, true_implies, forall_const, true_and, and_true, if_true, if_false, implies_true, and_self, ne_eq, false_and, and_false, or_false, false_or, true_or, or_true, q7]
      exact Ag.put (Ag.one (Or.inl rfl)) (Or.inr ⟨rfl, rfl⟩)
theorem w_stepT (h : TpS M R tr br tb sr cr n b W p cs) (hp : p < n) : mw (d + 1) 186 [.ref R] M (fun o M' => o = .inl none ∧ TpS M' R tr br tb sr cr n b W (nx9 n b p) cs ∧ Ag (RdZ R cr) M M') := by
  refine mw_mono (w_step h.1 hp) ?_
  rintro _ M1 ⟨rfl, h1, A1⟩
  have A2 : Ag (RdY R) M M1 := A1.mono fun h k z => ⟨z.1, by omega, by omega⟩
  exact ⟨rfl, h.rd A2 h1, A2.mono RdY_Z⟩
theorem w_wrongT (h : TpS M R tr br tb sr cr n b W p cs) : mw (d + 1) 189 [.ref R] M (fun o M' => (o = .inl (some (.int (nN 0))) ∧ gI M' R 9 = nN p) ∧ Ag (RdZ R cr) M M') := by
  refine mw_mono (w_wrongC h.1) ?_
  rintro _ M1 ⟨rfl, h1, A1⟩
  exact ⟨⟨rfl, h1⟩, A1.mono fun h k z => Or.inr ⟨z.1, Or.inl (by omega)⟩⟩
theorem w_sumHead {l2 : Option Value} (h : TpS M R tr br tb sr cr n b W q cs) (hk : k < 400) (hroom : cs.length + (if k = 0 then 0 else 1) ≤ q)
    (hfail : 1005 < th W n b q → ∀ M', gI M' R 9 = nN q → Ag (RdZ R cr) M M' → Q (.inl (some (.int (nN 0)))) M')
    (hok : th W n b q ≤ 1005 → ∀ M' l2, TpS M' R tr br tb sr cr n b W (nx9 n b q) (cs ++ [th W n b q] ++ (if k = 0 then [] else [2043])) → Ag (RdZ R cr) M M' → bw (d + 2) 213 6 ([some (.ref R), some (.int (nN k)), l2], [], M') Q) :
    bw (d + 2) 213 1 ([some (.ref R), some (.int (nN k)), l2], [], M) Q := by
  have hk8 := h.2.1.1
  have htl := h.1.tl q
  have hn := h.1.n9
  have e400 : ¬ 400 ≤ k := by omega
  have ok5 : ∀ x2, th W n b q ≤ 1005 → bw (d + 2) 213 5 ([some (.ref R), some (.int (nN k)), some (.int x2)], [], M) Q := fun x2 ht => by
    have hp := (h.1.lt (by omega)).1
    have hx := At_nx (b := b) hp
    rw [e_213_5]
    simp (disch := omega) only [q_iconst, q_istore1, q_nop, q_iload1, q_sipush, q_ic_ge, q_aload0, q_aload0N, q_get_i, pTag_1, pRf_s, q_ic_gt, q_goto, q_istore2, q_iload2, q_if_ne, q_ic_lt, q_ic_le, q_invv0, inv_1, q_zret, q_invv1, q_if_le, q_ic_eq, q_iinc1, e_213_0, L_0, L_1, L_400, L_999, L_1000, L_1005, L_2043, k_some, k_none, pRm_i, pRm_r, pRm_0, pF_1, pF_2, inv_s, hk8, h.1.tg, nN_le, nN_lt, nN_eq, nN_add, nN_mul, nN_lt0, nN_ge0, nN_gt0, nN_le0, nN_eq0, nN_eq1, nN_neN, pIn_n, pIx_n, eq_self, Nat.reduceLT, Bool.false_eq_true, Nat.add_zero, Nat.zero_add, Nat.reduceAdd, Nat.reduceMul, Nat.reduceSub, Nat.zero_le, Nat.reduceLeDiff, Nat.reduceEqDiff, Nat.le_refl, not_false_eq_true, not_true_eq_false, false_implies, true_implies, forall_const, true_and, and_true, if_true, if_false, implies_true, and_self, ne_eq, false_and, and_false, or_false, false_or, true_or, or_true]
    refine mw_mono (w_emit h (by omega)) ?_
    rintro _ M1 ⟨rfl, h1, A1⟩
    have hk81 := h1.2.1.1
    simp (disch := omega) only [q_iconst, q_istore1, q_nop, q_iload1, q_sipush, q_ic_ge, q_aload0, q_aload0N, q_get_i, pTag_1, pRf_s, q_ic_gt, q_goto, q_istore2, q_iload2, q_if_ne, q_ic_lt, q_ic_le, q_invv0, inv_1, q_zret, q_invv1, q_if_le, q_ic_eq, q_iinc1, e_213_0, L_0, L_1, L_400, L_999, L_1000, L_1005, L_2043, k_some, k_none, pRm_i, pRm_r, pRm_0, pF_1, pF_2, inv_s, hk81, nN_le, nN_lt, nN_eq, nN_add, nN_mul, nN_lt0, nN_ge0, nN_gt0, nN_le0, nN_eq0, nN_eq1, nN_neN, pIn_n, pIx_n, eq_self, Nat.reduceLT, Bool.false_eq_true, Nat.add_zero, Nat.zero_add, Nat.reduceAdd, Nat.reduceMul, Nat.reduceSub, Nat.zero_le, Nat.reduceLeDiff, Nat.reduceEqDiff, Nat.le_refl, not_false_eq_true, not_true_eq_false, false_implies, true_implies, forall_const, true_and, and_true, if_true, if_false, implies_true, and_self, ne_eq, false_and, and_false, or_false, false_or, true_or, or_true]
    refine mw_mono (w_stepT h1 hp) ?_
    rintro _ M2 ⟨rfl, h2, A2⟩
    have hk82 := h2.2.1.1
    by_cases c0 : k = 0
    · subst c0
      simp (disch := omega) only [q_iconst, q_istore1, q_nop, q_iload1, q_sipush, q_ic_ge, q_aload0, q_aload0N, q_get_i, pTag_1, pRf_s, q_ic_gt, q_goto, q_istore2, q_iload2, q_if_ne, q_ic_lt, q_ic_le, q_invv0, inv_1, q_zret, q_invv1, q_if_le, q_ic_eq, q_iinc1, e_213_0, L_0, L_1, L_400, L_999, L_1000, L_1005, L_2043, k_some, k_none, pRm_i, pRm_r, pRm_0, pF_1, pF_2, inv_s, hk82, nN_le, nN_lt, nN_eq, nN_add, nN_mul, nN_lt0, nN_ge0, nN_gt0, nN_le0, nN_eq0, nN_eq1, nN_neN, pIn_n, pIx_n, eq_self, Nat.reduceLT, Bool.false_eq_true, Nat.add_zero, Nat.zero_add, Nat.reduceAdd, Nat.reduceMul, Nat.reduceSub, Nat.zero_le, Nat.reduceLeDiff, Nat.reduceEqDiff, Nat.le_refl, not_false_eq_true, not_true_eq_false, false_implies, true_implies, forall_const, true_and, and_true, if_true, if_false, implies_true, and_self, ne_eq, false_and, and_false, or_false, false_or, true_or, or_true]
      exact hok ht M2 _ (by rw [if_pos rfl, List.append_nil]; exact h2) (A1.trans A2)
    · simp (disch := omega) only [q_iconst, q_istore1, q_nop, q_iload1, q_sipush, q_ic_ge, q_aload0, q_aload0N, q_get_i, pTag_1, pRf_s, q_ic_gt, q_goto, q_istore2, q_iload2, q_if_ne, q_ic_lt, q_ic_le, q_invv0, inv_1, q_zret, q_invv1, q_if_le, q_ic_eq, q_iinc1, e_213_0, L_0, L_1, L_400, L_999, L_1000, L_1005, L_2043, k_some, k_none, pRm_i, pRm_r, pRm_0, pF_1, pF_2, inv_s, hk82, c0, nN_le, nN_lt, nN_eq, nN_add, nN_mul, nN_lt0, nN_ge0, nN_gt0, nN_le0, nN_eq0, nN_eq1, nN_neN, pIn_n, pIx_n, eq_self, Nat.reduceLT, Bool.false_eq_true, Nat.add_zero, Nat.zero_add, Nat.reduceAdd, Nat.reduceMul, Nat.reduceSub, Nat.zero_le, Nat.reduceLeDiff, Nat.reduceEqDiff, Nat.le_refl, not_false_eq_true, not_true_eq_false, false_implies, true_implies, forall_const, true_and, and_true, if_true, if_false, implies_true, and_self, ne_eq, false_and, and_false, or_false, false_or, true_or, or_true]
      refine mw_mono (w_emit h2 (by rw [List.length_append, List.length_singleton]; rw [if_neg c0] at hroom; omega)) ?_
      rintro _ M3 ⟨rfl, h3, A3⟩
      simp (disch := omega) only [q_iconst, q_istore1, q_nop, q_iload1, q_sipush, q_ic_ge, q_aload0, q_aload0N, q_get_i, pTag_1, pRf_s, q_ic_gt, q_goto, q_istore2, q_iload2, q_if_ne, q_ic_lt, q_ic_le, q_invv0, inv_1, q_zret, q_invv1, q_if_le, q_ic_eq, q_iinc1, e_213_0, L_0, L_1, L_400, L_999, L_1000, L_1005, L_2043, k_some, k_none, pRm_i, pRm_r, pRm_0, pF_1, pF_2, inv_s, eq_self, Nat.reduceLT, Bool.false_eq_true, Nat.add_zero, Nat.zero_add, Nat.reduceAdd, Nat.reduceMul, Nat.reduceSub, Nat.zero_le, Nat.reduceLeDiff, Nat.reduceEqDiff, Nat.le_refl, not_false_eq_true, not_true_eq_false, false_implies, true_implies, forall_const, true_and, and_true, if_true, if_false, implies_true, and_self, ne_eq, false_and, and_false, or_false, false_or, true_or, or_true]
      exact hok ht M3 _ (by rw [if_neg c0]; exact h3) ((A1.trans A2).trans A3)
  have no4 : ∀ x2, 1005 < th W n b q → bw (d + 2) 213 4 ([some (.ref R), some (.int (nN k)), some (.int x2)], [], M) Q := fun x2 ht => by
    rw [e_213_4]
    simp (disch := omega) only [q_iconst, q_istore1, q_nop, q_iload1, q_sipush, q_ic_ge, q_aload0, q_aload0N, q_get_i, pTag_1, pRf_s, q_ic_gt, q_goto, q_istore2, q_iload2, q_if_ne, q_ic_lt, q_ic_le, q_invv0, inv_1, q_zret, q_invv1, q_if_le, q_ic_eq, q_iinc1, e_213_0, L_0, L_1, L_400, L_999, L_1000, L_1005, L_2043, k_some, k_none, pRm_i, pRm_r, pRm_0, pF_1, pF_2, inv_s, hk8, nN_le, nN_lt, nN_eq, nN_add, nN_mul, nN_lt0, nN_ge0, nN_gt0, nN_le0, nN_eq0, nN_eq1, nN_neN, pIn_n, pIx_n, eq_self, Nat.reduceLT, Bool.false_eq_true, Nat.add_zero, Nat.zero_add, Nat.reduceAdd, Nat.reduceMul, Nat.reduceSub, Nat.zero_le, Nat.reduceLeDiff, Nat.reduceEqDiff, Nat.le_refl, not_false_eq_true, not_true_eq_false, false_implies, true_implies, forall_const, true_and, and_true, if_true, if_false, implies_true, and_self, ne_eq, false_and, and_false, or_false, false_or, true_or, or_true]
    refine mw_mono (w_wrongT h) ?_
    rintro _ M1 ⟨⟨rfl, h1⟩, A1⟩
    simp (disch := omega) only [q_iconst, q_istore1, q_nop, q_iload1, q_sipush, q_ic_ge, q_aload0, q_aload0N, q_get_i, pTag_1, pRf_s, q_ic_gt, q_goto, q_istore2, q_iload2, q_if_ne, q_ic_lt, q_ic_le, q_invv0, inv_1, q_zret, q_invv1, q_if_le, q_ic_eq, q_iinc1, e_213_0, L_0, L_1, L_400, L_999, L_1000, L_1005, L_2043, k_some, k_none, pRm_i, pRm_r, pRm_0, pF_1, pF_2, inv_s, zb_0, eq_self, Nat.reduceLT, Bool.false_eq_true, Nat.add_zero, Nat.zero_add, Nat.reduceAdd, Nat.reduceMul, Nat.reduceSub, Nat.zero_le, Nat.reduceLeDiff, Nat.reduceEqDiff, Nat.le_refl, not_false_eq_true, not_true_eq_false, false_implies, true_implies, forall_const, true_and, and_true, if_true, if_false, implies_true, and_self, ne_eq, false_and, and_false, or_false, false_or, true_or, or_true]
    exact hfail ht M1 h1 A1
  rw [e_213_1]
  by_cases c1 : th W n b q ≤ 999
  · have c2 : ¬ 999 < th W n b q := by omega
    simp (disch := omega) only [q_iconst, q_istore1, q_nop, q_iload1, q_sipush, q_ic_ge, q_aload0, q_aload0N, q_get_i, pTag_1, pRf_s, q_ic_gt, q_goto, q_istore2, q_iload2, q_if_ne, q_ic_lt, q_ic_le, q_invv0, inv_1, q_zret, q_invv1, q_if_le, q_ic_eq, q_iinc1, e_213_0, e_213_3, L_0, L_1, L_400, L_999, L_1000, L_1005, L_2043, k_some, k_none, pRm_i, pRm_r, pRm_0, pF_1, pF_2, inv_s, hk8, h.1.tg, e400, c2, nN_le, nN_lt, nN_eq, nN_add, nN_mul, nN_lt0, nN_ge0, nN_gt0, nN_le0, nN_eq0, nN_eq1, nN_neN, pIn_n, pIx_n, eq_self, Nat.reduceLT, Bool.false_eq_true, Nat.add_zero, Nat.zero_add, Nat.reduceAdd, Nat.reduceMul, Nat.reduceSub, Nat.zero_le, Nat.reduceLeDiff, Nat.reduceEqDiff, Nat.le_refl, not_false_eq_true, not_true_eq_false, false_implies, true_implies, forall_const, true_and, and_true, if_true, if_false, implies_true, and_self, ne_eq, false_and, and_false, or_false, false_or, true_or, or_true]
    exact ok5 _ (by omega)
  · have c2 : 999 < th W n b q := by omega
    have c3 : ¬ th W n b q < 1000 := by omega
    by_cases c4 : th W n b q ≤ 1005
    · simp (disch := omega) only [q_iconst, q_istore1, q_nop, q_iload1, q_sipush, q_ic_ge, q_aload0, q_aload0N, q_get_i, pTag_1, pRf_s, q_ic_gt, q_goto, q_istore2, q_iload2, q_if_ne, q_ic_lt, q_ic_le, q_invv0, inv_1, q_zret, q_invv1, q_if_le, q_ic_eq, q_iinc1, e_213_0, e_213_2, e_213_3, L_0, L_1, L_400, L_999, L_1000, L_1005, L_2043, k_some, k_none, pRm_i, pRm_r, pRm_0, pF_1, pF_2, inv_s, hk8, h.1.tg, e400, c2, c3, c4, nN_le, nN_lt, nN_eq, nN_add, nN_mul, nN_lt0, nN_ge0, nN_gt0, nN_le0, nN_eq0, nN_eq1, nN_neN, pIn_n, pIx_n, eq_self, Nat.reduceLT, Bool.false_eq_true, Nat.add_zero, Nat.zero_add, Nat.reduceAdd, Nat.reduceMul, Nat.reduceSub, Nat.zero_le, Nat.reduceLeDiff, Nat.reduceEqDiff, Nat.le_refl, not_false_eq_true, not_true_eq_false, false_implies, true_implies, forall_const, true_and, and_true, if_true, if_false, implies_true, and_self, ne_eq, false_and, and_false, or_false, false_or, true_or, or_true]
      exact ok5 _ c4
    · simp (disch := omega) only [q_iconst, q_istore1, q_nop, q_iload1, q_sipush, q_ic_ge, q_aload0, q_aload0N, q_get_i, pTag_1, pRf_s, q_ic_gt, q_goto, q_istore2, q_iload2, q_if_ne, q_ic_lt, q_ic_le, q_invv0, inv_1, q_zret, q_invv1, q_if_le, q_ic_eq, q_iinc1, e_213_0, e_213_2, e_213_3, L_0, L_1, L_400, L_999, L_1000, L_1005, L_2043, k_some, k_none, pRm_i, pRm_r, pRm_0, pF_1, pF_2, inv_s, hk8, h.1.tg, e400, c2, c3, c4, nN_le, nN_lt, nN_eq, nN_add, nN_mul, nN_lt0, nN_ge0, nN_gt0, nN_le0, nN_eq0, nN_eq1, nN_neN, pIn_n, pIx_n, eq_self, Nat.reduceLT, Bool.false_eq_true, Nat.add_zero, Nat.zero_add, Nat.reduceAdd, Nat.reduceMul, Nat.reduceSub, Nat.zero_le, Nat.reduceLeDiff, Nat.reduceEqDiff, Nat.le_refl, not_false_eq_true, not_true_eq_false, false_implies, true_implies, forall_const, true_and, and_true, if_true, if_false, implies_true, and_self, ne_eq, false_and, and_false, or_false, false_or, true_or, or_true]
      exact no4 _ (by omega)
theorem w_sumC (h : TpS M R tr br tb sr cr n b W q cs) (hroom : cs.length ≤ q) : mw (d + 3) 213 [.ref R] M (fun o M' => TpE R tr br tb sr cr n b W cs (pSum (th W n b) (nx9 n b) 400 q) o M' ∧ Ag (RdZ R cr) M M') := by
  have hn := h.1.n9
  have hqn := h.1.le
  have key : ∀ (j k : Nat) (s : pY) (M1 : pMem) (l2 : Option Value), k + j = 400 → k < s.1 → s.1 ≤ n → TpS M1 R tr br tb sr cr n b W s.1 (cs ++ s.2.1) → (cs ++ s.2.1).length ≤ s.1 → Ag (RdZ R cr) M M1 →
      bw (d + 2) 213 6 ([some (.ref R), some (.int (nN k)), l2], [], M1) (fun o M' => TpE R tr br tb sr cr n b W cs (pCh (th W n b) (nx9 n b) (pPart (th W n b) (nx9 n b)) 2043 j s) o M' ∧ Ag (RdZ R cr) M M') := by
    intro j
    induction j with
    | zero => intro k s M1 l2 hk h1 h2; omega
    | succ j ih =>
      intro k s M1 l2 hk h1 h2 h3 h4 A1
      have hk8 := h3.2.1.1
      have htl := h3.1.tl s.1
      unfold pCh
      rw [e_213_6]
      by_cases c1 : th W n b s.1 = 2043
      · rw [if_pos c1]
        have hp := (h3.1.lt (by omega)).1
        have hx := At_nx (b := b) hp
        simp (disch := omega) only [q_iconst, q_istore1, q_nop, q_iload1, q_sipush, q_ic_ge, q_aload0, q_aload0N, q_get_i, pTag_1, pRf_s, q_ic_gt, q_goto, q_istore2, q_iload2, q_if_ne, q_ic_lt, q_ic_le, q_invv0, inv_1, q_zret, q_invv1, q_if_le, q_ic_eq, q_iinc1, e_213_0, e_213_7, L_0, L_1, L_400, L_999, L_1000, L_1005, L_2043, k_some, k_none, pRm_i, pRm_r, pRm_0, pF_1, pF_2, inv_s, hk8, h3.1.tg, c1, nN_le, nN_lt, nN_eq, nN_add, nN_mul, nN_lt0, nN_ge0, nN_gt0, nN_le0, nN_eq0, nN_eq1, nN_neN, pIn_n, pIx_n, eq_self, Nat.reduceLT, Bool.false_eq_true, Nat.add_zero, Nat.zero_add, Nat.reduceAdd, Nat.reduceMul, Nat.reduceSub, Nat.zero_le, Nat.reduceLeDiff, Nat.reduceEqDiff, Nat.le_refl, not_false_eq_true, not_true_eq_false, false_implies, true_implies, forall_const, true_and, and_true, if_true, if_false, implies_true, and_self, ne_eq, false_and, and_false, or_false, false_or, true_or, or_true]
        refine mw_mono (w_stepT h3 hp) ?_
        rintro _ M2 ⟨rfl, h5, A2⟩
        simp (disch := omega) only [q_iconst, q_istore1, q_nop, q_iload1, q_sipush, q_ic_ge, q_aload0, q_aload0N, q_get_i, pTag_1, pRf_s, q_ic_gt, q_goto, q_istore2, q_iload2, q_if_ne, q_ic_lt, q_ic_le, q_invv0, inv_1, q_zret, q_invv1, q_if_le, q_ic_eq, q_iinc1, e_213_0, L_0, L_1, L_400, L_999, L_1000, L_1005, L_2043, k_some, k_none, pRm_i, pRm_r, pRm_0, pF_1, pF_2, inv_s, nN_le, nN_lt, nN_eq, nN_add, nN_mul, nN_lt0, nN_ge0, nN_gt0, nN_le0, nN_eq0, nN_eq1, nN_neN, pIn_n, pIx_n, eq_self, Nat.reduceLT, Bool.false_eq_true, Nat.add_zero, Nat.zero_add, Nat.reduceAdd, Nat.reduceMul, Nat.reduceSub, Nat.zero_le, Nat.reduceLeDiff, Nat.reduceEqDiff, Nat.le_refl, not_false_eq_true, not_true_eq_false, false_implies, true_implies, forall_const, true_and, and_true, if_true, if_false, implies_true, and_self, ne_eq, false_and, and_false, or_false, false_or, true_or, or_true]
        refine w_sumHead (q := nx9 n b s.1) h5 (by omega) (by rw [if_neg (by omega)]; omega) ?_ ?_
        · intro ht M3 h6 A3
          have e : pPart (th W n b) (nx9 n b) (nx9 n b s.1) = .inl (nx9 n b s.1) := by unfold pPart; rw [if_neg (by omega), if_neg (by omega)]
          rw [e]
          exact ⟨⟨rfl, h6⟩, (A1.trans A2).trans A3⟩
        · intro ht M3 l2 h6 A3
          rw [if_neg (by omega)] at h6
          have hp2 := (h5.1.lt (by omega)).1
          have hx2 := At_nx (b := b) hp2
          by_cases c9 : th W n b (nx9 n b s.1) ≤ 999
          · have e : pPart (th W n b) (nx9 n b) (nx9 n b s.1) = .inr (nx9 n b (nx9 n b s.1), [th W n b (nx9 n b s.1)], fun _ => nN (th W n b (nx9 n b s.1))) := by unfold pPart; rw [if_pos c9]
            rw [e]
            refine ih (k + 1) _ M3 l2 (by omega) (by show k + 1 < nx9 n b (nx9 n b s.1); omega) (by show nx9 n b (nx9 n b s.1) ≤ n; omega) ?_ ?_ ((A1.trans A2).trans A3)
            · rw [List.append_assoc, List.append_assoc] at h6
              show TpS M3 R tr br tb sr cr n b W (nx9 n b (nx9 n b s.1)) (cs ++ (s.2.1 ++ [th W n b (nx9 n b s.1)] ++ [2043]))
              rw [List.append_assoc]
              exact h6
            · show (cs ++ (s.2.1 ++ [th W n b (nx9 n b s.1)] ++ [2043])).length ≤ nx9 n b (nx9 n b s.1)
              simp only [List.length_append, List.length_singleton] at h4 ⊢
              omega
          · have e : pPart (th W n b) (nx9 n b) (nx9 n b s.1) = .inr (nx9 n b (nx9 n b s.1), [th W n b (nx9 n b s.1)], fun fv => fv (th W n b (nx9 n b s.1) - 1000)) := by unfold pPart; rw [if_neg c9, if_pos ht]
            rw [e]
            refine ih (k + 1) _ M3 l2 (by omega) (by show k + 1 < nx9 n b (nx9 n b s.1); omega) (by show nx9 n b (nx9 n b s.1) ≤ n; omega) ?_ ?_ ((A1.trans A2).trans A3)
            · rw [List.append_assoc, List.append_assoc] at h6
              show TpS M3 R tr br tb sr cr n b W (nx9 n b (nx9 n b s.1)) (cs ++ (s.2.1 ++ [th W n b (nx9 n b s.1)] ++ [2043]))
              rw [List.append_assoc]
              exact h6
            · show (cs ++ (s.2.1 ++ [th W n b (nx9 n b s.1)] ++ [2043])).length ≤ nx9 n b (nx9 n b s.1)
              simp only [List.length_append, List.length_singleton] at h4 ⊢
              omega
      · rw [if_neg c1]
        simp (disch := omega) only [q_iconst, q_istore1, q_nop, q_iload1, q_sipush, q_ic_ge, q_aload0, q_aload0N, q_get_i, pTag_1, pRf_s, q_ic_gt, q_goto, q_istore2, q_iload2, q_if_ne, q_ic_lt, q_ic_le, q_invv0, inv_1, q_zret, q_invv1, q_if_le, q_ic_eq, q_iinc1, e_213_0, L_0, L_1, L_400, L_999, L_1000, L_1005, L_2043, k_some, k_none, pRm_i, pRm_r, pRm_0, pF_1, pF_2, inv_s, hk8, h3.1.tg, c1, zb_1, nN_le, nN_lt, nN_eq, nN_add, nN_mul, nN_lt0, nN_ge0, nN_gt0, nN_le0, nN_eq0, nN_eq1, nN_neN, pIn_n, pIx_n, eq_self, Nat.reduceLT, Bool.false_eq_true, Nat.add_zero, Nat.zero_add, Nat.reduceAdd, Nat.reduceMul, Nat.reduceSub, Nat.zero_le, Nat.reduceLeDiff, Nat.reduceEqDiff, Nat.le_refl, not_false_eq_true, not_true_eq_false, false_implies, true_implies, forall_const, true_and, and_true, if_true, if_false, implies_true, and_self, ne_eq, false_and, and_false, or_false, false_or, true_or, or_true]
        exact ⟨⟨rfl, h3⟩, A1⟩
  simp (disch := omega) only [m_213, q_iconst, q_istore1, q_nop, q_iload1, q_sipush, q_ic_ge, q_aload0, q_aload0N, q_get_i, pTag_1, pRf_s, q_ic_gt, q_goto, q_istore2, q_iload2, q_if_ne, q_ic_lt, q_ic_le, q_invv0, inv_1, q_zret, q_invv1, q_if_le, q_ic_eq, q_iinc1, e_213_0, L_0, L_1, L_400, L_999, L_1000, L_1005, L_2043, k_some, k_none, pRm_i, pRm_r, pRm_0, pF_1, pF_2, inv_s, eq_self, Nat.reduceLT, Bool.false_eq_true, Nat.add_zero, Nat.zero_add, Nat.reduceAdd, Nat.reduceMul, Nat.reduceSub, Nat.zero_le, Nat.reduceLeDiff, Nat.reduceEqDiff, Nat.le_refl, not_false_eq_true, not_true_eq_false, false_implies, true_implies, forall_const, true_and, and_true, if_true, if_false, implies_true, and_self, ne_eq, false_and, and_false, or_false, false_or, true_or, or_true]
  refine w_sumHead h (by omega) (by rw [if_pos rfl]; omega) ?_ ?_
  · intro ht M3 h6 A3
    have e : pPart (th W n b) (nx9 n b) q = .inl q := by unfold pPart; rw [if_neg (by omega), if_neg (by omega)]
    unfold pSum pThen
    rw [e]
    exact ⟨⟨rfl, h6⟩, A3⟩
  · intro ht M3 l2 h6 A3
    rw [if_pos rfl, List.append_nil] at h6
    have hp2 := (h.1.lt (by omega)).1
    have hx2 := At_nx (b := b) hp2
    unfold pSum pThen
    by_cases c9 : th W n b q ≤ 999
    · have e : pPart (th W n b) (nx9 n b) q = .inr (nx9 n b q, [th W n b q], fun _ => nN (th W n b q)) := by unfold pPart; rw [if_pos c9]
      rw [e]
      exact key 400 0 _ M3 l2 (by omega) (by show 0 < nx9 n b q; omega) (by show nx9 n b q ≤ n; omega) h6 (by show (cs ++ [th W n b q]).length ≤ nx9 n b q; simp only [List.length_append, List.length_singleton]; omega) A3
    · have e : pPart (th W n b) (nx9 n b) q = .inr (nx9 n b q, [th W n b q], fun fv => fv (th W n b q - 1000)) := by unfold pPart; rw [if_neg c9, if_pos ht]
      rw [e]
      exact key 400 0 _ M3 l2 (by omega) (by show 0 < nx9 n b q; omega) (by show nx9 n b q ≤ n; omega) h6 (by show (cs ++ [th W n b q]).length ≤ nx9 n b q; simp only [List.length_append, List.length_singleton]; omega) A3
end TR
