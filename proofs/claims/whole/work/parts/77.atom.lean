/-! THE CLASS READS ATOMS, LINES, TEXTS -/
section TD
variable {d n R tr br tb sr cr p q k m c K : Nat} {b : Nat → Nat} {W : List (List Nat)} {cs : List Nat} {M M1 M' : pMem} {Q : pOut → pMem → Prop} {x dp : Int32} {atm : Nat → pZ}
/-- an atom that is plain: block 8 -/
theorem w_plainC {y x1 : Int32} (h : TpS M R tr br tb sr cr n b W q cs) (hl : cs.length ≤ q) : bw (d + 6) 210 8 ([some (.ref R), some (.int x1), some (.int y)], [], M) (fun o M' => TpE R tr br tb sr cr n b W cs (pPlain (th W n b) (nx9 n b) 400 q) o M' ∧ Ag (RdZ R cr) M M') := by
  have hk8 := h.2.1.1
  have htl := h.1.tl q
  have hn := h.1.n9
  have comp : ¬ (1006 ≤ th W n b q ∧ th W n b q ≤ 1008) → bw (d + 6) 210 9 ([some (.ref R), some (.int x1), some (.int y)], [], M) (fun o M' => TpE R tr br tb sr cr n b W cs (pPlain (th W n b) (nx9 n b) 400 q) o M' ∧ Ag (RdZ R cr) M M') := by
    intro hc
    unfold pPlain
    rw [if_neg hc, e_210_9]
    simp (disch := omega) only [q_aload0, q_aload0N, q_get_i, pTag_1, pRf_s, q_sipush, q_ic_ne, q_iconst, q_goto, q_nop, q_istore2, q_iload2, q_if_ne, q_iload1, q_bipush, q_ic_lt, q_invv0, inv_1, q_zret, q_if_eq, q_iadd, q_invv1, q_ic_le, e_210_0, L_0, L_1, L_6, L_1006, L_1008, L_1012, L_2040, L_2041, k_some, k_none, pRm_i, pRm_r, pRm_0, pF_1, pF_2, inv_s, hk8, nN_le, nN_lt, nN_eq, nN_add, nN_mul, nN_lt0, nN_ge0, nN_gt0, nN_le0, nN_eq0, nN_eq1, nN_neN, pIn_n, pIx_n, eq_self, Nat.reduceLT, Bool.false_eq_true, Nat.add_zero, Nat.zero_add, Nat.reduceAdd, Nat.reduceMul, Nat.reduceSub, Nat.zero_le, Nat.reduceLeDiff, Nat.reduceEqDiff, Nat.le_refl, not_false_eq_true, not_true_eq_false, false_implies, true_implies, forall_const, true_and, and_true, if_true, if_false, implies_true, and_self, ne_eq, false_and, and_false, or_false, false_or, true_or, or_true]
    refine mw_mono (w_compC (d := d + 1) h hl) ?_
    rintro o M2 ⟨h3, A2⟩
    cases hs : pComp (th W n b) (nx9 n b) 400 q with
    | inl e =>
      rw [hs] at h3
      obtain ⟨rfl, h4⟩ := h3
      simp (disch := omega) only [q_aload0, q_aload0N, q_get_i, pTag_1, pRf_s, q_sipush, q_ic_ne, q_iconst, q_goto, q_nop, q_istore2, q_iload2, q_if_ne, q_iload1, q_bipush, q_ic_lt, q_invv0, inv_1, q_zret, q_if_eq, q_iadd, q_invv1, q_ic_le, e_210_0, L_0, L_1, L_6, L_1006, L_1008, L_1012, L_2040, L_2041, k_some, k_none, pRm_i, pRm_r, pRm_0, pF_1, pF_2, inv_s, zb_0, nN_le, nN_lt, nN_eq, nN_add, nN_mul, nN_lt0, nN_ge0, nN_gt0, nN_le0, nN_eq0, nN_eq1, nN_neN, pIn_n, pIx_n, eq_self, Nat.reduceLT, Bool.false_eq_true, Nat.add_zero, Nat.zero_add, Nat.reduceAdd, Nat.reduceMul, Nat.reduceSub, Nat.zero_le, Nat.reduceLeDiff, Nat.reduceEqDiff, Nat.le_refl, not_false_eq_true, not_true_eq_false, false_implies, true_implies, forall_const, true_and, and_true, if_true, if_false, implies_true, and_self, ne_eq, false_and, and_false, or_false, false_or, true_or, or_true]
      exact ⟨⟨rfl, h4⟩, A2⟩
    | inr s =>
      rw [hs] at h3
      obtain ⟨rfl, h4⟩ := h3
      simp (disch := omega) only [q_aload0, q_aload0N, q_get_i, pTag_1, pRf_s, q_sipush, q_ic_ne, q_iconst, q_goto, q_nop, q_istore2, q_iload2, q_if_ne, q_iload1, q_bipush, q_ic_lt, q_invv0, inv_1, q_zret, q_if_eq, q_iadd, q_invv1, q_ic_le, e_210_0, L_0, L_1, L_6, L_1006, L_1008, L_1012, L_2040, L_2041, k_some, k_none, pRm_i, pRm_r, pRm_0, pF_1, pF_2, inv_s, zb_1, nN_le, nN_lt, nN_eq, nN_add, nN_mul, nN_lt0, nN_ge0, nN_gt0, nN_le0, nN_eq0, nN_eq1, nN_neN, pIn_n, pIx_n, eq_self, Nat.reduceLT, Bool.false_eq_true, Nat.add_zero, Nat.zero_add, Nat.reduceAdd, Nat.reduceMul, Nat.reduceSub, Nat.zero_le, Nat.reduceLeDiff, Nat.reduceEqDiff, Nat.le_refl, not_false_eq_true, not_true_eq_false, false_implies, true_implies, forall_const, true_and, and_true, if_true, if_false, implies_true, and_self, ne_eq, false_and, and_false, or_false, false_or, true_or, or_true]
      exact ⟨⟨rfl, h4⟩, A2⟩
  rw [e_210_8]
  by_cases c1 : th W n b q < 1006
  · simp (disch := omega) only [q_aload0, q_aload0N, q_get_i, pTag_1, pRf_s, q_sipush, q_ic_ne, q_iconst, q_goto, q_nop, q_istore2, q_iload2, q_if_ne, q_iload1, q_bipush, q_ic_lt, q_invv0, inv_1, q_zret, q_if_eq, q_iadd, q_invv1, q_ic_le, e_210_0, L_0, L_1, L_6, L_1006, L_1008, L_1012, L_2040, L_2041, k_some, k_none, pRm_i, pRm_r, pRm_0, pF_1, pF_2, inv_s, hk8, h.1.tg, c1, nN_le, nN_lt, nN_eq, nN_add, nN_mul, nN_lt0, nN_ge0, nN_gt0, nN_le0, nN_eq0, nN_eq1, nN_neN, pIn_n, pIx_n, eq_self, Nat.reduceLT, Bool.false_eq_true, Nat.add_zero, Nat.zero_add, Nat.reduceAdd, Nat.reduceMul, Nat.reduceSub, Nat.zero_le, Nat.reduceLeDiff, Nat.reduceEqDiff, Nat.le_refl, not_false_eq_true, not_true_eq_false, false_implies, true_implies, forall_const, true_and, and_true, if_true, if_false, implies_true, and_self, ne_eq, false_and, and_false, or_false, false_or, true_or, or_true]
    exact comp (by omega)
  · by_cases c2 : th W n b q ≤ 1008
    · have hp := (h.1.lt (by omega)).1
      have hx := At_nx (b := b) hp
      unfold pPlain
      rw [if_pos ⟨by omega, c2⟩]
      simp (disch := omega) only [q_aload0, q_aload0N, q_get_i, pTag_1, pRf_s, q_sipush, q_ic_ne, q_iconst, q_goto, q_nop, q_istore2, q_iload2, q_if_ne, q_iload1, q_bipush, q_ic_lt, q_invv0, inv_1, q_zret, q_if_eq, q_iadd, q_invv1, q_ic_le, e_210_0, e_210_10, L_0, L_1, L_6, L_1006, L_1008, L_1012, L_2040, L_2041, k_some, k_none, pRm_i, pRm_r, pRm_0, pF_1, pF_2, inv_s, hk8, h.1.tg, c1, c2, nN_le, nN_lt, nN_eq, nN_add, nN_mul, nN_lt0, nN_ge0, nN_gt0, nN_le0, nN_eq0, nN_eq1, nN_neN, pIn_n, pIx_n, eq_self, Nat.reduceLT, Bool.false_eq_true, Nat.add_zero, Nat.zero_add, Nat.reduceAdd, Nat.reduceMul, Nat.reduceSub, Nat.zero_le, Nat.reduceLeDiff, Nat.reduceEqDiff, Nat.le_refl, not_false_eq_true, not_true_eq_false, false_implies, true_implies, forall_const, true_and, and_true, if_true, if_false, implies_true, and_self, ne_eq, false_and, and_false, or_false, false_or, true_or, or_true]
      refine mw_mono (w_emit h (by omega)) ?_
      rintro _ M2 ⟨rfl, h3, A2⟩
      have hk82 := h3.2.1.1
      simp (disch := omega) only [q_aload0, q_aload0N, q_get_i, pTag_1, pRf_s, q_sipush, q_ic_ne, q_iconst, q_goto, q_nop, q_istore2, q_iload2, q_if_ne, q_iload1, q_bipush, q_ic_lt, q_invv0, inv_1, q_zret, q_if_eq, q_iadd, q_invv1, q_ic_le, e_210_0, L_0, L_1, L_6, L_1006, L_1008, L_1012, L_2040, L_2041, k_some, k_none, pRm_i, pRm_r, pRm_0, pF_1, pF_2, inv_s, hk82, nN_le, nN_lt, nN_eq, nN_add, nN_mul, nN_lt0, nN_ge0, nN_gt0, nN_le0, nN_eq0, nN_eq1, nN_neN, pIn_n, pIx_n, eq_self, Nat.reduceLT, Bool.false_eq_true, Nat.add_zero, Nat.zero_add, Nat.reduceAdd, Nat.reduceMul, Nat.reduceSub, Nat.zero_le, Nat.reduceLeDiff, Nat.reduceEqDiff, Nat.le_refl, not_false_eq_true, not_true_eq_false, false_implies, true_implies, forall_const, true_and, and_true, if_true, if_false, implies_true, and_self, ne_eq, false_and, and_false, or_false, false_or, true_or, or_true]
      refine mw_mono (w_stepT h3 hp) ?_
      rintro _ M3 ⟨rfl, h4, A3⟩
      simp (disch := omega) only [q_aload0, q_aload0N, q_get_i, pTag_1, pRf_s, q_sipush, q_ic_ne, q_iconst, q_goto, q_nop, q_istore2, q_iload2, q_if_ne, q_iload1, q_bipush, q_ic_lt, q_invv0, inv_1, q_zret, q_if_eq, q_iadd, q_invv1, q_ic_le, e_210_0, L_0, L_1, L_6, L_1006, L_1008, L_1012, L_2040, L_2041, k_some, k_none, pRm_i, pRm_r, pRm_0, pF_1, pF_2, inv_s, zb_1, nN_le, nN_lt, nN_eq, nN_add, nN_mul, nN_lt0, nN_ge0, nN_gt0, nN_le0, nN_eq0, nN_eq1, nN_neN, pIn_n, pIx_n, eq_self, Nat.reduceLT, Bool.false_eq_true, Nat.add_zero, Nat.zero_add, Nat.reduceAdd, Nat.reduceMul, Nat.reduceSub, Nat.zero_le, Nat.reduceLeDiff, Nat.reduceEqDiff, Nat.le_refl, not_false_eq_true, not_true_eq_false, false_implies, true_implies, forall_const, true_and, and_true, if_true, if_false, implies_true, and_self, ne_eq, false_and, and_false, or_false, false_or, true_or, or_true]
      exact ⟨⟨rfl, h4⟩, A2.trans A3⟩
    · simp (disch := omega) only [q_aload0, q_aload0N, q_get_i, pTag_1, pRf_s, q_sipush, q_ic_ne, q_iconst, q_goto, q_nop, q_istore2, q_iload2, q_if_ne, q_iload1, q_bipush, q_ic_lt, q_invv0, inv_1, q_zret, q_if_eq, q_iadd, q_invv1, q_ic_le, e_210_0, L_0, L_1, L_6, L_1006, L_1008, L_1012, L_2040, L_2041, k_some, k_none, pRm_i, pRm_r, pRm_0, pF_1, pF_2, inv_s, hk8, h.1.tg, c1, c2, nN_le, nN_lt, nN_eq, nN_add, nN_mul, nN_lt0, nN_ge0, nN_gt0, nN_le0, nN_eq0, nN_eq1, nN_neN, pIn_n, pIx_n, eq_self, Nat.reduceLT, Bool.false_eq_true, Nat.add_zero, Nat.zero_add, Nat.reduceAdd, Nat.reduceMul, Nat.reduceSub, Nat.zero_le, Nat.reduceLeDiff, Nat.reduceEqDiff, Nat.le_refl, not_false_eq_true, not_true_eq_false, false_implies, true_implies, forall_const, true_and, and_true, if_true, if_false, implies_true, and_self, ne_eq, false_and, and_false, or_false, false_or, true_or, or_true]
      exact comp (by omega)
theorem w_atomC : ∀ (r d q : Nat) (M : pMem) (cs : List Nat), r ≤ 6 → TpS M R tr br tb sr cr n b W q cs → cs.length ≤ q → mw (d + 3 * r + 7) 210 [.ref R, .int (nN (6 - r))] M (fun o M' => TpE R tr br tb sr cr n b W cs (pAtom (th W n b) (nx9 n b) 400 r q) o M' ∧ Ag (RdZ R cr) M M') := by
  intro r
  induction r with
  | zero =>
    intro d q M cs hr6 h hl
    have hk8 := h.2.1.1
    have htl := h.1.tl q
    rw [show pAtom (th W n b) (nx9 n b) 400 0 q = if th W n b q = 1012 ∨ th W n b q = 2040 then .inl q else pPlain (th W n b) (nx9 n b) 400 q from rfl]
    have d3 : ∀ y, bw (d + 3 * 0 + 6) 210 3 ([some (.ref R), some (.int (nN (6 - 0))), some (.int y)], [], M) (fun o M' => TpE R tr br tb sr cr n b W cs (.inl q) o M' ∧ Ag (RdZ R cr) M M') := by
      intro y
      rw [e_210_3]
      simp (disch := omega) only [q_aload0, q_aload0N, q_get_i, pTag_1, pRf_s, q_sipush, q_ic_ne, q_iconst, q_goto, q_nop, q_istore2, q_iload2, q_if_ne, q_iload1, q_bipush, q_ic_lt, q_invv0, inv_1, q_zret, q_if_eq, q_iadd, q_invv1, q_ic_le, e_210_0, L_0, L_1, L_6, L_1006, L_1008, L_1012, L_2040, L_2041, k_some, k_none, pRm_i, pRm_r, pRm_0, pF_1, pF_2, inv_s, hk8, nN_le, nN_lt, nN_eq, nN_add, nN_mul, nN_lt0, nN_ge0, nN_gt0, nN_le0, nN_eq0, nN_eq1, nN_neN, pIn_n, pIx_n, eq_self, Nat.reduceLT, Bool.false_eq_true, Nat.add_zero, Nat.zero_add, Nat.reduceAdd, Nat.reduceMul, Nat.reduceSub, Nat.zero_le, Nat.reduceLeDiff, Nat.reduceEqDiff, Nat.le_refl, not_false_eq_true, not_true_eq_false, false_implies, true_implies, forall_const, true_and, and_true, if_true, if_false, implies_true, and_self, ne_eq, false_and, and_false, or_false, false_or, true_or, or_true]
      refine mw_mono (w_wrongT h) ?_
      rintro _ M2 ⟨⟨rfl, h3⟩, A2⟩
      simp (disch := omega) only [q_aload0, q_aload0N, q_get_i, pTag_1, pRf_s, q_sipush, q_ic_ne, q_iconst, q_goto, q_nop, q_istore2, q_iload2, q_if_ne, q_iload1, q_bipush, q_ic_lt, q_invv0, inv_1, q_zret, q_if_eq, q_iadd, q_invv1, q_ic_le, e_210_0, L_0, L_1, L_6, L_1006, L_1008, L_1012, L_2040, L_2041, k_some, k_none, pRm_i, pRm_r, pRm_0, pF_1, pF_2, inv_s, zb_0, nN_le, nN_lt, nN_eq, nN_add, nN_mul, nN_lt0, nN_ge0, nN_gt0, nN_le0, nN_eq0, nN_eq1, nN_neN, pIn_n, pIx_n, eq_self, Nat.reduceLT, Bool.false_eq_true, Nat.add_zero, Nat.zero_add, Nat.reduceAdd, Nat.reduceMul, Nat.reduceSub, Nat.zero_le, Nat.reduceLeDiff, Nat.reduceEqDiff, Nat.le_refl, not_false_eq_true, not_true_eq_false, false_implies, true_implies, forall_const, true_and, and_true, if_true, if_false, implies_true, and_self, ne_eq, false_and, and_false, or_false, false_or, true_or, or_true]
      exact ⟨⟨rfl, h3⟩, A2⟩
    by_cases c1 : th W n b q = 1012
    · rw [if_pos (Or.inl c1)]
      have := d3 (nN 1)
      simp (disch := omega) only [m_210, q_aload0, q_aload0N, q_get_i, pTag_1, pRf_s, q_sipush, q_ic_ne, q_iconst, q_goto, q_nop, q_istore2, q_iload2, q_if_ne, q_iload1, q_bipush, q_ic_lt, q_invv0, inv_1, q_zret, q_if_eq, q_iadd, q_invv1, q_ic_le, e_210_0, e_210_1, e_210_2, L_0, L_1, L_6, L_1006, L_1008, L_1012, L_2040, L_2041, k_some, k_none, pRm_i, pRm_r, pRm_0, pF_1, pF_2, inv_s, hk8, h.1.tg, c1, nN_le, nN_lt, nN_eq, nN_add, nN_mul, nN_lt0, nN_ge0, nN_gt0, nN_le0, nN_eq0, nN_eq1, nN_neN, pIn_n, pIx_n, eq_self, Nat.reduceLT, Bool.false_eq_true, Nat.add_zero, Nat.zero_add, Nat.reduceAdd, Nat.reduceMul, Nat.reduceSub, Nat.zero_le, Nat.reduceLeDiff, Nat.reduceEqDiff, Nat.le_refl, not_false_eq_true, not_true_eq_false, false_implies, true_implies, forall_const, true_and, and_true, if_true, if_false, implies_true, and_self, ne_eq, false_and, and_false, or_false, false_or, true_or, or_true] at this ⊢
      exact this
    · by_cases c2 : th W n b q = 2040
      · have c3 : ¬ 2040 = 1012 := by omega
        rw [if_pos (Or.inr c2)]
        have := d3 (nN 0)
        simp (disch := omega) only [m_210, q_aload0, q_aload0N, q_get_i, pTag_1, pRf_s, q_sipush, q_ic_ne, q_iconst, q_goto, q_nop, q_istore2, q_iload2, q_if_ne, q_iload1, q_bipush, q_ic_lt, q_invv0, inv_1, q_zret, q_if_eq, q_iadd, q_invv1, q_ic_le, e_210_0, e_210_1, e_210_2, L_0, L_1, L_6, L_1006, L_1008, L_1012, L_2040, L_2041, k_some, k_none, pRm_i, pRm_r, pRm_0, pF_1, pF_2, inv_s, hk8, h.1.tg, c2, nN_le, nN_lt, nN_eq, nN_add, nN_mul, nN_lt0, nN_ge0, nN_gt0, nN_le0, nN_eq0, nN_eq1, nN_neN, pIn_n, pIx_n, eq_self, Nat.reduceLT, Bool.false_eq_true, Nat.add_zero, Nat.zero_add, Nat.reduceAdd, Nat.reduceMul, Nat.reduceSub, Nat.zero_le, Nat.reduceLeDiff, Nat.reduceEqDiff, Nat.le_refl, not_false_eq_true, not_true_eq_false, false_implies, true_implies, forall_const, true_and, and_true, if_true, if_false, implies_true, and_self, ne_eq, false_and, and_false, or_false, false_or, true_or, or_true] at this ⊢
        exact this
      · rw [if_neg (by omega)]
        have := w_plainC (d := d) (y := nN 0) (x1 := nN (6 - 0)) h hl
        simp (disch := omega) only [m_210, q_aload0, q_aload0N, q_get_i, pTag_1, pRf_s, q_sipush, q_ic_ne, q_iconst, q_goto, q_nop, q_istore2, q_iload2, q_if_ne, q_iload1, q_bipush, q_ic_lt, q_invv0, inv_1, q_zret, q_if_eq, q_iadd, q_invv1, q_ic_le, e_210_0, e_210_1, e_210_2, L_0, L_1, L_6, L_1006, L_1008, L_1012, L_2040, L_2041, k_some, k_none, pRm_i, pRm_r, pRm_0, pF_1, pF_2, inv_s, hk8, h.1.tg, c1, c2, nN_le, nN_lt, nN_eq, nN_add, nN_mul, nN_lt0, nN_ge0, nN_gt0, nN_le0, nN_eq0, nN_eq1, nN_neN, pIn_n, pIx_n, eq_self, Nat.reduceLT, Bool.false_eq_true, Nat.add_zero, Nat.zero_add, Nat.reduceAdd, Nat.reduceMul, Nat.reduceSub, Nat.zero_le, Nat.reduceLeDiff, Nat.reduceEqDiff, Nat.le_refl, not_false_eq_true, not_true_eq_false, false_implies, true_implies, forall_const, true_and, and_true, if_true, if_false, implies_true, and_self, ne_eq, false_and, and_false, or_false, false_or, true_or, or_true] at this ⊢
        exact this
  | succ r ih =>
    intro d q M cs hr6 h hl
    have hk8 := h.2.1.1
    have htl := h.1.tl q
    have hn := h.1.n9
    have e6 : 6 - (r + 1) + 1 = 6 - r := by omega
    have e7 : ¬ 6 ≤ 6 - (r + 1) := by omega
    have e8 : 6 - (r + 1) < 6 := by omega
    have d9 : d + 3 * (r + 1) + 7 = (d + 1 + 3 * r + 8) + 1 := by omega
    rw [d9]
    rw [show pAtom (th W n b) (nx9 n b) 400 (r + 1) q = if th W n b q = 1012 then pThen (pAtom (th W n b) (nx9 n b) 400 r (nx9 n b q)) (fun s => .inr (s.1, s.2.1 ++ [1012], fun fv => nN 1 - s.2.2 fv)) else if th W n b q = 2040 then pThen (pSo (th W n b) (nx9 n b) 400 (pAtom (th W n b) (nx9 n b) 400 r) (nx9 n b q)) (fun s => if th W n b s.1 = 2041 then .inr (nx9 n b s.1, s.2.1, s.2.2) else .inl s.1) else pPlain (th W n b) (nx9 n b) 400 q from rfl]
    by_cases c1 : th W n b q = 1012
    · rw [if_pos c1]
      have hp := (h.1.lt (by omega)).1
      have hx := At_nx (b := b) hp
      simp (disch := omega) only [m_210, q_aload0, q_aload0N, q_get_i, pTag_1, pRf_s, q_sipush, q_ic_ne, q_iconst, q_goto, q_nop, q_istore2, q_iload2, q_if_ne, q_iload1, q_bipush, q_ic_lt, q_invv0, inv_1, q_zret, q_if_eq, q_iadd, q_invv1, q_ic_le, e_210_0, e_210_1, e_210_2, e_210_3, e_210_4, L_0, L_1, L_6, L_1006, L_1008, L_1012, L_2040, L_2041, k_some, k_none, pRm_i, pRm_r, pRm_0, pF_1, pF_2, inv_s, hk8, h.1.tg, c1, e8, nN_le, nN_lt, nN_eq, nN_add, nN_mul, nN_lt0, nN_ge0, nN_gt0, nN_le0, nN_eq0, nN_eq1, nN_neN, pIn_n, pIx_n, eq_self, Nat.reduceLT, Bool.false_eq_true, Nat.add_zero, Nat.zero_add, Nat.reduceAdd, Nat.reduceMul, Nat.reduceSub, Nat.zero_le, Nat.reduceLeDiff, Nat.reduceEqDiff, Nat.le_refl, not_false_eq_true, not_true_eq_false, false_implies, true_implies, forall_const, true_and, and_true, if_true, if_false, implies_true, and_self, ne_eq, false_and, and_false, or_false, false_or, true_or, or_true]
      refine mw_mono (w_stepT h hp) ?_
      rintro _ M1 ⟨rfl, h1, A1⟩
      have hk81 := h1.2.1.1
      simp (disch := omega) only [q_aload0, q_aload0N, q_get_i, pTag_1, pRf_s, q_sipush, q_ic_ne, q_iconst, q_goto, q_nop, q_istore2, q_iload2, q_if_ne, q_iload1, q_bipush, q_ic_lt, q_invv0, inv_1, q_zret, q_if_eq, q_iadd, q_invv1, q_ic_le, e_210_0, e_210_1, e_210_2, e_210_3, e_210_4, L_0, L_1, L_6, L_1006, L_1008, L_1012, L_2040, L_2041, k_some, k_none, pRm_i, pRm_r, pRm_0, pF_1, pF_2, inv_s, hk81, e6, nN_le, nN_lt, nN_eq, nN_add, nN_mul, nN_lt0, nN_ge0, nN_gt0, nN_le0, nN_eq0, nN_eq1, nN_neN, pIn_n, pIx_n, eq_self, Nat.reduceLT, Bool.false_eq_true, Nat.add_zero, Nat.zero_add, Nat.reduceAdd, Nat.reduceMul, Nat.reduceSub, Nat.zero_le, Nat.reduceLeDiff, Nat.reduceEqDiff, Nat.le_refl, not_false_eq_true, not_true_eq_false, false_implies, true_implies, forall_const, true_and, and_true, if_true, if_false, implies_true, and_self, ne_eq, false_and, and_false, or_false, false_or, true_or, or_true]
      simp (disch := omega) only [m_211, q_aload0, q_aload0N, q_iload1, q_invv1, inv_1, q_istore2, q_sipush, q_iload2, q_zret, e_211_0, L_1012, k_some, k_none, pRm_i, pRm_r, pRm_0, pF_1, pF_2, inv_s, hk81, nN_le, nN_lt, nN_eq, nN_add, nN_mul, nN_lt0, nN_ge0, nN_gt0, nN_le0, nN_eq0, nN_eq1, nN_neN, pIn_n, pIx_n, eq_self, Nat.reduceLT, Bool.false_eq_true, Nat.add_zero, Nat.zero_add, Nat.reduceAdd, Nat.reduceMul, Nat.reduceSub, Nat.zero_le, Nat.reduceLeDiff, Nat.reduceEqDiff, Nat.le_refl, not_false_eq_true, not_true_eq_false, false_implies, true_implies, forall_const, true_and, and_true, if_true, if_false, implies_true, and_self, ne_eq, false_and, and_false, or_false, false_or, true_or, or_true]
      refine mw_mono (ih (d + 1) _ M1 cs (by omega) h1 (by omega)) ?_
      rintro o M2 ⟨h2, A2⟩
      have G2 := Gd_atom (F := 400) (W := W) (b := b) r _ hx.2.1 hx.2.2
      cases hs : pAtom (th W n b) (nx9 n b) 400 r (nx9 n b q) with
      | inl e =>
        rw [hs] at h2
        obtain ⟨rfl, h3⟩ := h2
        have hk82 : (gS M2 R).1 = 8 := by rw [A2.S]; exact hk81
        simp (disch := omega) only [q_aload0, q_aload0N, q_iload1, q_invv1, inv_1, q_istore2, q_sipush, q_iload2, q_zret, e_211_0, L_1012, k_some, k_none, pRm_i, pRm_r, pRm_0, pF_1, pF_2, inv_s, hk82, nN_le, nN_lt, nN_eq, nN_add, nN_mul, nN_lt0, nN_ge0, nN_gt0, nN_le0, nN_eq0, nN_eq1, nN_neN, pIn_n, pIx_n, eq_self, Nat.reduceLT, Bool.false_eq_true, Nat.add_zero, Nat.zero_add, Nat.reduceAdd, Nat.reduceMul, Nat.reduceSub, Nat.zero_le, Nat.reduceLeDiff, Nat.reduceEqDiff, Nat.le_refl, not_false_eq_true, not_true_eq_false, false_implies, true_implies, forall_const, true_and, and_true, if_true, if_false, implies_true, and_self, ne_eq, false_and, and_false, or_false, false_or, true_or, or_true]
        refine mw_mono (w_emitAny hk82 (by rw [A2.P]; exact h1.2.1.2.1) (by rw [A2.S]; exact h1.2.1.2.2) h1.2.2.1.2.2.2) ?_
        rintro _ M3 ⟨rfl, A3⟩
        simp (disch := omega) only [q_aload0, q_aload0N, q_iload1, q_invv1, inv_1, q_istore2, q_sipush, q_iload2, q_zret, e_211_0, L_1012, k_some, k_none, pRm_i, pRm_r, pRm_0, pF_1, pF_2, inv_s, q_aload0, q_aload0N, q_get_i, pTag_1, pRf_s, q_sipush, q_ic_ne, q_iconst, q_goto, q_nop, q_istore2, q_iload2, q_if_ne, q_iload1, q_bipush, q_ic_lt, q_invv0, inv_1, q_zret, q_if_eq, q_iadd, q_invv1, q_ic_le, e_210_0, e_210_7, L_0, L_1, L_6, L_1006, L_1008, L_1012, L_2040, L_2041, k_some, k_none, pRm_i, pRm_r, pRm_0, pF_1, pF_2, inv_s, zb_0, nN_le, nN_lt, nN_eq, nN_add, nN_mul, nN_lt0, nN_ge0, nN_gt0, nN_le0, nN_eq0, nN_eq1, nN_neN, pIn_n, pIx_n, eq_self, Nat.reduceLT, Bool.false_eq_true, Nat.add_zero, Nat.zero_add, Nat.reduceAdd, Nat.reduceMul, Nat.reduceSub, Nat.zero_le, Nat.reduceLeDiff, Nat.reduceEqDiff, Nat.le_refl, not_false_eq_true, not_true_eq_false, false_implies, true_implies, forall_const, true_and, and_true, if_true, if_false, implies_true, and_self, ne_eq, false_and, and_false, or_false, false_or, true_or, or_true]
        refine ⟨⟨rfl, ?_⟩, (A1.trans A2).trans (A3.mono fun h k z => by rcases z with z | z; exact Or.inl z; exact Or.inr ⟨z.1, Or.inr z.2⟩)⟩
        rw [A3.I]
        · exact h3
        · rintro (z | z)
          · exact h1.2.2.1.2.2.2 z.symm
          · omega
      | inr s =>
        rw [hs] at h2 G2
        obtain ⟨rfl, h3⟩ := h2
        obtain ⟨a1, ⟨a2, a3⟩, -⟩ := G2
        have hk82 := h3.2.1.1
        simp (disch := omega) only [q_aload0, q_aload0N, q_iload1, q_invv1, inv_1, q_istore2, q_sipush, q_iload2, q_zret, e_211_0, L_1012, k_some, k_none, pRm_i, pRm_r, pRm_0, pF_1, pF_2, inv_s, hk82, nN_le, nN_lt, nN_eq, nN_add, nN_mul, nN_lt0, nN_ge0, nN_gt0, nN_le0, nN_eq0, nN_eq1, nN_neN, pIn_n, pIx_n, eq_self, Nat.reduceLT, Bool.false_eq_true, Nat.add_zero, Nat.zero_add, Nat.reduceAdd, Nat.reduceMul, Nat.reduceSub, Nat.zero_le, Nat.reduceLeDiff, Nat.reduceEqDiff, Nat.le_refl, not_false_eq_true, not_true_eq_false, false_implies, true_implies, forall_const, true_and, and_true, if_true, if_false, implies_true, and_self, ne_eq, false_and, and_false, or_false, false_or, true_or, or_true]
        refine mw_mono (w_emit h3 (by rw [List.length_append]; omega)) ?_
        rintro _ M3 ⟨rfl, h4, A3⟩
        simp (disch := omega) only [q_aload0, q_aload0N, q_iload1, q_invv1, inv_1, q_istore2, q_sipush, q_iload2, q_zret, e_211_0, L_1012, k_some, k_none, pRm_i, pRm_r, pRm_0, pF_1, pF_2, inv_s, q_aload0, q_aload0N, q_get_i, pTag_1, pRf_s, q_sipush, q_ic_ne, q_iconst, q_goto, q_nop, q_istore2, q_iload2, q_if_ne, q_iload1, q_bipush, q_ic_lt, q_invv0, inv_1, q_zret, q_if_eq, q_iadd, q_invv1, q_ic_le, e_210_0, e_210_7, L_0, L_1, L_6, L_1006, L_1008, L_1012, L_2040, L_2041, k_some, k_none, pRm_i, pRm_r, pRm_0, pF_1, pF_2, inv_s, zb_1, nN_le, nN_lt, nN_eq, nN_add, nN_mul, nN_lt0, nN_ge0, nN_gt0, nN_le0, nN_eq0, nN_eq1, nN_neN, pIn_n, pIx_n, eq_self, Nat.reduceLT, Bool.false_eq_true, Nat.add_zero, Nat.zero_add, Nat.reduceAdd, Nat.reduceMul, Nat.reduceSub, Nat.zero_le, Nat.reduceLeDiff, Nat.reduceEqDiff, Nat.le_refl, not_false_eq_true, not_true_eq_false, false_implies, true_implies, forall_const, true_and, and_true, if_true, if_false, implies_true, and_self, ne_eq, false_and, and_false, or_false, false_or, true_or, or_true]
        refine ⟨⟨rfl, ?_⟩, (A1.trans A2).trans A3⟩
        show TpS M3 R tr br tb sr cr n b W s.1 (cs ++ (s.2.1 ++ [1012]))
        rw [← List.append_assoc]
        exact h4
    · rw [if_neg c1]
      by_cases c2 : th W n b q = 2040
      · rw [if_pos c2]
        have hp := (h.1.lt (by omega)).1
        have hx := At_nx (b := b) hp
        simp (disch := omega) only [m_210, q_aload0, q_aload0N, q_get_i, pTag_1, pRf_s, q_sipush, q_ic_ne, q_iconst, q_goto, q_nop, q_istore2, q_iload2, q_if_ne, q_iload1, q_bipush, q_ic_lt, q_invv0, inv_1, q_zret, q_if_eq, q_iadd, q_invv1, q_ic_le, e_210_0, e_210_1, e_210_2, e_210_3, e_210_4, L_0, L_1, L_6, L_1006, L_1008, L_1012, L_2040, L_2041, k_some, k_none, pRm_i, pRm_r, pRm_0, pF_1, pF_2, inv_s, hk8, h.1.tg, c2, e8, nN_le, nN_lt, nN_eq, nN_add, nN_mul, nN_lt0, nN_ge0, nN_gt0, nN_le0, nN_eq0, nN_eq1, nN_neN, pIn_n, pIx_n, eq_self, Nat.reduceLT, Bool.false_eq_true, Nat.add_zero, Nat.zero_add, Nat.reduceAdd, Nat.reduceMul, Nat.reduceSub, Nat.zero_le, Nat.reduceLeDiff, Nat.reduceEqDiff, Nat.le_refl, not_false_eq_true, not_true_eq_false, false_implies, true_implies, forall_const, true_and, and_true, if_true, if_false, implies_true, and_self, ne_eq, false_and, and_false, or_false, false_or, true_or, or_true]
        refine mw_mono (w_stepT h hp) ?_
        rintro _ M1 ⟨rfl, h1, A1⟩
        have hk81 := h1.2.1.1
        simp (disch := omega) only [q_aload0, q_aload0N, q_get_i, pTag_1, pRf_s, q_sipush, q_ic_ne, q_iconst, q_goto, q_nop, q_istore2, q_iload2, q_if_ne, q_iload1, q_bipush, q_ic_lt, q_invv0, inv_1, q_zret, q_if_eq, q_iadd, q_invv1, q_ic_le, e_210_0, e_210_1, e_210_2, e_210_3, e_210_4, e_210_5, L_0, L_1, L_6, L_1006, L_1008, L_1012, L_2040, L_2041, k_some, k_none, pRm_i, pRm_r, pRm_0, pF_1, pF_2, inv_s, hk81, e6, nN_le, nN_lt, nN_eq, nN_add, nN_mul, nN_lt0, nN_ge0, nN_gt0, nN_le0, nN_eq0, nN_eq1, nN_neN, pIn_n, pIx_n, eq_self, Nat.reduceLT, Bool.false_eq_true, Nat.add_zero, Nat.zero_add, Nat.reduceAdd, Nat.reduceMul, Nat.reduceSub, Nat.zero_le, Nat.reduceLeDiff, Nat.reduceEqDiff, Nat.le_refl, not_false_eq_true, not_true_eq_false, false_implies, true_implies, forall_const, true_and, and_true, if_true, if_false, implies_true, and_self, ne_eq, false_and, and_false, or_false, false_or, true_or, or_true]
        refine mw_mono (w_condC (d := d + 1 + 3 * r + 6) (atm := pAtom (th W n b) (nx9 n b) 400 r) (K := 3 + 2 * r) (fun M q cs h hl => ih (d + 1) q M cs (by omega) h hl) (fun q h1 h2 => Gd_atom r q h1 h2) h1 (by omega)) ?_
        rintro o M2 ⟨h2, A2⟩
        have G2 := Gd_so (F := 400) (W := W) (k := 3 + 2 * r) (atm := pAtom (th W n b) (nx9 n b) 400 r) (fun q h1 h2 => Gd_atom r q h1 h2) hx.2.1 hx.2.2
        cases hs : pSo (th W n b) (nx9 n b) 400 (pAtom (th W n b) (nx9 n b) 400 r) (nx9 n b q) with
        | inl e =>
          rw [hs] at h2
          obtain ⟨rfl, h3⟩ := h2
          simp (disch := omega) only [q_aload0, q_aload0N, q_get_i, pTag_1, pRf_s, q_sipush, q_ic_ne, q_iconst, q_goto, q_nop, q_istore2, q_iload2, q_if_ne, q_iload1, q_bipush, q_ic_lt, q_invv0, inv_1, q_zret, q_if_eq, q_iadd, q_invv1, q_ic_le, e_210_0, e_210_6, e_210_7, L_0, L_1, L_6, L_1006, L_1008, L_1012, L_2040, L_2041, k_some, k_none, pRm_i, pRm_r, pRm_0, pF_1, pF_2, inv_s, zb_0, nN_le, nN_lt, nN_eq, nN_add, nN_mul, nN_lt0, nN_ge0, nN_gt0, nN_le0, nN_eq0, nN_eq1, nN_neN, pIn_n, pIx_n, eq_self, Nat.reduceLT, Bool.false_eq_true, Nat.add_zero, Nat.zero_add, Nat.reduceAdd, Nat.reduceMul, Nat.reduceSub, Nat.zero_le, Nat.reduceLeDiff, Nat.reduceEqDiff, Nat.le_refl, not_false_eq_true, not_true_eq_false, false_implies, true_implies, forall_const, true_and, and_true, if_true, if_false, implies_true, and_self, ne_eq, false_and, and_false, or_false, false_or, true_or, or_true]
          exact ⟨⟨rfl, h3⟩, A1.trans A2⟩
        | inr s =>
          rw [hs] at h2 G2
          obtain ⟨rfl, h3⟩ := h2
          obtain ⟨a1, ⟨a2, a3⟩, -⟩ := G2
          have hk82 := h3.2.1.1
          simp (disch := omega) only [q_aload0, q_aload0N, q_get_i, pTag_1, pRf_s, q_sipush, q_ic_ne, q_iconst, q_goto, q_nop, q_istore2, q_iload2, q_if_ne, q_iload1, q_bipush, q_ic_lt, q_invv0, inv_1, q_zret, q_if_eq, q_iadd, q_invv1, q_ic_le, e_210_0, L_0, L_1, L_6, L_1006, L_1008, L_1012, L_2040, L_2041, k_some, k_none, pRm_i, pRm_r, pRm_0, pF_1, pF_2, inv_s, hk82, nN_le, nN_lt, nN_eq, nN_add, nN_mul, nN_lt0, nN_ge0, nN_gt0, nN_le0, nN_eq0, nN_eq1, nN_neN, pIn_n, pIx_n, eq_self, Nat.reduceLT, Bool.false_eq_true, Nat.add_zero, Nat.zero_add, Nat.reduceAdd, Nat.reduceMul, Nat.reduceSub, Nat.zero_le, Nat.reduceLeDiff, Nat.reduceEqDiff, Nat.le_refl, not_false_eq_true, not_true_eq_false, false_implies, true_implies, forall_const, true_and, and_true, if_true, if_false, implies_true, and_self, ne_eq, false_and, and_false, or_false, false_or, true_or, or_true]
          refine mw_mono (w_follows h3.1 (by omega)) ?_
          rintro o M3 ⟨h4, A3⟩
          simp only [pThen]
          by_cases c3 : th W n b s.1 = 2041
          · rw [if_pos c3] at h4 ⊢
            obtain ⟨rfl, h5⟩ := h4
            simp (disch := omega) only [q_aload0, q_aload0N, q_get_i, pTag_1, pRf_s, q_sipush, q_ic_ne, q_iconst, q_goto, q_nop, q_istore2, q_iload2, q_if_ne, q_iload1, q_bipush, q_ic_lt, q_invv0, inv_1, q_zret, q_if_eq, q_iadd, q_invv1, q_ic_le, e_210_0, e_210_7, L_0, L_1, L_6, L_1006, L_1008, L_1012, L_2040, L_2041, k_some, k_none, pRm_i, pRm_r, pRm_0, pF_1, pF_2, inv_s, zb_1, nN_le, nN_lt, nN_eq, nN_add, nN_mul, nN_lt0, nN_ge0, nN_gt0, nN_le0, nN_eq0, nN_eq1, nN_neN, pIn_n, pIx_n, eq_self, Nat.reduceLT, Bool.false_eq_true, Nat.add_zero, Nat.zero_add, Nat.reduceAdd, Nat.reduceMul, Nat.reduceSub, Nat.zero_le, Nat.reduceLeDiff, Nat.reduceEqDiff, Nat.le_refl, not_false_eq_true, not_true_eq_false, false_implies, true_implies, forall_const, true_and, and_true, if_true, if_false, implies_true, and_self, ne_eq, false_and, and_false, or_false, false_or, true_or, or_true]
            exact ⟨⟨rfl, h3.rd A3 h5⟩, (A1.trans A2).trans (A3.mono RdY_Z)⟩
          · rw [if_neg c3] at h4 ⊢
            obtain ⟨rfl, h5⟩ := h4
            simp (disch := omega) only [q_aload0, q_aload0N, q_get_i, pTag_1, pRf_s, q_sipush, q_ic_ne, q_iconst, q_goto, q_nop, q_istore2, q_iload2, q_if_ne, q_iload1, q_bipush, q_ic_lt, q_invv0, inv_1, q_zret, q_if_eq, q_iadd, q_invv1, q_ic_le, e_210_0, e_210_6, e_210_7, L_0, L_1, L_6, L_1006, L_1008, L_1012, L_2040, L_2041, k_some, k_none, pRm_i, pRm_r, pRm_0, pF_1, pF_2, inv_s, zb_0, nN_le, nN_lt, nN_eq, nN_add, nN_mul, nN_lt0, nN_ge0, nN_gt0, nN_le0, nN_eq0, nN_eq1, nN_neN, pIn_n, pIx_n, eq_self, Nat.reduceLT, Bool.false_eq_true, Nat.add_zero, Nat.zero_add, Nat.reduceAdd, Nat.reduceMul, Nat.reduceSub, Nat.zero_le, Nat.reduceLeDiff, Nat.reduceEqDiff, Nat.le_refl, not_false_eq_true, not_true_eq_false, false_implies, true_implies, forall_const, true_and, and_true, if_true, if_false, implies_true, and_self, ne_eq, false_and, and_false, or_false, false_or, true_or, or_true]
            exact ⟨⟨rfl, h5⟩, (A1.trans A2).trans (A3.mono RdY_Z)⟩
      · rw [if_neg c2]
        have := w_plainC (d := d + 1 + 3 * r + 2) (y := nN 0) (x1 := nN (6 - (r + 1))) h hl
        simp (disch := omega) only [m_210, q_aload0, q_aload0N, q_get_i, pTag_1, pRf_s, q_sipush, q_ic_ne, q_iconst, q_goto, q_nop, q_istore2, q_iload2, q_if_ne, q_iload1, q_bipush, q_ic_lt, q_invv0, inv_1, q_zret, q_if_eq, q_iadd, q_invv1, q_ic_le, e_210_0, e_210_1, e_210_2, L_0, L_1, L_6, L_1006, L_1008, L_1012, L_2040, L_2041, k_some, k_none, pRm_i, pRm_r, pRm_0, pF_1, pF_2, inv_s, hk8, h.1.tg, c1, c2, nN_le, nN_lt, nN_eq, nN_add, nN_mul, nN_lt0, nN_ge0, nN_gt0, nN_le0, nN_eq0, nN_eq1, nN_neN, pIn_n, pIx_n, eq_self, Nat.reduceLT, Bool.false_eq_true, Nat.add_zero, Nat.zero_add, Nat.reduceAdd, Nat.reduceMul, Nat.reduceSub, Nat.zero_le, Nat.reduceLeDiff, Nat.reduceEqDiff, Nat.le_refl, not_false_eq_true, not_true_eq_false, false_implies, true_implies, forall_const, true_and, and_true, if_true, if_false, implies_true, and_self, ne_eq, false_and, and_false, or_false, false_or, true_or, or_true] at this ⊢
        exact this
end TD
