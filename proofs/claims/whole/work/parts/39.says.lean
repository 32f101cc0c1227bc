/-! A TEMPER SAYS: the code's run -/
def sJoin (w : Nat) (x y : Int32) : Int32 := if w = 2043 then x + y else if w = 2060 then bI (x < y) else if w = 2062 then bI (y < x) else if w = 1013 then x &&& y else x ||| y
def runC (fv : Nat → Int32) : List Nat → List Int32 → Bool
  | [], _ => false
  | w :: r, s =>
    if w < 1000 then runC fv r (sPush s (nN w))
    else if w < 1009 then runC fv r (sPush s (fv (w - 1000)))
    else if w = 1012 then runC fv r (sPush s.tail (nN 1 - sTop s))
    else if w = 1009 ∨ w = 1010 then (if sTop s = nN 1 then decide (w = 1009) else runC fv r s.tail)
    else runC fv r (sPush s.tail.tail (sJoin w (sTop s.tail) (sTop s)))
section SY
variable {d t u q f : Nat} {a : Nat → Int32} {M : pMem} {Q : pOut → pMem → Prop}
theorem w_joined {w : Nat} {x y : Int32} (hw : w < 4000) : mw (d + 1) 202 [.int (nN w), .int x, .int y] M Q = Q (.inl (some (.int (sJoin w x y)))) M := by
  have hw' : w < 2147483648 := by omega
  simp only [m_202, q_iload0, q_lookup, q_iload1, q_iload2, q_iadd, q_iret, q_ic_ge, q_iconst, q_goto, q_nop, q_ic_le, q_iand, q_ior, e_202_0, e_202_1, e_202_2, e_202_3, e_202_4, e_202_5, e_202_6, e_202_7, e_202_8, e_202_9, L_0, L_1, nN_toInt hw']
  by_cases c1 : w = 2043
  · subst c1
    simp [pLk, swt, sJoin, q_iload0, q_lookup, q_iload1, q_iload2, q_iadd, q_iret, q_ic_ge, q_iconst, q_goto, q_nop, q_ic_le, q_iand, q_ior, e_202_0, e_202_1, e_202_2, e_202_3, e_202_4, e_202_5, e_202_6, e_202_7, e_202_8, e_202_9, L_0, L_1]
  by_cases c2 : w = 2060
  · subst c2
    by_cases h : x < y
    · have h2 : ¬ y ≤ x := Int32.not_le.mpr h
      simp [pLk, swt, sJoin, q_iload0, q_lookup, q_iload1, q_iload2, q_iadd, q_iret, q_ic_ge, q_iconst, q_goto, q_nop, q_ic_le, q_iand, q_ior, e_202_0, e_202_1, e_202_2, e_202_3, e_202_4, e_202_5, e_202_6, e_202_7, e_202_8, e_202_9, L_0, L_1, h, h2, bI]
    · have h2 : y ≤ x := Int32.not_lt.mp h
      simp [pLk, swt, sJoin, q_iload0, q_lookup, q_iload1, q_iload2, q_iadd, q_iret, q_ic_ge, q_iconst, q_goto, q_nop, q_ic_le, q_iand, q_ior, e_202_0, e_202_1, e_202_2, e_202_3, e_202_4, e_202_5, e_202_6, e_202_7, e_202_8, e_202_9, L_0, L_1, h, h2, bI]
  by_cases c3 : w = 2062
  · subst c3
    by_cases h : y < x
    · have h2 : ¬ x ≤ y := Int32.not_le.mpr h
      simp [pLk, swt, sJoin, q_iload0, q_lookup, q_iload1, q_iload2, q_iadd, q_iret, q_ic_ge, q_iconst, q_goto, q_nop, q_ic_le, q_iand, q_ior, e_202_0, e_202_1, e_202_2, e_202_3, e_202_4, e_202_5, e_202_6, e_202_7, e_202_8, e_202_9, L_0, L_1, h, h2, bI]
    · have h2 : x ≤ y := Int32.not_lt.mp h
      simp [pLk, swt, sJoin, q_iload0, q_lookup, q_iload1, q_iload2, q_iadd, q_iret, q_ic_ge, q_iconst, q_goto, q_nop, q_ic_le, q_iand, q_ior, e_202_0, e_202_1, e_202_2, e_202_3, e_202_4, e_202_5, e_202_6, e_202_7, e_202_8, e_202_9, L_0, L_1, h, h2, bI]
  by_cases c4 : w = 1013
  · subst c4
    simp [pLk, swt, sJoin, q_iload0, q_lookup, q_iload1, q_iload2, q_iadd, q_iret, q_ic_ge, q_iconst, q_goto, q_nop, q_ic_le, q_iand, q_ior, e_202_0, e_202_1, e_202_2, e_202_3, e_202_4, e_202_5, e_202_6, e_202_7, e_202_8, e_202_9, L_0, L_1]
  have d1 : ¬ (w : Int) = 2043 := by omega
  have d2 : ¬ (w : Int) = 2060 := by omega
  have d3 : ¬ (w : Int) = 2062 := by omega
  have d4 : ¬ (w : Int) = 1013 := by omega
  simp [pLk, swt, sJoin, q_iload0, q_lookup, q_iload1, q_iload2, q_iadd, q_iret, q_ic_ge, q_iconst, q_goto, q_nop, q_ic_le, q_iand, q_ior, e_202_0, e_202_1, e_202_2, e_202_3, e_202_4, e_202_5, e_202_6, e_202_7, e_202_8, e_202_9, L_0, L_1, c1, c2, c3, c4, d1, d2, d3, d4]
theorem TSh.ag {X : Nat → Nat → Prop} {M M' : pMem} (h : TSh (gS M) (gP M) q) (A : Ag X M M') : TSh (gS M') (gP M') q := by rw [A.S, A.P]; exact h
/-- the code from its k-th thing on -/
theorem w_saysL {cs : List Nat} {fv : Nat → Int32} : ∀ (r : List Nat) (k : Nat) (s : List Int32) (M : pMem) (l5 l6 : Option Value), k + r.length = cs.length → (∀ i, i < r.length → r.getD i 0 = cs.getD (k + i) 0) → TmO M q cs → Stk M q s → gS M f = (100, 9) → (∀ i, i < 9 → gI M f i = fv i) → f < 101 →
    bw (d + 3) 201 1 ([some (.ref q), some (.ref f), some (.ref (q + 2)), some (.int (nN cs.length)), some (.int (nN k)), l5, l6], [], M) (fun o M' => o = .inl (some (.int (bI (runC fv r s = true)))) ∧ Ag (XQ q) M M') := by
  intro r
  induction r with
  | nil =>
    intro k s M l5 l6 hk hr hT hS hf hfv hf2
    obtain ⟨h1, h2, h3, h4, h5⟩ := hT
    simp only [List.length_nil] at hk
    have e1 : cs.length ≤ k := by omega
    rw [e_201_1]
    simp (disch := omega) only [q_aload0, q_aload0N, q_iconst, q_put_i, pTag_1, q_get_r, pRf_s, q_astore2, q_astore2N, q_aload2, q_aload2N, q_alen, q_istore3, q_istore4, q_nop, q_iload4, q_iload3, q_ic_ge, q_iald, q_istore5, q_iload5, q_sipush, q_invv1, inv_1, q_goto, q_aload1, q_aload1N, q_isub, q_invs2_21, q_ic_ne, q_invv0, q_ic_eq, q_istore6, q_iload6, q_invs3_20, q_zret, q_iinc4, e_201_0, e_201_2, e_201_3, e_201_4, e_201_5, e_201_6, e_201_7, e_201_8, e_201_9, L_0, L_1, L_1000, L_1009, L_1010, L_1012, k_some, k_none, pRm_i, pRm_r, pRm_0, pF_1, pF_2, inv_s, nN_le, nN_lt, nN_eq, nN_add, nN_mul, nN_lt0, nN_ge0, nN_gt0, nN_le0, nN_eq0, nN_eq1, nN_neN, pIn_n, pIx_n, e1]
    simp [runC, bI, zb_0, Ag.rfl]
  | cons w r ih =>
    intro k s M l5 l6 hk hr hT hS hf hfv hf2
    have hT0 := hT
    obtain ⟨h1, h2, h3, h4, h5⟩ := hT
    have hq := h1.1
    have hq2 := h1.2.1
    simp only [List.length_cons] at hk
    have e1 : ¬ cs.length ≤ k := by omega
    have e2 : k < cs.length := by omega
    have e0 : cs.getD k 0 = w := (hr 0 (by simp)).symm
    have e3 : gI M (q + 2) k = nN w := by rw [h3 k e2, e0]
    have e4 : w < 4000 := e0 ▸ h4 k
    have hr' : ∀ i, i < r.length → r.getD i 0 = cs.getD (k + 1 + i) 0 := by
      intro i hi
      have := hr (i + 1) (by simp; omega)
      rw [show k + (i + 1) = k + 1 + i from by omega] at this
      rw [← this]; rfl
    have nx : ∀ (M1 : pMem) (s1 : List Int32) (l5 l6 : Option Value), Ag (XQ q) M M1 → Stk M1 q s1 → bw (d + 3) 201 8 ([some (.ref q), some (.ref f), some (.ref (q + 2)), some (.int (nN cs.length)), some (.int (nN k)), l5, l6], [], M1) (fun o M' => o = .inl (some (.int (bI (runC fv r s1 = true)))) ∧ Ag (XQ q) M M') := by
      intro M1 s1 l5 l6 hA hS1
      have hT1 : TmO M1 q cs := hT0.ag (t := 0) (hA.mono fun h k z => Or.inr ⟨q, h1, z⟩) (by omega)
      have hf1 : ∀ i, i < 9 → gI M1 f i = fv i := fun i hi => by
        rw [hA.I, hfv i hi]
        rintro (z | ⟨z, -⟩) <;> omega
      rw [e_201_8]
      simp (disch := omega) only [q_aload0, q_aload0N, q_iconst, q_put_i, pTag_1, q_get_r, pRf_s, q_astore2, q_astore2N, q_aload2, q_aload2N, q_alen, q_istore3, q_istore4, q_nop, q_iload4, q_iload3, q_ic_ge, q_iald, q_istore5, q_iload5, q_sipush, q_invv1, inv_1, q_goto, q_aload1, q_aload1N, q_isub, q_invs2_21, q_ic_ne, q_invv0, q_ic_eq, q_istore6, q_iload6, q_invs3_20, q_zret, q_iinc4, e_201_0, e_201_2, e_201_3, e_201_4, e_201_5, e_201_6, e_201_7, e_201_8, e_201_9, L_0, L_1, L_1000, L_1009, L_1010, L_1012, k_some, k_none, pRm_i, pRm_r, pRm_0, pF_1, pF_2, inv_s, nN_add]
      exact bw_mono (ih (k + 1) s1 M1 l5 l6 (by omega) hr' hT1 hS1 (by rw [hA.S]; exact hf) hf1 hf2) (fun o M' h => ⟨h.1, hA.trans h.2⟩)
    rw [e_201_1]
    by_cases c1 : w < 1000
    · have c1' : ¬ 1000 ≤ w := by omega
      rw [show runC fv (w :: r) s = runC fv r (sPush s (nN w)) by simp [runC, c1]]
      simp (disch := omega) only [q_aload0, q_aload0N, q_iconst, q_put_i, pTag_1, q_get_r, pRf_s, q_astore2, q_astore2N, q_aload2, q_aload2N, q_alen, q_istore3, q_istore4, q_nop, q_iload4, q_iload3, q_ic_ge, q_iald, q_istore5, q_iload5, q_sipush, q_invv1, inv_1, q_goto, q_aload1, q_aload1N, q_isub, q_invs2_21, q_ic_ne, q_invv0, q_ic_eq, q_istore6, q_iload6, q_invs3_20, q_zret, q_iinc4, e_201_0, e_201_6, e_201_7, e_201_9, L_0, L_1, L_1000, L_1009, L_1010, L_1012, k_some, k_none, pRm_i, pRm_r, pRm_0, pF_1, pF_2, inv_s, nN_le, nN_lt, nN_eq, nN_add, nN_mul, nN_lt0, nN_ge0, nN_gt0, nN_le0, nN_eq0, nN_eq1, nN_neN, pIn_n, pIx_n, eq_self, Nat.add_zero, Nat.zero_add, Nat.reduceAdd, Nat.reduceMul, Nat.reduceSub, Nat.zero_le, Nat.reduceLeDiff, Nat.reduceEqDiff, Nat.le_refl, not_false_eq_true, not_true_eq_false, false_implies, true_implies, forall_const, true_and, and_true, if_true, if_false, implies_true, and_self, ne_eq, false_and, and_false, or_false, false_or, true_or, or_true, e1, e2, e3, h2, hq2, c1', Nat.zero_le]
      refine mw_mono (w_push h1 hS) ?_
      rintro _ M1 ⟨rfl, hS1, hA1⟩
      simp only [q_aload0, q_aload0N, q_iconst, q_put_i, pTag_1, q_get_r, pRf_s, q_astore2, q_astore2N, q_aload2, q_aload2N, q_alen, q_istore3, q_istore4, q_nop, q_iload4, q_iload3, q_ic_ge, q_iald, q_istore5, q_iload5, q_sipush, q_invv1, inv_1, q_goto, q_aload1, q_aload1N, q_isub, q_invs2_21, q_ic_ne, q_invv0, q_ic_eq, q_istore6, q_iload6, q_invs3_20, q_zret, q_iinc4, e_201_0, e_201_6, e_201_7, e_201_9, L_0, L_1, L_1000, L_1009, L_1010, L_1012, k_some, k_none, pRm_i, pRm_r, pRm_0, pF_1, pF_2, inv_s]
      exact nx M1 _ _ _ hA1 hS1
    have c1' : 1000 ≤ w := by omega
    by_cases c2 : w < 1009
    · have c2' : ¬ 1009 ≤ w := by omega
      have e5 : nN w - nN 1000 = nN (w - 1000) := by show iN _ - iN _ = _; rw [iN_sub]; unfold nN; congr 1; omega
      rw [show runC fv (w :: r) s = runC fv r (sPush s (fv (w - 1000))) by simp [runC, c1, c2]]
      simp (disch := omega) only [q_aload0, q_aload0N, q_iconst, q_put_i, pTag_1, q_get_r, pRf_s, q_astore2, q_astore2N, q_aload2, q_aload2N, q_alen, q_istore3, q_istore4, q_nop, q_iload4, q_iload3, q_ic_ge, q_iald, q_istore5, q_iload5, q_sipush, q_invv1, inv_1, q_goto, q_aload1, q_aload1N, q_isub, q_invs2_21, q_ic_ne, q_invv0, q_ic_eq, q_istore6, q_iload6, q_invs3_20, q_zret, q_iinc4, e_201_0, e_201_2, e_201_6, e_201_7, e_201_9, L_0, L_1, L_1000, L_1009, L_1010, L_1012, k_some, k_none, pRm_i, pRm_r, pRm_0, pF_1, pF_2, inv_s, nN_le, nN_lt, nN_eq, nN_add, nN_mul, nN_lt0, nN_ge0, nN_gt0, nN_le0, nN_eq0, nN_eq1, nN_neN, pIn_n, pIx_n, eq_self, Nat.add_zero, Nat.zero_add, Nat.reduceAdd, Nat.reduceMul, Nat.reduceSub, Nat.zero_le, Nat.reduceLeDiff, Nat.reduceEqDiff, Nat.le_refl, not_false_eq_true, not_true_eq_false, false_implies, true_implies, forall_const, true_and, and_true, if_true, if_false, implies_true, and_self, ne_eq, false_and, and_false, or_false, false_or, true_or, or_true, e1, e2, e3, h2, hq2, c1', c2', e5, w_atN hf, hfv, Nat.zero_le]
      refine mw_mono (w_push h1 hS) ?_
      rintro _ M1 ⟨rfl, hS1, hA1⟩
      simp only [q_aload0, q_aload0N, q_iconst, q_put_i, pTag_1, q_get_r, pRf_s, q_astore2, q_astore2N, q_aload2, q_aload2N, q_alen, q_istore3, q_istore4, q_nop, q_iload4, q_iload3, q_ic_ge, q_iald, q_istore5, q_iload5, q_sipush, q_invv1, inv_1, q_goto, q_aload1, q_aload1N, q_isub, q_invs2_21, q_ic_ne, q_invv0, q_ic_eq, q_istore6, q_iload6, q_invs3_20, q_zret, q_iinc4, e_201_0, e_201_6, e_201_7, e_201_9, L_0, L_1, L_1000, L_1009, L_1010, L_1012, k_some, k_none, pRm_i, pRm_r, pRm_0, pF_1, pF_2, inv_s]
      exact nx M1 _ _ _ hA1 hS1
    have c2' : 1009 ≤ w := by omega
    by_cases c3 : w = 1012
    · rw [show runC fv (w :: r) s = runC fv r (sPush s.tail (nN 1 - sTop s)) by simp [runC, c1, c2, c3]]
      simp (disch := omega) only [q_aload0, q_aload0N, q_iconst, q_put_i, pTag_1, q_get_r, pRf_s, q_astore2, q_astore2N, q_aload2, q_aload2N, q_alen, q_istore3, q_istore4, q_nop, q_iload4, q_iload3, q_ic_ge, q_iald, q_istore5, q_iload5, q_sipush, q_invv1, inv_1, q_goto, q_aload1, q_aload1N, q_isub, q_invs2_21, q_ic_ne, q_invv0, q_ic_eq, q_istore6, q_iload6, q_invs3_20, q_zret, q_iinc4, e_201_0, e_201_2, e_201_3, e_201_6, e_201_7, e_201_9, L_0, L_1, L_1000, L_1009, L_1010, L_1012, k_some, k_none, pRm_i, pRm_r, pRm_0, pF_1, pF_2, inv_s, nN_le, nN_lt, nN_eq, nN_add, nN_mul, nN_lt0, nN_ge0, nN_gt0, nN_le0, nN_eq0, nN_eq1, nN_neN, pIn_n, pIx_n, eq_self, Nat.add_zero, Nat.zero_add, Nat.reduceAdd, Nat.reduceMul, Nat.reduceSub, Nat.zero_le, Nat.reduceLeDiff, Nat.reduceEqDiff, Nat.le_refl, not_false_eq_true, not_true_eq_false, false_implies, true_implies, forall_const, true_and, and_true, if_true, if_false, implies_true, and_self, ne_eq, false_and, and_false, or_false, false_or, true_or, or_true, e1, e2, e3, h2, hq2, c1', c2', c3, Nat.zero_le]
      refine mw_mono (w_pop h1 hS) ?_
      rintro _ M1 ⟨rfl, hS1, hA1⟩
      simp (disch := omega) only [q_aload0, q_aload0N, q_iconst, q_put_i, pTag_1, q_get_r, pRf_s, q_astore2, q_astore2N, q_aload2, q_aload2N, q_alen, q_istore3, q_istore4, q_nop, q_iload4, q_iload3, q_ic_ge, q_iald, q_istore5, q_iload5, q_sipush, q_invv1, inv_1, q_goto, q_aload1, q_aload1N, q_isub, q_invs2_21, q_ic_ne, q_invv0, q_ic_eq, q_istore6, q_iload6, q_invs3_20, q_zret, q_iinc4, e_201_0, e_201_6, e_201_7, e_201_9, L_0, L_1, L_1000, L_1009, L_1010, L_1012, k_some, k_none, pRm_i, pRm_r, pRm_0, pF_1, pF_2, inv_s, nN_le, nN_lt, nN_eq, nN_add, nN_mul, nN_lt0, nN_ge0, nN_gt0, nN_le0, nN_eq0, nN_eq1, nN_neN, pIn_n, pIx_n, eq_self, Nat.add_zero, Nat.zero_add, Nat.reduceAdd, Nat.reduceMul, Nat.reduceSub, Nat.zero_le, Nat.reduceLeDiff, Nat.reduceEqDiff, Nat.le_refl, not_false_eq_true, not_true_eq_false, false_implies, true_implies, forall_const, true_and, and_true, if_true, if_false, implies_true, and_self, ne_eq, false_and, and_false, or_false, false_or, true_or, or_true, hA1.S, hq2]
      refine mw_mono (w_push (h1.ag hA1) hS1) ?_
      rintro _ M2 ⟨rfl, hS2, hA2⟩
      simp only [q_aload0, q_aload0N, q_iconst, q_put_i, pTag_1, q_get_r, pRf_s, q_astore2, q_astore2N, q_aload2, q_aload2N, q_alen, q_istore3, q_istore4, q_nop, q_iload4, q_iload3, q_ic_ge, q_iald, q_istore5, q_iload5, q_sipush, q_invv1, inv_1, q_goto, q_aload1, q_aload1N, q_isub, q_invs2_21, q_ic_ne, q_invv0, q_ic_eq, q_istore6, q_iload6, q_invs3_20, q_zret, q_iinc4, e_201_0, e_201_6, e_201_7, e_201_9, L_0, L_1, L_1000, L_1009, L_1010, L_1012, k_some, k_none, pRm_i, pRm_r, pRm_0, pF_1, pF_2, inv_s]
      exact nx M2 _ _ _ (hA1.trans hA2) hS2
    by_cases c4 : w = 1009 ∨ w = 1010
    · rw [show runC fv (w :: r) s = if sTop s = nN 1 then decide (w = 1009) else runC fv r s.tail by simp [runC, c1, c2, c3, c4]]
      have go : bw (d + 3) 201 5 ([some (.ref q), some (.ref f), some (.ref (q + 2)), some (.int (nN cs.length)), some (.int (nN k)), some (.int (nN w)), l6], [], M) (fun o M' => o = .inl (some (.int (bI ((if sTop s = nN 1 then decide (w = 1009) else runC fv r s.tail) = true)))) ∧ Ag (XQ q) M M') := by
        rw [e_201_5]
        simp (disch := omega) only [q_aload0, q_aload0N, q_iconst, q_put_i, pTag_1, q_get_r, pRf_s, q_astore2, q_astore2N, q_aload2, q_aload2N, q_alen, q_istore3, q_istore4, q_nop, q_iload4, q_iload3, q_ic_ge, q_iald, q_istore5, q_iload5, q_sipush, q_invv1, inv_1, q_goto, q_aload1, q_aload1N, q_isub, q_invs2_21, q_ic_ne, q_invv0, q_ic_eq, q_istore6, q_iload6, q_invs3_20, q_zret, q_iinc4, e_201_0, e_201_6, e_201_7, e_201_9, L_0, L_1, L_1000, L_1009, L_1010, L_1012, k_some, k_none, pRm_i, pRm_r, pRm_0, pF_1, pF_2, inv_s, nN_le, nN_lt, nN_eq, nN_add, nN_mul, nN_lt0, nN_ge0, nN_gt0, nN_le0, nN_eq0, nN_eq1, nN_neN, pIn_n, pIx_n, eq_self, Nat.add_zero, Nat.zero_add, Nat.reduceAdd, Nat.reduceMul, Nat.reduceSub, Nat.zero_le, Nat.reduceLeDiff, Nat.reduceEqDiff, Nat.le_refl, not_false_eq_true, not_true_eq_false, false_implies, true_implies, forall_const, true_and, and_true, if_true, if_false, implies_true, and_self, ne_eq, false_and, and_false, or_false, false_or, true_or, or_true, hq2]
        refine mw_mono (w_pop h1 hS) ?_
        rintro _ M1 ⟨rfl, hS1, hA1⟩
        by_cases c5 : sTop s = nN 1
        · by_cases c6 : w = 1009
          · simp (disch := omega) only [q_aload0, q_aload0N, q_iconst, q_put_i, pTag_1, q_get_r, pRf_s, q_astore2, q_astore2N, q_aload2, q_aload2N, q_alen, q_istore3, q_istore4, q_nop, q_iload4, q_iload3, q_ic_ge, q_iald, q_istore5, q_iload5, q_sipush, q_invv1, inv_1, q_goto, q_aload1, q_aload1N, q_isub, q_invs2_21, q_ic_ne, q_invv0, q_ic_eq, q_istore6, q_iload6, q_invs3_20, q_zret, q_iinc4, e_201_0, e_201_6, e_201_7, e_201_9, L_0, L_1, L_1000, L_1009, L_1010, L_1012, k_some, k_none, pRm_i, pRm_r, pRm_0, pF_1, pF_2, inv_s, nN_le, nN_lt, nN_eq, nN_add, nN_mul, nN_lt0, nN_ge0, nN_gt0, nN_le0, nN_eq0, nN_eq1, nN_neN, pIn_n, pIx_n, eq_self, Nat.add_zero, Nat.zero_add, Nat.reduceAdd, Nat.reduceMul, Nat.reduceSub, Nat.zero_le, Nat.reduceLeDiff, Nat.reduceEqDiff, Nat.le_refl, not_false_eq_true, not_true_eq_false, false_implies, true_implies, forall_const, true_and, and_true, if_true, if_false, implies_true, and_self, ne_eq, false_and, and_false, or_false, false_or, true_or, or_true, c5, c6]
            simp [zb_1, bI, hA1]
          · simp (disch := omega) only [q_aload0, q_aload0N, q_iconst, q_put_i, pTag_1, q_get_r, pRf_s, q_astore2, q_astore2N, q_aload2, q_aload2N, q_alen, q_istore3, q_istore4, q_nop, q_iload4, q_iload3, q_ic_ge, q_iald, q_istore5, q_iload5, q_sipush, q_invv1, inv_1, q_goto, q_aload1, q_aload1N, q_isub, q_invs2_21, q_ic_ne, q_invv0, q_ic_eq, q_istore6, q_iload6, q_invs3_20, q_zret, q_iinc4, e_201_0, e_201_6, e_201_7, e_201_9, L_0, L_1, L_1000, L_1009, L_1010, L_1012, k_some, k_none, pRm_i, pRm_r, pRm_0, pF_1, pF_2, inv_s, nN_le, nN_lt, nN_eq, nN_add, nN_mul, nN_lt0, nN_ge0, nN_gt0, nN_le0, nN_eq0, nN_eq1, nN_neN, pIn_n, pIx_n, eq_self, Nat.add_zero, Nat.zero_add, Nat.reduceAdd, Nat.reduceMul, Nat.reduceSub, Nat.zero_le, Nat.reduceLeDiff, Nat.reduceEqDiff, Nat.le_refl, not_false_eq_true, not_true_eq_false, false_implies, true_implies, forall_const, true_and, and_true, if_true, if_false, implies_true, and_self, ne_eq, false_and, and_false, or_false, false_or, true_or, or_true, c5, c6]
            simp [zb_0, bI, hA1, c6]
        · simp (disch := omega) only [q_aload0, q_aload0N, q_iconst, q_put_i, pTag_1, q_get_r, pRf_s, q_astore2, q_astore2N, q_aload2, q_aload2N, q_alen, q_istore3, q_istore4, q_nop, q_iload4, q_iload3, q_ic_ge, q_iald, q_istore5, q_iload5, q_sipush, q_invv1, inv_1, q_goto, q_aload1, q_aload1N, q_isub, q_invs2_21, q_ic_ne, q_invv0, q_ic_eq, q_istore6, q_iload6, q_invs3_20, q_zret, q_iinc4, e_201_0, e_201_6, e_201_7, e_201_9, L_0, L_1, L_1000, L_1009, L_1010, L_1012, k_some, k_none, pRm_i, pRm_r, pRm_0, pF_1, pF_2, inv_s, nN_le, nN_lt, nN_eq, nN_add, nN_mul, nN_lt0, nN_ge0, nN_gt0, nN_le0, nN_eq0, nN_eq1, nN_neN, pIn_n, pIx_n, eq_self, Nat.add_zero, Nat.zero_add, Nat.reduceAdd, Nat.reduceMul, Nat.reduceSub, Nat.zero_le, Nat.reduceLeDiff, Nat.reduceEqDiff, Nat.le_refl, not_false_eq_true, not_true_eq_false, false_implies, true_implies, forall_const, true_and, and_true, if_true, if_false, implies_true, and_self, ne_eq, false_and, and_false, or_false, false_or, true_or, or_true, c5]
          exact nx M1 _ _ _ hA1 hS1
      rcases c4 with c4 | c4
      · have c7 : ¬ w = 1010 := by omega
        simp (disch := omega) only [q_aload0, q_aload0N, q_iconst, q_put_i, pTag_1, q_get_r, pRf_s, q_astore2, q_astore2N, q_aload2, q_aload2N, q_alen, q_istore3, q_istore4, q_nop, q_iload4, q_iload3, q_ic_ge, q_iald, q_istore5, q_iload5, q_sipush, q_invv1, inv_1, q_goto, q_aload1, q_aload1N, q_isub, q_invs2_21, q_ic_ne, q_invv0, q_ic_eq, q_istore6, q_iload6, q_invs3_20, q_zret, q_iinc4, e_201_0, e_201_2, e_201_3, e_201_4, e_201_6, e_201_7, e_201_9, L_0, L_1, L_1000, L_1009, L_1010, L_1012, k_some, k_none, pRm_i, pRm_r, pRm_0, pF_1, pF_2, inv_s, nN_le, nN_lt, nN_eq, nN_add, nN_mul, nN_lt0, nN_ge0, nN_gt0, nN_le0, nN_eq0, nN_eq1, nN_neN, pIn_n, pIx_n, eq_self, Nat.add_zero, Nat.zero_add, Nat.reduceAdd, Nat.reduceMul, Nat.reduceSub, Nat.zero_le, Nat.reduceLeDiff, Nat.reduceEqDiff, Nat.le_refl, not_false_eq_true, not_true_eq_false, false_implies, true_implies, forall_const, true_and, and_true, if_true, if_false, implies_true, and_self, ne_eq, false_and, and_false, or_false, false_or, true_or, or_true, e1, e2, e3, h2, hq2, c1', c2', c3, c4, Nat.zero_le]
        simp only [c4] at go
        exact go
      · have c7 : ¬ w = 1009 := by omega
        simp (disch := omega) only [q_aload0, q_aload0N, q_iconst, q_put_i, pTag_1, q_get_r, pRf_s, q_astore2, q_astore2N, q_aload2, q_aload2N, q_alen, q_istore3, q_istore4, q_nop, q_iload4, q_iload3, q_ic_ge, q_iald, q_istore5, q_iload5, q_sipush, q_invv1, inv_1, q_goto, q_aload1, q_aload1N, q_isub, q_invs2_21, q_ic_ne, q_invv0, q_ic_eq, q_istore6, q_iload6, q_invs3_20, q_zret, q_iinc4, e_201_0, e_201_2, e_201_3, e_201_4, e_201_6, e_201_7, e_201_9, L_0, L_1, L_1000, L_1009, L_1010, L_1012, k_some, k_none, pRm_i, pRm_r, pRm_0, pF_1, pF_2, inv_s, nN_le, nN_lt, nN_eq, nN_add, nN_mul, nN_lt0, nN_ge0, nN_gt0, nN_le0, nN_eq0, nN_eq1, nN_neN, pIn_n, pIx_n, eq_self, Nat.add_zero, Nat.zero_add, Nat.reduceAdd, Nat.reduceMul, Nat.reduceSub, Nat.zero_le, Nat.reduceLeDiff, Nat.reduceEqDiff, Nat.le_refl, not_false_eq_true, not_true_eq_false, false_implies, true_implies, forall_const, true_and, and_true, if_true, if_false, implies_true, and_self, ne_eq, false_and, and_false, or_false, false_or, true_or, or_true, e1, e2, e3, h2, hq2, c1', c2', c3, c4, c7, Nat.zero_le]
        simp only [c4] at go
        exact go
    · have c8 : ¬ w = 1009 := fun z => c4 (Or.inl z)
      have c9 : ¬ w = 1010 := fun z => c4 (Or.inr z)
      rw [show runC fv (w :: r) s = runC fv r (sPush s.tail.tail (sJoin w (sTop s.tail) (sTop s))) by simp [runC, c1, c2, c3, c8, c9]]
      simp (disch := omega) only [q_aload0, q_aload0N, q_iconst, q_put_i, pTag_1, q_get_r, pRf_s, q_astore2, q_astore2N, q_aload2, q_aload2N, q_alen, q_istore3, q_istore4, q_nop, q_iload4, q_iload3, q_ic_ge, q_iald, q_istore5, q_iload5, q_sipush, q_invv1, inv_1, q_goto, q_aload1, q_aload1N, q_isub, q_invs2_21, q_ic_ne, q_invv0, q_ic_eq, q_istore6, q_iload6, q_invs3_20, q_zret, q_iinc4, e_201_0, e_201_2, e_201_3, e_201_4, e_201_6, e_201_7, e_201_9, L_0, L_1, L_1000, L_1009, L_1010, L_1012, k_some, k_none, pRm_i, pRm_r, pRm_0, pF_1, pF_2, inv_s, nN_le, nN_lt, nN_eq, nN_add, nN_mul, nN_lt0, nN_ge0, nN_gt0, nN_le0, nN_eq0, nN_eq1, nN_neN, pIn_n, pIx_n, eq_self, Nat.add_zero, Nat.zero_add, Nat.reduceAdd, Nat.reduceMul, Nat.reduceSub, Nat.zero_le, Nat.reduceLeDiff, Nat.reduceEqDiff, Nat.le_refl, not_false_eq_true, not_true_eq_false, false_implies, true_implies, forall_const, true_and, and_true, if_true, if_false, implies_true, and_self, ne_eq, false_and, and_false, or_false, false_or, true_or, or_true, e1, e2, e3, h2, hq2, c1', c2', c3, c8, c9, Nat.zero_le]
      refine mw_mono (w_pop h1 hS) ?_
      rintro _ M1 ⟨rfl, hS1, hA1⟩
      simp (disch := omega) only [q_aload0, q_aload0N, q_iconst, q_put_i, pTag_1, q_get_r, pRf_s, q_astore2, q_astore2N, q_aload2, q_aload2N, q_alen, q_istore3, q_istore4, q_nop, q_iload4, q_iload3, q_ic_ge, q_iald, q_istore5, q_iload5, q_sipush, q_invv1, inv_1, q_goto, q_aload1, q_aload1N, q_isub, q_invs2_21, q_ic_ne, q_invv0, q_ic_eq, q_istore6, q_iload6, q_invs3_20, q_zret, q_iinc4, e_201_0, e_201_6, e_201_7, e_201_9, L_0, L_1, L_1000, L_1009, L_1010, L_1012, k_some, k_none, pRm_i, pRm_r, pRm_0, pF_1, pF_2, inv_s, nN_le, nN_lt, nN_eq, nN_add, nN_mul, nN_lt0, nN_ge0, nN_gt0, nN_le0, nN_eq0, nN_eq1, nN_neN, pIn_n, pIx_n, eq_self, Nat.add_zero, Nat.zero_add, Nat.reduceAdd, Nat.reduceMul, Nat.reduceSub, Nat.zero_le, Nat.reduceLeDiff, Nat.reduceEqDiff, Nat.le_refl, not_false_eq_true, not_true_eq_false, false_implies, true_implies, forall_const, true_and, and_true, if_true, if_false, implies_true, and_self, ne_eq, false_and, and_false, or_false, false_or, true_or, or_true, hA1.S, hq2]
      refine mw_mono (w_pop (h1.ag hA1) hS1) ?_
      rintro _ M2 ⟨rfl, hS2, hA2⟩
      simp (disch := omega) only [q_aload0, q_aload0N, q_iconst, q_put_i, pTag_1, q_get_r, pRf_s, q_astore2, q_astore2N, q_aload2, q_aload2N, q_alen, q_istore3, q_istore4, q_nop, q_iload4, q_iload3, q_ic_ge, q_iald, q_istore5, q_iload5, q_sipush, q_invv1, inv_1, q_goto, q_aload1, q_aload1N, q_isub, q_invs2_21, q_ic_ne, q_invv0, q_ic_eq, q_istore6, q_iload6, q_invs3_20, q_zret, q_iinc4, e_201_0, e_201_6, e_201_7, e_201_9, L_0, L_1, L_1000, L_1009, L_1010, L_1012, k_some, k_none, pRm_i, pRm_r, pRm_0, pF_1, pF_2, inv_s, nN_le, nN_lt, nN_eq, nN_add, nN_mul, nN_lt0, nN_ge0, nN_gt0, nN_le0, nN_eq0, nN_eq1, nN_neN, pIn_n, pIx_n, eq_self, Nat.add_zero, Nat.zero_add, Nat.reduceAdd, Nat.reduceMul, Nat.reduceSub, Nat.zero_le, Nat.reduceLeDiff, Nat.reduceEqDiff, Nat.le_refl, not_false_eq_true, not_true_eq_false, false_implies, true_implies, forall_const, true_and, and_true, if_true, if_false, implies_true, and_self, ne_eq, false_and, and_false, or_false, false_or, true_or, or_true, hA1.S, hA2.S, hq2, w_joined]
      refine mw_mono (w_push ((h1.ag hA1).ag hA2) hS2) ?_
      rintro _ M3 ⟨rfl, hS3, hA3⟩
      simp only [q_aload0, q_aload0N, q_iconst, q_put_i, pTag_1, q_get_r, pRf_s, q_astore2, q_astore2N, q_aload2, q_aload2N, q_alen, q_istore3, q_istore4, q_nop, q_iload4, q_iload3, q_ic_ge, q_iald, q_istore5, q_iload5, q_sipush, q_invv1, inv_1, q_goto, q_aload1, q_aload1N, q_isub, q_invs2_21, q_ic_ne, q_invv0, q_ic_eq, q_istore6, q_iload6, q_invs3_20, q_zret, q_iinc4, e_201_0, e_201_6, e_201_7, e_201_9, L_0, L_1, L_1000, L_1009, L_1010, L_1012, k_some, k_none, pRm_i, pRm_r, pRm_0, pF_1, pF_2, inv_s]
      exact nx M3 _ _ _ ((hA1.trans hA2).trans hA3) hS3
theorem w_says {cs : List Nat} {fv : Nat → Int32} (hT : TmO M q cs) (hf : gS M f = (100, 9)) (hfv : ∀ i, i < 9 → gI M f i = fv i) (hf2 : f < 101) : mw (d + 4) 201 [.ref q, .ref f] M (fun o M' => o = .inl (some (.int (bI (runC fv cs [] = true)))) ∧ Ag (XQ q) M M') := by
  have h1 := hT.1
  obtain ⟨g1, g2, g3, g4, g5, g6⟩ := hT.1
  have h2 := hT.2.1
  have hA : Ag (XQ q) M (sI M q 2 (nN 0)) := Ag.one (Or.inr ⟨rfl, rfl⟩)
  have e9 : iN (cs.length : Nat) = nN cs.length := rfl
  simp (disch := omega) only [m_201, q_aload0, q_aload0N, q_iconst, q_put_i, pTag_1, q_get_r, pRf_s, q_astore2, q_astore2N, q_aload2, q_aload2N, q_alen, q_istore3, q_istore4, q_nop, q_iload4, q_iload3, q_ic_ge, q_iald, q_istore5, q_iload5, q_sipush, q_invv1, inv_1, q_goto, q_aload1, q_aload1N, q_isub, q_invs2_21, q_ic_ne, q_invv0, q_ic_eq, q_istore6, q_iload6, q_invs3_20, q_zret, q_iinc4, e_201_0, L_0, L_1, L_1000, L_1009, L_1010, L_1012, k_some, k_none, pRm_i, pRm_r, pRm_0, pF_1, pF_2, inv_s, nN_le, nN_lt, nN_eq, nN_add, nN_mul, nN_lt0, nN_ge0, nN_gt0, nN_le0, nN_eq0, nN_eq1, nN_neN, pIn_n, pIx_n, eq_self, Nat.add_zero, Nat.zero_add, Nat.reduceAdd, Nat.reduceMul, Nat.reduceSub, Nat.zero_le, Nat.reduceLeDiff, Nat.reduceEqDiff, Nat.le_refl, not_false_eq_true, not_true_eq_false, false_implies, true_implies, forall_const, true_and, and_true, if_true, if_false, implies_true, and_self, ne_eq, false_and, and_false, or_false, false_or, true_or, or_true, g2, g5, gS_sI, gP_sI, h2, e9, Nat.le_refl]
  refine bw_mono (w_saysL cs 0 [] (sI M q 2 (nN 0)) _ _ (by omega) (fun i _ => by rw [Nat.zero_add]) ?_ ⟨by simp, by simp [gI_sI], trivial⟩ hf (fun i hi => ?_) hf2) (fun o M' h => ⟨h.1, hA.trans h.2⟩)
  · exact hT.ag (t := 0) (hA.mono fun h k z => Or.inr ⟨q, h1, z⟩) (by omega)
  · rw [hA.I, hfv i hi]
    rintro (z | ⟨z, -⟩) <;> omega
end SY
