/-! THE CLASS READS A TEMPER'S TEXT: the whole -/
def TxX (R tr br cr h k : Nat) : Prop := h = tr ∨ h = br ∨ h = cr ∨ (h = R ∧ ((5 ≤ k ∧ k ≤ 9) ∨ k = 11))
section RT
variable {d n R tr br tb sr cr p q k m c K : Nat} {b : Nat → Nat} {W : List (List Nat)} {cs : List Nat} {M M1 M' : pMem} {Q : pOut → pMem → Prop} {x dp : Int32}
theorem RdZ_X : ∀ h k, RdZ R cr h k → TxX R tr br cr h k := by
  rintro h k (z | ⟨z, z2⟩)
  · exact Or.inr (Or.inr (Or.inl z))
  · exact Or.inr (Or.inr (Or.inr ⟨z, by omega⟩))
theorem w_readT (hr : RdS M R tr br tb sr) (hw : WdO sr W) (hW : W2 n b W) (hb : ∀ k, k < n → gI M tb k = nN (b k)) (hb2 : ∀ k, b k < 256) (hn : n ≤ 400) (a1 : (gS M R).1 = 8) (a2 : gP M R 10 = some cr) (a3 : gS M cr = (100, 400)) (a4 : cr ≠ tr ∧ cr ≠ br ∧ cr ≠ tb ∧ cr ≠ R) (h11 : gI M R 11 = nN 0) (h2 : gI M R 2 = nN 12) :
    mw (d + 34) 180 [.ref R, .int (nN n)] M (fun o M' => TxE R tr br tb sr cr n b W [] (pTemper (th W n b) (nx9 n b) 400 (nb n b 0)) o M' ∧ Ag (TxX R tr br cr) M M') := by
  have m1 : (if 400 < n then nN 400 else nN n) = nN n := if_neg (by omega)
  have m2 : (if 0 < n then nN n else nN 0) = nN n := by
    by_cases c : 0 < n
    · rw [if_pos c]
    · rw [if_neg c, show n = 0 from by omega]
  have A0 : Ag (TxX R tr br cr) M (sI (sI M R 5 (nN n)) R 9 (iN (-1))) := Ag.put (Ag.one (Or.inr (Or.inr (Or.inr ⟨rfl, by omega⟩)))) (Or.inr (Or.inr (Or.inr ⟨rfl, by omega⟩)))
  have hr0 : RdS (sI (sI M R 5 (nN n)) R 9 (iN (-1))) R tr br tb sr := hr
  have hk0 := hr0.k
  simp (disch := omega) only [m_180, q_aload0, q_aload0N, q_iconst, q_iload1, q_sipush, q_min, q_max, q_put_i, pTag_2, q_invv0, inv_2, q_get_i, pRf_s, q_ic_ne, q_zret, q_istore2, q_nop, q_iload2, q_ic_ge, q_if_ne, q_invv1, q_iinc2, q_goto, e_180_0, L_0, L_1, L_400, L_2059, L_3000, k_some, k_none, pRm_i, pRm_r, pRm_0, pF_1, pF_2, inv_s, hr.k, m1, m2, hk0, gS_sI, nN_le, nN_lt, nN_eq, nN_add, nN_mul, nN_lt0, nN_ge0, nN_gt0, nN_le0, nN_eq0, nN_eq1, nN_neN, pIn_n, pIx_n, eq_self, Nat.reduceLT, Bool.false_eq_true, Nat.add_zero, Nat.zero_add, Nat.reduceAdd, Nat.reduceMul, Nat.reduceSub, Nat.zero_le, Nat.reduceLeDiff, Nat.reduceEqDiff, Nat.le_refl, not_false_eq_true, not_true_eq_false, false_implies, true_implies, forall_const, true_and, and_true, if_true, if_false, implies_true, and_self, ne_eq, false_and, and_false, or_false, false_or, true_or, or_true]
  generalize hM0 : sI (sI M R 5 (nN n)) R 9 (iN (-1)) = M0 at A0 hr0 hk0
  have y0 : ∀ k, k < n → gI M0 tb k = nN (b k) := fun k hk => by
    rw [A0.I]
    · exact hb k hk
    · rintro (z | z | z | ⟨z, -⟩)
      · exact hr.n2 z
      · exact hr.n3 z
      · exact a4.2.2.1 z.symm
      · exact hr.n6 z.symm
  have l0 : gI M0 R 5 = nN n := by rw [← hM0, gI_sI, if_neg (by omega), gI_sI, if_pos ⟨rfl, rfl⟩]
  have f0 : gI M0 R 9 = iN (-1) := by rw [← hM0, gI_sI, if_pos ⟨rfl, rfl⟩]
  have b0 : gI M0 R 11 = nN 0 := by rw [← hM0, gI_sI, if_neg (by omega), gI_sI, if_neg (by omega)]; exact h11
  have c0 : gI M0 R 2 = nN 12 := by rw [← hM0, gI_sI, if_neg (by omega), gI_sI, if_neg (by omega)]; exact h2
  have aa1 : (gS M0 R).1 = 8 := by rw [A0.S]; exact a1
  simp (disch := omega) only [q_aload0, q_aload0N, q_iconst, q_iload1, q_sipush, q_min, q_max, q_put_i, pTag_2, q_invv0, inv_2, q_get_i, pRf_s, q_ic_ne, q_zret, q_istore2, q_nop, q_iload2, q_ic_ge, q_if_ne, q_invv1, q_iinc2, q_goto, e_180_0, L_0, L_1, L_400, L_2059, L_3000, k_some, k_none, pRm_i, pRm_r, pRm_0, pF_1, pF_2, inv_s, aa1, a1, pF_8, nN_le, nN_lt, nN_eq, nN_add, nN_mul, nN_lt0, nN_ge0, nN_gt0, nN_le0, nN_eq0, nN_eq1, nN_neN, pIn_n, pIx_n, eq_self, Nat.reduceLT, Bool.false_eq_true, Nat.add_zero, Nat.zero_add, Nat.reduceAdd, Nat.reduceMul, Nat.reduceSub, Nat.zero_le, Nat.reduceLeDiff, Nat.reduceEqDiff, Nat.le_refl, not_false_eq_true, not_true_eq_false, false_implies, true_implies, forall_const, true_and, and_true, if_true, if_false, implies_true, and_self, ne_eq, false_and, and_false, or_false, false_or, true_or, or_true]
  refine mw_mono (w_cutUp hr0 hw y0 hb2 hn l0 f0) ?_
  rintro _ M1 ⟨rfl, h1, A1⟩
  have T1 : TpS M1 R tr br tb sr cr n b W (nb n b 0) [] := by
    refine ⟨h1, ⟨by rw [A1.S]; exact aa1, by rw [A1.P, A0.P]; exact a2, by rw [A1.S, A0.S]; exact a3⟩, a4, ?_, fun i hi => absurd hi (Nat.not_lt_zero _)⟩
    rw [A1.I]
    · exact b0
    · rintro (z | z | ⟨-, z⟩)
      · exact hr.n4 z
      · exact hr.n5 z
      · omega
  have e2 : gI M1 R 2 = nN 12 := by
    rw [A1.I]
    · exact c0
    · rintro (z | z | ⟨-, z⟩)
      · exact hr.n4 z
      · exact hr.n5 z
      · omega
  have A01 : Ag (TxX R tr br cr) M M1 := A0.trans (A1.mono fun h k z => by
    rcases z with z | z | ⟨z, z2⟩
    · exact Or.inl z
    · exact Or.inr (Or.inl z)
    · exact Or.inr (Or.inr (Or.inr ⟨z, by omega⟩)))
  have hk81 := T1.2.1.1
  have htl := h1.tl (nb n b 0)
  have hne : ∀ (M2 : pMem) (M3 : pMem), Ag (RdZ R cr) M2 M3 → gI M3 R 2 = gI M2 R 2 := fun M2 M3 A => A.I (by
    rintro (z | ⟨-, z⟩)
    · exact a4.2.2.2 z.symm
    · omega)
  unfold pTemper
  by_cases c3 : th W n b (nb n b 0) = 3000
  · rw [if_pos c3]
    simp (disch := omega) only [q_aload0, q_aload0N, q_iconst, q_iload1, q_sipush, q_min, q_max, q_put_i, pTag_2, q_invv0, inv_2, q_get_i, pRf_s, q_ic_ne, q_zret, q_istore2, q_nop, q_iload2, q_ic_ge, q_if_ne, q_invv1, q_iinc2, q_goto, e_180_0, L_0, L_1, L_400, L_2059, L_3000, k_some, k_none, pRm_i, pRm_r, pRm_0, pF_1, pF_2, inv_s, hk81, h1.tg, c3, zb_1, nN_le, nN_lt, nN_eq, nN_add, nN_mul, nN_lt0, nN_ge0, nN_gt0, nN_le0, nN_eq0, nN_eq1, nN_neN, pIn_n, pIx_n, eq_self, Nat.reduceLT, Bool.false_eq_true, Nat.add_zero, Nat.zero_add, Nat.reduceAdd, Nat.reduceMul, Nat.reduceSub, Nat.zero_le, Nat.reduceLeDiff, Nat.reduceEqDiff, Nat.le_refl, not_false_eq_true, not_true_eq_false, false_implies, true_implies, forall_const, true_and, and_true, if_true, if_false, implies_true, and_self, ne_eq, false_and, and_false, or_false, false_or, true_or, or_true]
    exact ⟨⟨rfl, nb n b 0, T1, by show (0 : Nat) ≤ 400; omega⟩, A01⟩
  · rw [if_neg c3]
    have key : ∀ (j l q : Nat) (cs : List Nat) (M2 : pMem), l + j = 12 → TpS M2 R tr br tb sr cr n b W q cs → cs.length ≤ q → gI M2 R 2 = nN 12 → Ag (TxX R tr br cr) M M2 →
        bw (d + 33) 180 2 ([some (.ref R), some (.int (nN n)), some (.int (nN l))], [], M2) (fun o M' => TxE R tr br tb sr cr n b W cs (pTxt (th W n b) (nx9 n b) 400 j q) o M' ∧ Ag (TxX R tr br cr) M M') := by
      intro j
      induction j with
      | zero =>
        intro l q cs M2 hl h3 h4 h5 A2
        have hk82 := h3.2.1.1
        have el : 12 ≤ l := by omega
        rw [e_180_2]
        simp (disch := omega) only [q_aload0, q_aload0N, q_iconst, q_iload1, q_sipush, q_min, q_max, q_put_i, pTag_2, q_invv0, inv_2, q_get_i, pRf_s, q_ic_ne, q_zret, q_istore2, q_nop, q_iload2, q_ic_ge, q_if_ne, q_invv1, q_iinc2, q_goto, e_180_0, e_180_6, L_0, L_1, L_400, L_2059, L_3000, k_some, k_none, pRm_i, pRm_r, pRm_0, pF_1, pF_2, inv_s, hk82, h5, el, nN_le, nN_lt, nN_eq, nN_add, nN_mul, nN_lt0, nN_ge0, nN_gt0, nN_le0, nN_eq0, nN_eq1, nN_neN, pIn_n, pIx_n, eq_self, Nat.reduceLT, Bool.false_eq_true, Nat.add_zero, Nat.zero_add, Nat.reduceAdd, Nat.reduceMul, Nat.reduceSub, Nat.zero_le, Nat.reduceLeDiff, Nat.reduceEqDiff, Nat.le_refl, not_false_eq_true, not_true_eq_false, false_implies, true_implies, forall_const, true_and, and_true, if_true, if_false, implies_true, and_self, ne_eq, false_and, and_false, or_false, false_or, true_or, or_true]
        refine mw_mono (w_wrongT h3) ?_
        rintro _ M3 ⟨⟨rfl, h6⟩, A3⟩
        simp (disch := omega) only [q_aload0, q_aload0N, q_iconst, q_iload1, q_sipush, q_min, q_max, q_put_i, pTag_2, q_invv0, inv_2, q_get_i, pRf_s, q_ic_ne, q_zret, q_istore2, q_nop, q_iload2, q_ic_ge, q_if_ne, q_invv1, q_iinc2, q_goto, e_180_0, L_0, L_1, L_400, L_2059, L_3000, k_some, k_none, pRm_i, pRm_r, pRm_0, pF_1, pF_2, inv_s, zb_0, nN_le, nN_lt, nN_eq, nN_add, nN_mul, nN_lt0, nN_ge0, nN_gt0, nN_le0, nN_eq0, nN_eq1, nN_neN, pIn_n, pIx_n, eq_self, Nat.reduceLT, Bool.false_eq_true, Nat.add_zero, Nat.zero_add, Nat.reduceAdd, Nat.reduceMul, Nat.reduceSub, Nat.zero_le, Nat.reduceLeDiff, Nat.reduceEqDiff, Nat.le_refl, not_false_eq_true, not_true_eq_false, false_implies, true_implies, forall_const, true_and, and_true, if_true, if_false, implies_true, and_self, ne_eq, false_and, and_false, or_false, false_or, true_or, or_true]
        exact ⟨⟨rfl, h6⟩, A2.trans (A3.mono RdZ_X)⟩
      | succ j ih =>
        intro l q cs M2 hl h3 h4 h5 A2
        have hk82 := h3.2.1.1
        have el : ¬ 12 ≤ l := by omega
        have hqn := h3.1.le
        have G := Gd_line hqn h3.1.at9 hW
        rw [e_180_2]
        simp (disch := omega) only [q_aload0, q_aload0N, q_iconst, q_iload1, q_sipush, q_min, q_max, q_put_i, pTag_2, q_invv0, inv_2, q_get_i, pRf_s, q_ic_ne, q_zret, q_istore2, q_nop, q_iload2, q_ic_ge, q_if_ne, q_invv1, q_iinc2, q_goto, e_180_0, L_0, L_1, L_400, L_2059, L_3000, k_some, k_none, pRm_i, pRm_r, pRm_0, pF_1, pF_2, inv_s, hk82, h5, el, pF_8, nN_le, nN_lt, nN_eq, nN_add, nN_mul, nN_lt0, nN_ge0, nN_gt0, nN_le0, nN_eq0, nN_eq1, nN_neN, pIn_n, pIx_n, eq_self, Nat.reduceLT, Bool.false_eq_true, Nat.add_zero, Nat.zero_add, Nat.reduceAdd, Nat.reduceMul, Nat.reduceSub, Nat.zero_le, Nat.reduceLeDiff, Nat.reduceEqDiff, Nat.le_refl, not_false_eq_true, not_true_eq_false, false_implies, true_implies, forall_const, true_and, and_true, if_true, if_false, implies_true, and_self, ne_eq, false_and, and_false, or_false, false_or, true_or, or_true]
        refine mw_mono (w_lineC (d := d + 3) h3 h4 hW) ?_
        rintro o M3 ⟨h6, A3⟩
        unfold pTxt
        cases hs : pLine (th W n b) (nx9 n b) 400 q with
        | inl e =>
          rw [hs] at h6
          obtain ⟨rfl, h7⟩ := h6
          simp (disch := omega) only [q_aload0, q_aload0N, q_iconst, q_iload1, q_sipush, q_min, q_max, q_put_i, pTag_2, q_invv0, inv_2, q_get_i, pRf_s, q_ic_ne, q_zret, q_istore2, q_nop, q_iload2, q_ic_ge, q_if_ne, q_invv1, q_iinc2, q_goto, e_180_0, L_0, L_1, L_400, L_2059, L_3000, k_some, k_none, pRm_i, pRm_r, pRm_0, pF_1, pF_2, inv_s, zb_0, nN_le, nN_lt, nN_eq, nN_add, nN_mul, nN_lt0, nN_ge0, nN_gt0, nN_le0, nN_eq0, nN_eq1, nN_neN, pIn_n, pIx_n, eq_self, Nat.reduceLT, Bool.false_eq_true, Nat.add_zero, Nat.zero_add, Nat.reduceAdd, Nat.reduceMul, Nat.reduceSub, Nat.zero_le, Nat.reduceLeDiff, Nat.reduceEqDiff, Nat.le_refl, not_false_eq_true, not_true_eq_false, false_implies, true_implies, forall_const, true_and, and_true, if_true, if_false, implies_true, and_self, ne_eq, false_and, and_false, or_false, false_or, true_or, or_true]
          exact ⟨⟨rfl, h7⟩, A2.trans (A3.mono RdZ_X)⟩
        | inr s =>
          rw [hs] at h6 G
          obtain ⟨rfl, h7⟩ := h6
          obtain ⟨g1, ⟨g2, g3⟩, -⟩ := G
          have hk83 := h7.2.1.1
          have htl3 := h7.1.tl s.1
          have hl7 : (cs ++ s.2.1).length ≤ s.1 := by rw [List.length_append]; omega
          dsimp only
          by_cases c4 : th W n b s.1 = 3000
          · rw [if_pos c4]
            simp (disch := omega) only [q_aload0, q_aload0N, q_iconst, q_iload1, q_sipush, q_min, q_max, q_put_i, pTag_2, q_invv0, inv_2, q_get_i, pRf_s, q_ic_ne, q_zret, q_istore2, q_nop, q_iload2, q_ic_ge, q_if_ne, q_invv1, q_iinc2, q_goto, e_180_0, e_180_3, L_0, L_1, L_400, L_2059, L_3000, k_some, k_none, pRm_i, pRm_r, pRm_0, pF_1, pF_2, inv_s, hk83, h7.1.tg, c4, zb_1, nN_le, nN_lt, nN_eq, nN_add, nN_mul, nN_lt0, nN_ge0, nN_gt0, nN_le0, nN_eq0, nN_eq1, nN_neN, pIn_n, pIx_n, eq_self, Nat.reduceLT, Bool.false_eq_true, Nat.add_zero, Nat.zero_add, Nat.reduceAdd, Nat.reduceMul, Nat.reduceSub, Nat.zero_le, Nat.reduceLeDiff, Nat.reduceEqDiff, Nat.le_refl, not_false_eq_true, not_true_eq_false, false_implies, true_implies, forall_const, true_and, and_true, if_true, if_false, implies_true, and_self, ne_eq, false_and, and_false, or_false, false_or, true_or, or_true]
            exact ⟨⟨rfl, s.1, h7, by show (cs ++ s.2.1).length ≤ 400; omega⟩, A2.trans (A3.mono RdZ_X)⟩
          · rw [if_neg c4]
            simp (disch := omega) only [q_aload0, q_aload0N, q_iconst, q_iload1, q_sipush, q_min, q_max, q_put_i, pTag_2, q_invv0, inv_2, q_get_i, pRf_s, q_ic_ne, q_zret, q_istore2, q_nop, q_iload2, q_ic_ge, q_if_ne, q_invv1, q_iinc2, q_goto, e_180_0, e_180_3, e_180_4, L_0, L_1, L_400, L_2059, L_3000, k_some, k_none, pRm_i, pRm_r, pRm_0, pF_1, pF_2, inv_s, hk83, h7.1.tg, c4, nN_le, nN_lt, nN_eq, nN_add, nN_mul, nN_lt0, nN_ge0, nN_gt0, nN_le0, nN_eq0, nN_eq1, nN_neN, pIn_n, pIx_n, eq_self, Nat.reduceLT, Bool.false_eq_true, Nat.add_zero, Nat.zero_add, Nat.reduceAdd, Nat.reduceMul, Nat.reduceSub, Nat.zero_le, Nat.reduceLeDiff, Nat.reduceEqDiff, Nat.le_refl, not_false_eq_true, not_true_eq_false, false_implies, true_implies, forall_const, true_and, and_true, if_true, if_false, implies_true, and_self, ne_eq, false_and, and_false, or_false, false_or, true_or, or_true]
            refine mw_mono (w_follows h7.1 (by omega)) ?_
            rintro o M4 ⟨h8, A4⟩
            by_cases c5 : th W n b s.1 = 2059
            · rw [if_pos c5] at h8 ⊢
              obtain ⟨rfl, h9⟩ := h8
              have hx := At_nx (b := b) (h7.1.lt c4).1
              simp (disch := omega) only [q_aload0, q_aload0N, q_iconst, q_iload1, q_sipush, q_min, q_max, q_put_i, pTag_2, q_invv0, inv_2, q_get_i, pRf_s, q_ic_ne, q_zret, q_istore2, q_nop, q_iload2, q_ic_ge, q_if_ne, q_invv1, q_iinc2, q_goto, e_180_0, e_180_5, L_0, L_1, L_400, L_2059, L_3000, k_some, k_none, pRm_i, pRm_r, pRm_0, pF_1, pF_2, inv_s, nN_le, nN_lt, nN_eq, nN_add, nN_mul, nN_lt0, nN_ge0, nN_gt0, nN_le0, nN_eq0, nN_eq1, nN_neN, pIn_n, pIx_n, eq_self, Nat.reduceLT, Bool.false_eq_true, Nat.add_zero, Nat.zero_add, Nat.reduceAdd, Nat.reduceMul, Nat.reduceSub, Nat.zero_le, Nat.reduceLeDiff, Nat.reduceEqDiff, Nat.le_refl, not_false_eq_true, not_true_eq_false, false_implies, true_implies, forall_const, true_and, and_true, if_true, if_false, implies_true, and_self, ne_eq, false_and, and_false, or_false, false_or, true_or, or_true]
              have T4 := h7.rd A4 h9
              have e4 : gI M4 R 2 = nN 12 := by rw [A4.I (by rintro ⟨-, z⟩; omega), hne _ _ A3]; exact h5
              refine bw_mono (ih (l + 1) (nx9 n b s.1) (cs ++ s.2.1) M4 (by omega) T4 (by omega) e4 ((A2.trans (A3.mono RdZ_X)).trans ((A4.mono RdY_Z).mono RdZ_X))) ?_
              rintro o M5 ⟨h10, A5⟩
              refine ⟨?_, A5⟩
              cases ht : pTxt (th W n b) (nx9 n b) 400 j (nx9 n b s.1) with
              | inl e => rw [ht] at h10; exact h10
              | inr s2 =>
                rw [ht] at h10
                obtain ⟨k1, p5, k2, k3⟩ := h10
                refine ⟨k1, p5, ?_, ?_⟩
                · show TpS M5 R tr br tb sr cr n b W p5 (cs ++ (s.2.1 ++ s2.1))
                  rw [← List.append_assoc]; exact k2
                · show (cs ++ (s.2.1 ++ s2.1)).length ≤ 400
                  rw [← List.append_assoc]; exact k3
            · rw [if_neg c5] at h8 ⊢
              obtain ⟨rfl, h9⟩ := h8
              simp (disch := omega) only [q_aload0, q_aload0N, q_iconst, q_iload1, q_sipush, q_min, q_max, q_put_i, pTag_2, q_invv0, inv_2, q_get_i, pRf_s, q_ic_ne, q_zret, q_istore2, q_nop, q_iload2, q_ic_ge, q_if_ne, q_invv1, q_iinc2, q_goto, e_180_0, L_0, L_1, L_400, L_2059, L_3000, k_some, k_none, pRm_i, pRm_r, pRm_0, pF_1, pF_2, inv_s, zb_0, nN_le, nN_lt, nN_eq, nN_add, nN_mul, nN_lt0, nN_ge0, nN_gt0, nN_le0, nN_eq0, nN_eq1, nN_neN, pIn_n, pIx_n, eq_self, Nat.reduceLT, Bool.false_eq_true, Nat.add_zero, Nat.zero_add, Nat.reduceAdd, Nat.reduceMul, Nat.reduceSub, Nat.zero_le, Nat.reduceLeDiff, Nat.reduceEqDiff, Nat.le_refl, not_false_eq_true, not_true_eq_false, false_implies, true_implies, forall_const, true_and, and_true, if_true, if_false, implies_true, and_self, ne_eq, false_and, and_false, or_false, false_or, true_or, or_true]
              exact ⟨⟨rfl, h9⟩, (A2.trans (A3.mono RdZ_X)).trans ((A4.mono RdY_Z).mono RdZ_X)⟩
    simp (disch := omega) only [q_aload0, q_aload0N, q_iconst, q_iload1, q_sipush, q_min, q_max, q_put_i, pTag_2, q_invv0, inv_2, q_get_i, pRf_s, q_ic_ne, q_zret, q_istore2, q_nop, q_iload2, q_ic_ge, q_if_ne, q_invv1, q_iinc2, q_goto, e_180_0, e_180_1, L_0, L_1, L_400, L_2059, L_3000, k_some, k_none, pRm_i, pRm_r, pRm_0, pF_1, pF_2, inv_s, hk81, h1.tg, c3, nN_le, nN_lt, nN_eq, nN_add, nN_mul, nN_lt0, nN_ge0, nN_gt0, nN_le0, nN_eq0, nN_eq1, nN_neN, pIn_n, pIx_n, eq_self, Nat.reduceLT, Bool.false_eq_true, Nat.add_zero, Nat.zero_add, Nat.reduceAdd, Nat.reduceMul, Nat.reduceSub, Nat.zero_le, Nat.reduceLeDiff, Nat.reduceEqDiff, Nat.le_refl, not_false_eq_true, not_true_eq_false, false_implies, true_implies, forall_const, true_and, and_true, if_true, if_false, implies_true, and_self, ne_eq, false_and, and_false, or_false, false_or, true_or, or_true]
    exact key 12 0 (nb n b 0) [] M1 (by omega) T1 (by show (0 : Nat) ≤ _; omega) e2 A01
end RT
