/-! THE LAW'S MODEL: gives, goes on, lets, pays -/
section MQ
variable {d t u q f p g n y x k w dd : Nat} {a : Nat → Int32} {M M0 M' : pMem} {Q : pOut → pMem → Prop} {am hd en z set : Int32} {fc ag : Bool}
theorem w_givesM (h : MR M u a) (hw : Wf a) (hne : NeO a) (htx : TxO a) (hd9 : DyO a) (hx : x < nP a) (hy : y < nP a) (hn : n < 100) (hdd : dd < 100) :
    mw (d + 66) 87 [.ref u, .int (nN x), .int (nN y), .int (nN n), .int (nN dd), .int (bI (fc = true))] M (fun o M' => (if sCanGive a x y n dd fc = true then o = .inl (some (.int (nN (nF a)))) ∧ MR M' u (gTail a x y n dd fc) else o = .inl (some (.int (iN (-1)))) ∧ MR M' u a) ∧ Ag (XMw u) M M') := by
  have hp' := hw.p'
  have hf' := hw.f'
  have go : ∀ en, en = sEnd a dd → bw (d + 65) 87 2 ([some (.ref u), some (.int (nN x)), some (.int (nN y)), some (.int (nN n)), some (.int (nN dd)), some (.int (bI (fc = true))), none, none, none], [.int en], M) (fun o M' => (if sCanGive a x y n dd fc = true then o = .inl (some (.int (nN (nF a)))) ∧ MR M' u (gTail a x y n dd fc) else o = .inl (some (.int (iN (-1)))) ∧ MR M' u a) ∧ Ag (XMw u) M M') := by
    intro en hen
    subst hen
    rw [e_87_2]
    simp (disch := first | omega | rfl | (repeat' (first | exact gS_sI | exact gP_sI | refine Eq.trans gS_sI ?_ | refine Eq.trans gP_sI ?_ | refine Eq.trans (gIr_sI (by omega)) ?_ | rfl))) only [q_iload4, q_if_ne, q_iconst, q_goto, q_aload0, q_aload0N, q_get_r, pTag_1, pRf_s, q_bipush, q_iald, q_iadd, q_nop, q_istore6, q_iload1, q_iload2, q_iload3, q_iload6, q_iload5, q_invv5, inv_1, q_iret, q_istore7, q_dup2, q_iast, q_istore8, q_iload8, q_ic_ge, q_iload7, q_invv3, q_iinc8, q_if_eq, e_87_0, L_0, L_1, L_2, L_3, L_4, L_5, L_6, L_7, L_8, L_20, k_some, k_none, pRm_i, pRm_r, pRm_0, pF_1, pF_2, inv_s, h.1.k0, h.1.k1, h.1.k2, h.1.k3, h.1.k4, h.1.k5, h.1.k6, h.1.k7, h.1.k8, h.1.k9, h.1.k10, h.1.k11, h.1.k12, h.1.k13, h.1.p1, h.1.p2, h.1.p4, h.1.p5, h.1.p13, h.1.p18, h.1.p19, h.1.p20, h.1.p21, h.1.p22, h.1.p23, h.1.p24, h.1.p27, h.2, nN_le, nN_lt, nN_eq, nN_add, nN_mul, nN_lt0, nN_ge0, nN_gt0, nN_le0, nN_eq0, nN_eq1, nN_neN, pIn_n, pIx_n, eq_self, Nat.reduceLT, Bool.false_eq_true, Nat.add_zero, Nat.zero_add, Nat.reduceAdd, Nat.reduceMul, Nat.reduceSub, Nat.zero_le, Nat.reduceLeDiff, Nat.reduceEqDiff, Nat.le_refl, not_false_eq_true, not_true_eq_false, false_implies, true_implies, forall_const, true_and, and_true, if_true, if_false, implies_true, and_self, ne_eq, false_and, and_false, or_false, false_or, true_or, or_true]
    refine mw_mono (w_canGiveM h hw hne htx hx hy) ?_
    rintro _ M1 ⟨rfl, A1⟩
    have h1 := h.ag A1 XMs_1
    by_cases c : sCanGive a x y n dd fc = true
    · have h40 := sCan_lt c
      simp (disch := first | omega | rfl | (repeat' (first | exact gS_sI | exact gP_sI | refine Eq.trans gS_sI ?_ | refine Eq.trans gP_sI ?_ | refine Eq.trans (gIr_sI (by omega)) ?_ | rfl))) only [q_iload4, q_if_ne, q_iconst, q_goto, q_aload0, q_aload0N, q_get_r, pTag_1, pRf_s, q_bipush, q_iald, q_iadd, q_nop, q_istore6, q_iload1, q_iload2, q_iload3, q_iload6, q_iload5, q_invv5, inv_1, q_iret, q_istore7, q_dup2, q_iast, q_istore8, q_iload8, q_ic_ge, q_iload7, q_invv3, q_iinc8, q_if_eq, e_87_0, e_87_3, L_0, L_1, L_2, L_3, L_4, L_5, L_6, L_7, L_8, L_20, k_some, k_none, pRm_i, pRm_r, pRm_0, pF_1, pF_2, inv_s, h1.1.k0, h1.1.k1, h1.1.k2, h1.1.k3, h1.1.k4, h1.1.k5, h1.1.k6, h1.1.k7, h1.1.k8, h1.1.k9, h1.1.k10, h1.1.k11, h1.1.k12, h1.1.k13, h1.1.p1, h1.1.p2, h1.1.p4, h1.1.p5, h1.1.p13, h1.1.p18, h1.1.p19, h1.1.p20, h1.1.p21, h1.1.p22, h1.1.p23, h1.1.p24, h1.1.p27, h1.2, bI_eq0, c, hw.f, nN_le, nN_lt, nN_eq, nN_add, nN_mul, nN_lt0, nN_ge0, nN_gt0, nN_le0, nN_eq0, nN_eq1, nN_neN, pIn_n, pIx_n, eq_self, Nat.reduceLT, Bool.false_eq_true, Nat.add_zero, Nat.zero_add, Nat.reduceAdd, Nat.reduceMul, Nat.reduceSub, Nat.zero_le, Nat.reduceLeDiff, Nat.reduceEqDiff, Nat.le_refl, not_false_eq_true, not_true_eq_false, false_implies, true_implies, forall_const, true_and, and_true, if_true, if_false, implies_true, and_self, ne_eq, false_and, and_false, or_false, false_or, true_or, or_true]
      have hm3 : gI (sI M1 (u + 1) 3 (nN (nF a + 1))) (u + 1) = fun j => if j = 3 then nN (nF a + 1) else a j := by
        funext j
        rw [gI_sI, h1.2]
        by_cases c3 : j = 3 <;> simp [c3]
      refine loopR (n := 20) (J := Unit) (C := fun k _ _ M => ([some (.ref u), some (.int (nN x)), some (.int (nN y)), some (.int (nN n)), some (.int (nN dd)), some (.int (bI (fc = true))), some (.int (sEnd a dd)), some (.int (nN (nF a))), some (.int (nN k))], [], M)) (f := fun _ (_ : Unit) => ()) (R := fun k _ M2 => Ag (XMw u) M M2 ∧ gI M2 (u + 1) = fun j => if j = 3 then nN (nF a + 1) else if 140 + 20 * nF a ≤ j ∧ j < 140 + 20 * nF a + k then nN 0 else a j) ?_ 20 0 () () _ (by omega) ⟨Ag.put (A1.mono XMs_w) (Or.inr rfl), ?_⟩ ?_
      · rintro k _ _ M2 hk ⟨A2, e2⟩ goo
        have e20 : ¬ 20 ≤ k := by omega
        have h2 : MR M2 u (gI M2 (u + 1)) := ⟨by rw [A2.S, A2.P]; exact h.1, rfl⟩
        have k0 := h2.1.k0
        rw [e_87_4]
        simp (disch := first | omega | rfl | (repeat' (first | exact gS_sI | exact gP_sI | refine Eq.trans gS_sI ?_ | refine Eq.trans gP_sI ?_ | refine Eq.trans (gIr_sI (by omega)) ?_ | rfl))) only [q_iload4, q_if_ne, q_iconst, q_goto, q_aload0, q_aload0N, q_get_r, pTag_1, pRf_s, q_bipush, q_iald, q_iadd, q_nop, q_istore6, q_iload1, q_iload2, q_iload3, q_iload6, q_iload5, q_invv5, inv_1, q_iret, q_istore7, q_dup2, q_iast, q_istore8, q_iload8, q_ic_ge, q_iload7, q_invv3, q_iinc8, q_if_eq, e_87_0, e_87_3, L_0, L_1, L_2, L_3, L_4, L_5, L_6, L_7, L_8, L_20, k_some, k_none, pRm_i, pRm_r, pRm_0, pF_1, pF_2, inv_s, k0, w_setsX h2, e20, nN_le, nN_lt, nN_eq, nN_add, nN_mul, nN_lt0, nN_ge0, nN_gt0, nN_le0, nN_eq0, nN_eq1, nN_neN, pIn_n, pIx_n, eq_self, Nat.reduceLT, Bool.false_eq_true, Nat.add_zero, Nat.zero_add, Nat.reduceAdd, Nat.reduceMul, Nat.reduceSub, Nat.zero_le, Nat.reduceLeDiff, Nat.reduceEqDiff, Nat.le_refl, not_false_eq_true, not_true_eq_false, false_implies, true_implies, forall_const, true_and, and_true, if_true, if_false, implies_true, and_self, ne_eq, false_and, and_false, or_false, false_or, true_or, or_true]
        refine goo _ () ⟨Ag.put A2 (Or.inr rfl), ?_⟩
        funext j
        rw [gI_sI, e2]
        dsimp only
        by_cases c3 : j = 3
        · subst c3; rw [if_neg (by omega), if_pos rfl, if_pos rfl]
        · by_cases c4 : j = 140 + 20 * nF a + k
          · rw [if_pos ⟨rfl, c4⟩, if_neg c3, if_pos (by omega)]
          · rw [if_neg (fun z => c4 z.2), if_neg c3, if_neg c3]
            by_cases c5 : 140 + 20 * nF a ≤ j ∧ j < 140 + 20 * nF a + k
            · rw [if_pos c5, if_pos (by omega)]
            · rw [if_neg c5, if_neg (by omega)]
      · rw [hm3]
        funext j
        by_cases c3 : j = 3
        · simp [c3]
        · rw [if_neg c3, if_neg c3, if_neg (by omega)]
      · rintro M2 _ ⟨A2, e2⟩
        have h2 : MR M2 u (gI M2 (u + 1)) := ⟨by rw [A2.S, A2.P]; exact h.1, rfl⟩
        have k0 := h2.1.k0
        have fin : ∀ fi, fi = bI (fc = true) → ((if True then (Sum.inl (some (Value.int (nN (nF a)))) : pOut) = .inl (some (.int (nN (nF a)))) ∧ MR (sI (sI (sI (sI (sI (sI (sI (sI M2 (u + 1) (140 + 20 * nF a + 0) (nN x)) (u + 1) (140 + 20 * nF a + 1) (nN n)) (u + 1) (140 + 20 * nF a + 2) (nN y)) (u + 1) (140 + 20 * nF a + 4) (sEnd a dd)) (u + 1) (140 + 20 * nF a + 5) fi) (u + 1) (140 + 20 * nF a + 6) (nN 2)) (u + 1) (140 + 20 * nF a + 7) (nN x)) (u + 1) (140 + 20 * nF a + 8) (nN y)) u (gTail a x y n dd fc) else False) ∧ Ag (XMw u) M (sI (sI (sI (sI (sI (sI (sI (sI M2 (u + 1) (140 + 20 * nF a + 0) (nN x)) (u + 1) (140 + 20 * nF a + 1) (nN n)) (u + 1) (140 + 20 * nF a + 2) (nN y)) (u + 1) (140 + 20 * nF a + 4) (sEnd a dd)) (u + 1) (140 + 20 * nF a + 5) fi) (u + 1) (140 + 20 * nF a + 6) (nN 2)) (u + 1) (140 + 20 * nF a + 7) (nN x)) (u + 1) (140 + 20 * nF a + 8) (nN y))) := by
          intro fi hfi
          rw [if_pos trivial]
          refine ⟨⟨rfl, h2.1, ?_⟩, Ag.put (Ag.put (Ag.put (Ag.put (Ag.put (Ag.put (Ag.put (Ag.put A2 (Or.inr rfl)) (Or.inr rfl)) (Or.inr rfl)) (Or.inr rfl)) (Or.inr rfl)) (Or.inr rfl)) (Or.inr rfl)) (Or.inr rfl)⟩
          funext j
          rw [hfi]
          simp only [gI_sI, e2, true_and]
          show _ = sGiveA a (nN x) (nN n) (nN y) (sEnd a dd) (bI (fc = true)) j
          unfold sGiveA
          by_cases c3 : j = 3
          · subst c3
            simp only [if_true]
            rw [if_neg (by omega), if_neg (by omega), if_neg (by omega), if_neg (by omega), if_neg (by omega), if_neg (by omega), if_neg (by omega), if_neg (by omega)]
          · by_cases c5 : 140 + 20 * nF a ≤ j ∧ j < 160 + 20 * nF a
            · rw [if_neg c3, if_pos c5]
              obtain ⟨i, hi⟩ : ∃ i, j = 140 + 20 * nF a + i := ⟨j - (140 + 20 * nF a), by omega⟩
              subst hi
              have hi : i < 20 := by omega
              rw [show 140 + 20 * nF a + i - (140 + 20 * nF a) = i from by omega]
              have : i = 0 ∨ i = 1 ∨ i = 2 ∨ i = 3 ∨ i = 4 ∨ i = 5 ∨ i = 6 ∨ i = 7 ∨ i = 8 ∨ 9 ≤ i := by omega
              rcases this with rfl | rfl | rfl | rfl | rfl | rfl | rfl | rfl | rfl | c9
              · simp [gRow]; intro h9; omega
              · simp [gRow]; intro h9; omega
              · simp [gRow]; intro h9; omega
              · simp [gRow]
              · simp [gRow]
              · simp [gRow]
              · simp [gRow]
              · simp [gRow]
              · simp [gRow]
              · have e9 : gRow (nN x) (nN n) (nN y) (sEnd a dd) (bI (fc = true)) i = nN 0 := by
                  unfold gRow
                  split <;> first | omega | rfl
                rw [e9, if_neg (by omega), if_neg (by omega), if_neg (by omega), if_neg (by omega), if_neg (by omega), if_neg (by omega), if_neg (by omega), if_neg (by omega), if_neg c3, if_pos (by omega)]
            · rw [if_neg c3, if_neg c5]
              rw [if_neg c3]
              rw [if_neg (by omega), if_neg (by omega), if_neg (by omega), if_neg (by omega), if_neg (by omega), if_neg (by omega), if_neg (by omega), if_neg (by omega), if_neg (by omega)]
        rw [e_87_4]
        by_cases c6 : fc = true
        · have e6 : ¬ bI (fc = true) = 0 := by rw [bI_eq0]; exact fun z => z c6
          have e7 : nN 1 = bI (fc = true) := bI_t c6
          simp (disch := first | omega | rfl | (repeat' (first | exact gS_sI | exact gP_sI | refine Eq.trans gS_sI ?_ | refine Eq.trans gP_sI ?_ | refine Eq.trans (gIr_sI (by omega)) ?_ | rfl))) only [q_iload4, q_if_ne, q_iconst, q_goto, q_aload0, q_aload0N, q_get_r, pTag_1, pRf_s, q_bipush, q_iald, q_iadd, q_nop, q_istore6, q_iload1, q_iload2, q_iload3, q_iload6, q_iload5, q_invv5, inv_1, q_iret, q_istore7, q_dup2, q_iast, q_istore8, q_iload8, q_ic_ge, q_iload7, q_invv3, q_iinc8, q_if_eq, e_87_0, e_87_3, e_87_5, e_87_7, L_0, L_1, L_2, L_3, L_4, L_5, L_6, L_7, L_8, L_20, k_some, k_none, pRm_i, pRm_r, pRm_0, pF_1, pF_2, inv_s, gS_sI, gP_sI, k0, w_setsX h2, e6, nN_le, nN_lt, nN_eq, nN_add, nN_mul, nN_lt0, nN_ge0, nN_gt0, nN_le0, nN_eq0, nN_eq1, nN_neN, pIn_n, pIx_n, eq_self, Nat.reduceLT, Bool.false_eq_true, Nat.add_zero, Nat.zero_add, Nat.reduceAdd, Nat.reduceMul, Nat.reduceSub, Nat.zero_le, Nat.reduceLeDiff, Nat.reduceEqDiff, Nat.le_refl, not_false_eq_true, not_true_eq_false, false_implies, true_implies, forall_const, true_and, and_true, if_true, if_false, implies_true, and_self, ne_eq, false_and, and_false, or_false, false_or, true_or, or_true]
          have := fin (nN 1) e7
          simpa using this
        · have e6 : bI (fc = true) = 0 := by rw [bI_eq0]; exact c6
          have e7 : nN 0 = bI (fc = true) := bI_f c6
          simp (disch := first | omega | rfl | (repeat' (first | exact gS_sI | exact gP_sI | refine Eq.trans gS_sI ?_ | refine Eq.trans gP_sI ?_ | refine Eq.trans (gIr_sI (by omega)) ?_ | rfl))) only [q_iload4, q_if_ne, q_iconst, q_goto, q_aload0, q_aload0N, q_get_r, pTag_1, pRf_s, q_bipush, q_iald, q_iadd, q_nop, q_istore6, q_iload1, q_iload2, q_iload3, q_iload6, q_iload5, q_invv5, inv_1, q_iret, q_istore7, q_dup2, q_iast, q_istore8, q_iload8, q_ic_ge, q_iload7, q_invv3, q_iinc8, q_if_eq, e_87_0, e_87_3, e_87_5, e_87_6, e_87_7, L_0, L_1, L_2, L_3, L_4, L_5, L_6, L_7, L_8, L_20, k_some, k_none, pRm_i, pRm_r, pRm_0, pF_1, pF_2, inv_s, gS_sI, gP_sI, k0, w_setsX h2, e6, nN_le, nN_lt, nN_eq, nN_add, nN_mul, nN_lt0, nN_ge0, nN_gt0, nN_le0, nN_eq0, nN_eq1, nN_neN, pIn_n, pIx_n, eq_self, Nat.reduceLT, Bool.false_eq_true, Nat.add_zero, Nat.zero_add, Nat.reduceAdd, Nat.reduceMul, Nat.reduceSub, Nat.zero_le, Nat.reduceLeDiff, Nat.reduceEqDiff, Nat.le_refl, not_false_eq_true, not_true_eq_false, false_implies, true_implies, forall_const, true_and, and_true, if_true, if_false, implies_true, and_self, ne_eq, false_and, and_false, or_false, false_or, true_or, or_true]
          have := fin (nN 0) e7
          simpa using this
    · simp (disch := first | omega | rfl | (repeat' (first | exact gS_sI | exact gP_sI | refine Eq.trans gS_sI ?_ | refine Eq.trans gP_sI ?_ | refine Eq.trans (gIr_sI (by omega)) ?_ | rfl))) only [q_iload4, q_if_ne, q_iconst, q_goto, q_aload0, q_aload0N, q_get_r, pTag_1, pRf_s, q_bipush, q_iald, q_iadd, q_nop, q_istore6, q_iload1, q_iload2, q_iload3, q_iload6, q_iload5, q_invv5, inv_1, q_iret, q_istore7, q_dup2, q_iast, q_istore8, q_iload8, q_ic_ge, q_iload7, q_invv3, q_iinc8, q_if_eq, e_87_0, e_87_3, L_0, L_1, L_2, L_3, L_4, L_5, L_6, L_7, L_8, L_20, k_some, k_none, pRm_i, pRm_r, pRm_0, pF_1, pF_2, inv_s, h1.1.k0, h1.1.k1, h1.1.k2, h1.1.k3, h1.1.k4, h1.1.k5, h1.1.k6, h1.1.k7, h1.1.k8, h1.1.k9, h1.1.k10, h1.1.k11, h1.1.k12, h1.1.k13, h1.1.p1, h1.1.p2, h1.1.p4, h1.1.p5, h1.1.p13, h1.1.p18, h1.1.p19, h1.1.p20, h1.1.p21, h1.1.p22, h1.1.p23, h1.1.p24, h1.1.p27, h1.2, bI_eq0, c, hw.f, nN_le, nN_lt, nN_eq, nN_add, nN_mul, nN_lt0, nN_ge0, nN_gt0, nN_le0, nN_eq0, nN_eq1, nN_neN, pIn_n, pIx_n, eq_self, Nat.reduceLT, Bool.false_eq_true, Nat.add_zero, Nat.zero_add, Nat.reduceAdd, Nat.reduceMul, Nat.reduceSub, Nat.zero_le, Nat.reduceLeDiff, Nat.reduceEqDiff, Nat.le_refl, not_false_eq_true, not_true_eq_false, false_implies, true_implies, forall_const, true_and, and_true, if_true, if_false, implies_true, and_self, ne_eq, false_and, and_false, or_false, false_or, true_or, or_true]
      exact ⟨h1, A1.mono XMs_w⟩
  by_cases c : dd = 0
  · simp (disch := first | omega | rfl | (repeat' (first | exact gS_sI | exact gP_sI | refine Eq.trans gS_sI ?_ | refine Eq.trans gP_sI ?_ | refine Eq.trans (gIr_sI (by omega)) ?_ | rfl))) only [m_87, q_iload4, q_if_ne, q_iconst, q_goto, q_aload0, q_aload0N, q_get_r, pTag_1, pRf_s, q_bipush, q_iald, q_iadd, q_nop, q_istore6, q_iload1, q_iload2, q_iload3, q_iload6, q_iload5, q_invv5, inv_1, q_iret, q_istore7, q_dup2, q_iast, q_istore8, q_iload8, q_ic_ge, q_iload7, q_invv3, q_iinc8, q_if_eq, e_87_0, e_87_1, e_87_4, e_87_5, e_87_6, e_87_7, L_0, L_1, L_2, L_3, L_4, L_5, L_6, L_7, L_8, L_20, k_some, k_none, pRm_i, pRm_r, pRm_0, pF_1, pF_2, inv_s, h.1.k0, h.1.k1, h.1.k2, h.1.k3, h.1.k4, h.1.k5, h.1.k6, h.1.k7, h.1.k8, h.1.k9, h.1.k10, h.1.k11, h.1.k12, h.1.k13, h.1.p1, h.1.p2, h.1.p4, h.1.p5, h.1.p13, h.1.p18, h.1.p19, h.1.p20, h.1.p21, h.1.p22, h.1.p23, h.1.p24, h.1.p27, h.2, c, nN_le, nN_lt, nN_eq, nN_add, nN_mul, nN_lt0, nN_ge0, nN_gt0, nN_le0, nN_eq0, nN_eq1, nN_neN, pIn_n, pIx_n, eq_self, Nat.reduceLT, Bool.false_eq_true, Nat.add_zero, Nat.zero_add, Nat.reduceAdd, Nat.reduceMul, Nat.reduceSub, Nat.zero_le, Nat.reduceLeDiff, Nat.reduceEqDiff, Nat.le_refl, not_false_eq_true, not_true_eq_false, false_implies, true_implies, forall_const, true_and, and_true, if_true, if_false, implies_true, and_self, ne_eq, false_and, and_false, or_false, false_or, true_or, or_true]
    simp only [c] at go
    exact go _ (by simp [sEnd])
  · simp (disch := first | omega | rfl | (repeat' (first | exact gS_sI | exact gP_sI | refine Eq.trans gS_sI ?_ | refine Eq.trans gP_sI ?_ | refine Eq.trans (gIr_sI (by omega)) ?_ | rfl))) only [m_87, q_iload4, q_if_ne, q_iconst, q_goto, q_aload0, q_aload0N, q_get_r, pTag_1, pRf_s, q_bipush, q_iald, q_iadd, q_nop, q_istore6, q_iload1, q_iload2, q_iload3, q_iload6, q_iload5, q_invv5, inv_1, q_iret, q_istore7, q_dup2, q_iast, q_istore8, q_iload8, q_ic_ge, q_iload7, q_invv3, q_iinc8, q_if_eq, e_87_0, e_87_1, e_87_4, e_87_5, e_87_6, e_87_7, L_0, L_1, L_2, L_3, L_4, L_5, L_6, L_7, L_8, L_20, k_some, k_none, pRm_i, pRm_r, pRm_0, pF_1, pF_2, inv_s, h.1.k0, h.1.k1, h.1.k2, h.1.k3, h.1.k4, h.1.k5, h.1.k6, h.1.k7, h.1.k8, h.1.k9, h.1.k10, h.1.k11, h.1.k12, h.1.k13, h.1.p1, h.1.p2, h.1.p4, h.1.p5, h.1.p13, h.1.p18, h.1.p19, h.1.p20, h.1.p21, h.1.p22, h.1.p23, h.1.p24, h.1.p27, h.2, c, nN_le, nN_lt, nN_eq, nN_add, nN_mul, nN_lt0, nN_ge0, nN_gt0, nN_le0, nN_eq0, nN_eq1, nN_neN, pIn_n, pIx_n, eq_self, Nat.reduceLT, Bool.false_eq_true, Nat.add_zero, Nat.zero_add, Nat.reduceAdd, Nat.reduceMul, Nat.reduceSub, Nat.zero_le, Nat.reduceLeDiff, Nat.reduceEqDiff, Nat.le_refl, not_false_eq_true, not_true_eq_false, false_implies, true_implies, forall_const, true_and, and_true, if_true, if_false, implies_true, and_self, ne_eq, false_and, and_false, or_false, false_or, true_or, or_true]
    exact go _ (by simp [sEnd, c])
theorem MR.gone (h : MR M u a) : MR (sI M (u + 1) (140 + 20 * f + 2) (iN (-1))) u (sGone a f) := h.put
theorem and1_ne0 {x : Int32} : (¬ x &&& nN 1 = 0) = (x &&& nN 1 = nN 1) := by
  have e : nN 1 = 1 := by decide +kernel
  rw [e]
  refine propext ⟨fun h => ?_, fun h h2 => by rw [h2] at h; revert h; decide +kernel⟩
  rcases iN_ex x with ⟨v, -, rfl⟩
  have : (iN v &&& 1).toBitVec = (iN v).toBitVec &&& 1#32 := by simp
  have k : ∀ b : BitVec 32, b &&& 1#32 = 0#32 ∨ b &&& 1#32 = 1#32 := by
    intro b
    have e : (b &&& 1#32).toNat = b.toNat % 2 := by rw [BitVec.toNat_and]; exact Nat.and_one_is_mod _
    rcases Nat.mod_two_eq_zero_or_one b.toNat with c | c
    · left; apply BitVec.eq_of_toNat_eq; rw [e, c]; rfl
    · right; apply BitVec.eq_of_toNat_eq; rw [e, c]; rfl
  rcases k (iN v).toBitVec with c | c
  · exact absurd (Int32.toBitVec_inj.mp (show (iN v &&& 1).toBitVec = (0 : Int32).toBitVec from this.trans (c.trans rfl))) h
  · exact Int32.toBitVec_inj.mp (show (iN v &&& 1).toBitVec = (1 : Int32).toBitVec from this.trans (c.trans rfl))
theorem w_goOnM {n : Int32} (h : MR M u a) (hw : Wf a) : mw (d + 3) 90 [.ref u, .int n] M (fun o M' => o = .inl (some (.int (sDays a n).2)) ∧ MR M' u (sDays a n).1 ∧ Ag (XMw u) M M') := by
  have hf' := hw.f'
  have hdy : ∀ j, j ≠ 6 → sDayA a (a 6 + n) j = a j := fun j hj => if_neg hj
  have eF : nF (sDayA a (a 6 + n)) = nF a := by unfold nF; rw [hdy 3 (by omega)]
  have r0 : MR (sI M (u + 1) 6 (a 6 + n)) u (sDayA a (a 6 + n)) := by
    refine ⟨h.1, funext fun j => ?_⟩
    rw [gI_sI, h.2]
    unfold sDayA
    by_cases c : j = 6 <;> simp [c]
  simp (disch := first | omega | rfl | (repeat' (first | exact gS_sI | exact gP_sI | refine Eq.trans gS_sI ?_ | refine Eq.trans gP_sI ?_ | refine Eq.trans (gIr_sI (by omega)) ?_ | rfl))) only [m_90, q_aload0, q_aload0N, q_get_r, pTag_1, pRf_s, q_bipush, q_dup2, q_iald, q_iload1, q_iadd, q_iast, q_iconst, q_istore2, q_istore3, q_nop, q_iload3, q_ic_ge, q_invv2, inv_1, q_ic_eq, q_ic_le, q_goto, q_invv3, q_iinc2, q_iinc3, q_iload2, q_iret, e_90_0, e_90_2, e_90_3, e_90_4, L_0, L_1, L_2, L_3, L_4, L_6, k_some, k_none, pRm_i, pRm_r, pRm_0, pF_1, pF_2, inv_s, h.1.k0, h.1.k1, h.1.k2, h.1.k3, h.1.k4, h.1.k5, h.1.k6, h.1.k7, h.1.k8, h.1.k9, h.1.k10, h.1.k11, h.1.k12, h.1.k13, h.1.p1, h.1.p2, h.1.p4, h.1.p5, h.1.p13, h.1.p18, h.1.p19, h.1.p20, h.1.p21, h.1.p22, h.1.p23, h.1.p24, h.1.p27, h.2, nN_le, nN_lt, nN_eq, nN_add, nN_mul, nN_lt0, nN_ge0, nN_gt0, nN_le0, nN_eq0, nN_eq1, nN_neN, pIn_n, pIx_n, eq_self, Nat.reduceLT, Bool.false_eq_true, Nat.add_zero, Nat.zero_add, Nat.reduceAdd, Nat.reduceMul, Nat.reduceSub, Nat.zero_le, Nat.reduceLeDiff, Nat.reduceEqDiff, Nat.le_refl, not_false_eq_true, not_true_eq_false, false_implies, true_implies, forall_const, true_and, and_true, if_true, if_false, implies_true, and_self, ne_eq, false_and, and_false, or_false, false_or, true_or, or_true]
  refine loopR (n := nF a) (J := Unit) (C := fun k s _ M => ([some (.ref u), some (.int n), some (.int s.2), some (.int (nN k))], [], M)) (f := sDayF) (R := fun k s M1 => (MR M1 u s.1 ∧ Ag (XMw u) M M1) ∧ Wf s.1 ∧ Gn (sDayA a (a 6 + n)) s.1) ?_ (nF a) 0 (sDayA a (a 6 + n), nN 0) () _ (by omega) ⟨⟨r0, Ag.one (Or.inr rfl)⟩, wf_day hw hdy, Gn.rfl⟩ ?_
  · rintro k s _ M1 hk ⟨⟨r1, A1⟩, w1, G1⟩ go
    have e : nF s.1 = nF a := (lo_nF G1.1).trans eF
    have e1 : ¬ nF s.1 ≤ k := by omega
    have hf1 : k < nF s.1 := by omega
    have go2 : ∀ M2, (MR M2 u (sDayF k s).1 ∧ Ag (XMw u) M M2) → Wf (sDayF k s).1 ∧ Gn (sDayA a (a 6 + n)) (sDayF k s).1 → bw (d + 2) 90 3 ([some (.ref u), some (.int n), some (.int (sDayF k s).2), some (.int (nN k))], [], M2) _ := fun M2 h1 h2 => by
      rw [e_90_3]
      simp (disch := omega) only [q_aload0, q_aload0N, q_get_r, pTag_1, pRf_s, q_bipush, q_dup2, q_iald, q_iload1, q_iadd, q_iast, q_iconst, q_istore2, q_istore3, q_nop, q_iload3, q_ic_ge, q_invv2, inv_1, q_ic_eq, q_ic_le, q_goto, q_invv3, q_iinc2, q_iinc3, q_iload2, q_iret, e_90_0, e_90_2, e_90_3, e_90_4, L_0, L_1, L_2, L_3, L_4, L_6, k_some, k_none, pRm_i, pRm_r, pRm_0, pF_1, pF_2, inv_s, nN_add]
      exact go M2 () ⟨h1, h2⟩
    rw [e_90_1]
    by_cases c : ¬ fa s.1 k 2 = iN (-1) ∧ ¬ fa s.1 k 4 = iN (-1) ∧ fa s.1 k 4 ≤ s.1 6
    · have ef : sDayF k s = (sGone s.1 k, s.2 + nN 1) := by unfold sDayF; rw [if_pos c]
      rw [ef] at go2
      obtain ⟨c1, c2, c3⟩ := c
      simp (disch := first | omega | rfl | (repeat' (first | exact gS_sI | exact gP_sI | refine Eq.trans gS_sI ?_ | refine Eq.trans gP_sI ?_ | refine Eq.trans (gIr_sI (by omega)) ?_ | rfl))) only [q_aload0, q_aload0N, q_get_r, pTag_1, pRf_s, q_bipush, q_dup2, q_iald, q_iload1, q_iadd, q_iast, q_iconst, q_istore2, q_istore3, q_nop, q_iload3, q_ic_ge, q_invv2, inv_1, q_ic_eq, q_ic_le, q_goto, q_invv3, q_iinc2, q_iinc3, q_iload2, q_iret, e_90_0, e_90_2, e_90_4, L_0, L_1, L_2, L_3, L_4, L_6, k_some, k_none, pRm_i, pRm_r, pRm_0, pF_1, pF_2, inv_s, r1.1.k0, r1.1.k1, r1.1.k2, r1.1.k3, r1.1.k4, r1.1.k5, r1.1.k6, r1.1.k7, r1.1.k8, r1.1.k9, r1.1.k10, r1.1.k11, r1.1.k12, r1.1.k13, r1.1.p1, r1.1.p2, r1.1.p4, r1.1.p5, r1.1.p13, r1.1.p18, r1.1.p19, r1.1.p20, r1.1.p21, r1.1.p22, r1.1.p23, r1.1.p24, r1.1.p27, r1.2, w_ofX r1, w_setsX r1, w1.f, c1, c2, c3, e1, nN_le, nN_lt, nN_eq, nN_add, nN_mul, nN_lt0, nN_ge0, nN_gt0, nN_le0, nN_eq0, nN_eq1, nN_neN, pIn_n, pIx_n, eq_self, Nat.reduceLT, Bool.false_eq_true, Nat.add_zero, Nat.zero_add, Nat.reduceAdd, Nat.reduceMul, Nat.reduceSub, Nat.zero_le, Nat.reduceLeDiff, Nat.reduceEqDiff, Nat.le_refl, not_false_eq_true, not_true_eq_false, false_implies, true_implies, forall_const, true_and, and_true, if_true, if_false, implies_true, and_self, ne_eq, false_and, and_false, or_false, false_or, true_or, or_true]
      exact go2 _ ⟨r1.gone, Ag.put A1 (Or.inr rfl)⟩ ⟨sGone_wf w1 hf1, G1.trans (Gn.gone (by omega))⟩
    · have ef : sDayF k s = s := by unfold sDayF; rw [if_neg c]
      rw [ef] at go2
      have fin := go2 M1 ⟨r1, A1⟩ ⟨w1, G1⟩
      by_cases c1 : fa s.1 k 2 = iN (-1)
      · simp (disch := first | omega | rfl | (repeat' (first | exact gS_sI | exact gP_sI | refine Eq.trans gS_sI ?_ | refine Eq.trans gP_sI ?_ | refine Eq.trans (gIr_sI (by omega)) ?_ | rfl))) only [q_aload0, q_aload0N, q_get_r, pTag_1, pRf_s, q_bipush, q_dup2, q_iald, q_iload1, q_iadd, q_iast, q_iconst, q_istore2, q_istore3, q_nop, q_iload3, q_ic_ge, q_invv2, inv_1, q_ic_eq, q_ic_le, q_goto, q_invv3, q_iinc2, q_iinc3, q_iload2, q_iret, e_90_0, e_90_2, e_90_4, L_0, L_1, L_2, L_3, L_4, L_6, k_some, k_none, pRm_i, pRm_r, pRm_0, pF_1, pF_2, inv_s, r1.1.k0, r1.1.k1, r1.1.k2, r1.1.k3, r1.1.k4, r1.1.k5, r1.1.k6, r1.1.k7, r1.1.k8, r1.1.k9, r1.1.k10, r1.1.k11, r1.1.k12, r1.1.k13, r1.1.p1, r1.1.p2, r1.1.p4, r1.1.p5, r1.1.p13, r1.1.p18, r1.1.p19, r1.1.p20, r1.1.p21, r1.1.p22, r1.1.p23, r1.1.p24, r1.1.p27, r1.2, w_ofX r1, w1.f, c1, e1, nN_le, nN_lt, nN_eq, nN_add, nN_mul, nN_lt0, nN_ge0, nN_gt0, nN_le0, nN_eq0, nN_eq1, nN_neN, pIn_n, pIx_n, eq_self, Nat.reduceLT, Bool.false_eq_true, Nat.add_zero, Nat.zero_add, Nat.reduceAdd, Nat.reduceMul, Nat.reduceSub, Nat.zero_le, Nat.reduceLeDiff, Nat.reduceEqDiff, Nat.le_refl, not_false_eq_true, not_true_eq_false, false_implies, true_implies, forall_const, true_and, and_true, if_true, if_false, implies_true, and_self, ne_eq, false_and, and_false, or_false, false_or, true_or, or_true]
        exact fin
      · by_cases c2 : fa s.1 k 4 = iN (-1)
        · simp (disch := first | omega | rfl | (repeat' (first | exact gS_sI | exact gP_sI | refine Eq.trans gS_sI ?_ | refine Eq.trans gP_sI ?_ | refine Eq.trans (gIr_sI (by omega)) ?_ | rfl))) only [q_aload0, q_aload0N, q_get_r, pTag_1, pRf_s, q_bipush, q_dup2, q_iald, q_iload1, q_iadd, q_iast, q_iconst, q_istore2, q_istore3, q_nop, q_iload3, q_ic_ge, q_invv2, inv_1, q_ic_eq, q_ic_le, q_goto, q_invv3, q_iinc2, q_iinc3, q_iload2, q_iret, e_90_0, e_90_2, e_90_4, L_0, L_1, L_2, L_3, L_4, L_6, k_some, k_none, pRm_i, pRm_r, pRm_0, pF_1, pF_2, inv_s, r1.1.k0, r1.1.k1, r1.1.k2, r1.1.k3, r1.1.k4, r1.1.k5, r1.1.k6, r1.1.k7, r1.1.k8, r1.1.k9, r1.1.k10, r1.1.k11, r1.1.k12, r1.1.k13, r1.1.p1, r1.1.p2, r1.1.p4, r1.1.p5, r1.1.p13, r1.1.p18, r1.1.p19, r1.1.p20, r1.1.p21, r1.1.p22, r1.1.p23, r1.1.p24, r1.1.p27, r1.2, w_ofX r1, w1.f, c1, c2, e1, nN_le, nN_lt, nN_eq, nN_add, nN_mul, nN_lt0, nN_ge0, nN_gt0, nN_le0, nN_eq0, nN_eq1, nN_neN, pIn_n, pIx_n, eq_self, Nat.reduceLT, Bool.false_eq_true, Nat.add_zero, Nat.zero_add, Nat.reduceAdd, Nat.reduceMul, Nat.reduceSub, Nat.zero_le, Nat.reduceLeDiff, Nat.reduceEqDiff, Nat.le_refl, not_false_eq_true, not_true_eq_false, false_implies, true_implies, forall_const, true_and, and_true, if_true, if_false, implies_true, and_self, ne_eq, false_and, and_false, or_false, false_or, true_or, or_true]
          exact fin
        · have c3 : ¬ fa s.1 k 4 ≤ s.1 6 := fun z => c ⟨c1, c2, z⟩
          simp (disch := first | omega | rfl | (repeat' (first | exact gS_sI | exact gP_sI | refine Eq.trans gS_sI ?_ | refine Eq.trans gP_sI ?_ | refine Eq.trans (gIr_sI (by omega)) ?_ | rfl))) only [q_aload0, q_aload0N, q_get_r, pTag_1, pRf_s, q_bipush, q_dup2, q_iald, q_iload1, q_iadd, q_iast, q_iconst, q_istore2, q_istore3, q_nop, q_iload3, q_ic_ge, q_invv2, inv_1, q_ic_eq, q_ic_le, q_goto, q_invv3, q_iinc2, q_iinc3, q_iload2, q_iret, e_90_0, e_90_2, e_90_4, L_0, L_1, L_2, L_3, L_4, L_6, k_some, k_none, pRm_i, pRm_r, pRm_0, pF_1, pF_2, inv_s, r1.1.k0, r1.1.k1, r1.1.k2, r1.1.k3, r1.1.k4, r1.1.k5, r1.1.k6, r1.1.k7, r1.1.k8, r1.1.k9, r1.1.k10, r1.1.k11, r1.1.k12, r1.1.k13, r1.1.p1, r1.1.p2, r1.1.p4, r1.1.p5, r1.1.p13, r1.1.p18, r1.1.p19, r1.1.p20, r1.1.p21, r1.1.p22, r1.1.p23, r1.1.p24, r1.1.p27, r1.2, w_ofX r1, w1.f, c1, c2, c3, e1, nN_le, nN_lt, nN_eq, nN_add, nN_mul, nN_lt0, nN_ge0, nN_gt0, nN_le0, nN_eq0, nN_eq1, nN_neN, pIn_n, pIx_n, eq_self, Nat.reduceLT, Bool.false_eq_true, Nat.add_zero, Nat.zero_add, Nat.reduceAdd, Nat.reduceMul, Nat.reduceSub, Nat.zero_le, Nat.reduceLeDiff, Nat.reduceEqDiff, Nat.le_refl, not_false_eq_true, not_true_eq_false, false_implies, true_implies, forall_const, true_and, and_true, if_true, if_false, implies_true, and_self, ne_eq, false_and, and_false, or_false, false_or, true_or, or_true]
          exact fin
  · rintro M1 _ ⟨⟨r1, A1⟩, w1, G1⟩
    have e : nF (lp (nF a) 0 (sDayA a (a 6 + n), nN 0) sDayF).1 = nF a := (lo_nF G1.1).trans eF
    have e1 : nF (lp (nF a) 0 (sDayA a (a 6 + n), nN 0) sDayF).1 ≤ nF a := by omega
    rw [e_90_1]
    simp (disch := first | omega | rfl | (repeat' (first | exact gS_sI | exact gP_sI | refine Eq.trans gS_sI ?_ | refine Eq.trans gP_sI ?_ | refine Eq.trans (gIr_sI (by omega)) ?_ | rfl))) only [q_aload0, q_aload0N, q_get_r, pTag_1, pRf_s, q_bipush, q_dup2, q_iald, q_iload1, q_iadd, q_iast, q_iconst, q_istore2, q_istore3, q_nop, q_iload3, q_ic_ge, q_invv2, inv_1, q_ic_eq, q_ic_le, q_goto, q_invv3, q_iinc2, q_iinc3, q_iload2, q_iret, e_90_0, e_90_2, e_90_3, e_90_4, L_0, L_1, L_2, L_3, L_4, L_6, k_some, k_none, pRm_i, pRm_r, pRm_0, pF_1, pF_2, inv_s, r1.1.k0, r1.1.k1, r1.1.k2, r1.1.k3, r1.1.k4, r1.1.k5, r1.1.k6, r1.1.k7, r1.1.k8, r1.1.k9, r1.1.k10, r1.1.k11, r1.1.k12, r1.1.k13, r1.1.p1, r1.1.p2, r1.1.p4, r1.1.p5, r1.1.p13, r1.1.p18, r1.1.p19, r1.1.p20, r1.1.p21, r1.1.p22, r1.1.p23, r1.1.p24, r1.1.p27, r1.2, w1.f, e1, nN_le, nN_lt, nN_eq, nN_add, nN_mul, nN_lt0, nN_ge0, nN_gt0, nN_le0, nN_eq0, nN_eq1, nN_neN, pIn_n, pIx_n, eq_self, Nat.reduceLT, Bool.false_eq_true, Nat.add_zero, Nat.zero_add, Nat.reduceAdd, Nat.reduceMul, Nat.reduceSub, Nat.zero_le, Nat.reduceLeDiff, Nat.reduceEqDiff, Nat.le_refl, not_false_eq_true, not_true_eq_false, false_implies, true_implies, forall_const, true_and, and_true, if_true, if_false, implies_true, and_self, ne_eq, false_and, and_false, or_false, false_or, true_or, or_true]
    exact ⟨rfl, r1, A1⟩
theorem w_letsM (h : MR M u a) (hw : Wf a) : mw (d + 3) 111 [.ref u, .int set] M (fun o M' => o = .inl (some (.int (sLets a set).2)) ∧ MR M' u (sLets a set).1 ∧ Ag (XMw u) M M') := by
  have hf' := hw.f'
  simp (disch := first | omega | rfl | (repeat' (first | exact gS_sI | exact gP_sI | refine Eq.trans gS_sI ?_ | refine Eq.trans gP_sI ?_ | refine Eq.trans (gIr_sI (by omega)) ?_ | rfl))) only [m_111, q_iconst, q_istore2, q_istore3, q_nop, q_iload3, q_aload0, q_aload0N, q_get_r, pTag_1, pRf_s, q_iald, q_ic_ge, q_invv2, inv_1, q_istore4, q_iload4, q_ic_eq, q_iload1, q_ishr, q_iand, q_if_ne, q_goto, q_invv3, q_iinc2, q_iinc3, q_iload2, q_iret, e_111_0, e_111_2, e_111_3, e_111_4, L_0, L_1, L_2, L_3, k_some, k_none, pRm_i, pRm_r, pRm_0, pF_1, pF_2, inv_s, h.1.k0, h.1.k1, h.1.k2, h.1.k3, h.1.k4, h.1.k5, h.1.k6, h.1.k7, h.1.k8, h.1.k9, h.1.k10, h.1.k11, h.1.k12, h.1.k13, h.1.p1, h.1.p2, h.1.p4, h.1.p5, h.1.p13, h.1.p18, h.1.p19, h.1.p20, h.1.p21, h.1.p22, h.1.p23, h.1.p24, h.1.p27, h.2, nN_le, nN_lt, nN_eq, nN_add, nN_mul, nN_lt0, nN_ge0, nN_gt0, nN_le0, nN_eq0, nN_eq1, nN_neN, pIn_n, pIx_n, eq_self, Nat.reduceLT, Bool.false_eq_true, Nat.add_zero, Nat.zero_add, Nat.reduceAdd, Nat.reduceMul, Nat.reduceSub, Nat.zero_le, Nat.reduceLeDiff, Nat.reduceEqDiff, Nat.le_refl, not_false_eq_true, not_true_eq_false, false_implies, true_implies, forall_const, true_and, and_true, if_true, if_false, implies_true, and_self, ne_eq, false_and, and_false, or_false, false_or, true_or, or_true]
  refine loopR (n := nF a) (J := Option Value) (C := fun k s z M => ([some (.ref u), some (.int set), some (.int s.2), some (.int (nN k)), z], [], M)) (f := sLetF set) (R := fun k s M1 => (MR M1 u s.1 ∧ Ag (XMw u) M M1) ∧ Wf s.1 ∧ Gn a s.1) ?_ (nF a) 0 (a, nN 0) _ _ (by omega) ⟨⟨h, Ag.rfl⟩, hw, Gn.rfl⟩ ?_
  · rintro k s z M1 hk ⟨⟨r1, A1⟩, w1, G1⟩ go
    have e : nF s.1 = nF a := lo_nF G1.1
    have e1 : ¬ nF s.1 ≤ k := by omega
    have hf1 : k < nF s.1 := by omega
    have go2 : ∀ M2, (MR M2 u (sLetF set k s).1 ∧ Ag (XMw u) M M2) → Wf (sLetF set k s).1 ∧ Gn a (sLetF set k s).1 → bw (d + 2) 111 3 ([some (.ref u), some (.int set), some (.int (sLetF set k s).2), some (.int (nN k)), some (.int (fa s.1 k 2))], [], M2) _ := fun M2 h1 h2 => by
      rw [e_111_3]
      simp (disch := omega) only [q_iconst, q_istore2, q_istore3, q_nop, q_iload3, q_aload0, q_aload0N, q_get_r, pTag_1, pRf_s, q_iald, q_ic_ge, q_invv2, inv_1, q_istore4, q_iload4, q_ic_eq, q_iload1, q_ishr, q_iand, q_if_ne, q_goto, q_invv3, q_iinc2, q_iinc3, q_iload2, q_iret, e_111_0, e_111_2, e_111_3, e_111_4, L_0, L_1, L_2, L_3, k_some, k_none, pRm_i, pRm_r, pRm_0, pF_1, pF_2, inv_s, nN_add]
      exact go M2 _ ⟨h1, h2⟩
    rw [e_111_1]
    by_cases c1 : fa s.1 k 2 = iN (-1)
    · have ef : sLetF set k s = s := by unfold sLetF; rw [if_neg (fun z => z.1 c1)]
      rw [ef, c1] at go2
      simp (disch := first | omega | rfl | (repeat' (first | exact gS_sI | exact gP_sI | refine Eq.trans gS_sI ?_ | refine Eq.trans gP_sI ?_ | refine Eq.trans (gIr_sI (by omega)) ?_ | rfl))) only [q_iconst, q_istore2, q_istore3, q_nop, q_iload3, q_aload0, q_aload0N, q_get_r, pTag_1, pRf_s, q_iald, q_ic_ge, q_invv2, inv_1, q_istore4, q_iload4, q_ic_eq, q_iload1, q_ishr, q_iand, q_if_ne, q_goto, q_invv3, q_iinc2, q_iinc3, q_iload2, q_iret, e_111_0, e_111_2, e_111_4, L_0, L_1, L_2, L_3, k_some, k_none, pRm_i, pRm_r, pRm_0, pF_1, pF_2, inv_s, r1.1.k0, r1.1.k1, r1.1.k2, r1.1.k3, r1.1.k4, r1.1.k5, r1.1.k6, r1.1.k7, r1.1.k8, r1.1.k9, r1.1.k10, r1.1.k11, r1.1.k12, r1.1.k13, r1.1.p1, r1.1.p2, r1.1.p4, r1.1.p5, r1.1.p13, r1.1.p18, r1.1.p19, r1.1.p20, r1.1.p21, r1.1.p22, r1.1.p23, r1.1.p24, r1.1.p27, r1.2, w_ofX r1, w1.f, c1, e1, nN_le, nN_lt, nN_eq, nN_add, nN_mul, nN_lt0, nN_ge0, nN_gt0, nN_le0, nN_eq0, nN_eq1, nN_neN, pIn_n, pIx_n, eq_self, Nat.reduceLT, Bool.false_eq_true, Nat.add_zero, Nat.zero_add, Nat.reduceAdd, Nat.reduceMul, Nat.reduceSub, Nat.zero_le, Nat.reduceLeDiff, Nat.reduceEqDiff, Nat.le_refl, not_false_eq_true, not_true_eq_false, false_implies, true_implies, forall_const, true_and, and_true, if_true, if_false, implies_true, and_self, ne_eq, false_and, and_false, or_false, false_or, true_or, or_true]
      exact go2 M1 ⟨r1, A1⟩ ⟨w1, G1⟩
    · by_cases c2 : (set >>> (fa s.1 k 2 &&& 31)) &&& nN 1 = nN 1
      · have ef : sLetF set k s = (sGone s.1 k, s.2 + nN 1) := by unfold sLetF; rw [if_pos ⟨c1, c2⟩]
        have c3 : ¬ (set >>> (fa s.1 k 2 &&& 31)) &&& nN 1 = 0 := by rw [and1_ne0]; exact c2
        rw [ef] at go2
        simp (disch := first | omega | rfl | (repeat' (first | exact gS_sI | exact gP_sI | refine Eq.trans gS_sI ?_ | refine Eq.trans gP_sI ?_ | refine Eq.trans (gIr_sI (by omega)) ?_ | rfl))) only [q_iconst, q_istore2, q_istore3, q_nop, q_iload3, q_aload0, q_aload0N, q_get_r, pTag_1, pRf_s, q_iald, q_ic_ge, q_invv2, inv_1, q_istore4, q_iload4, q_ic_eq, q_iload1, q_ishr, q_iand, q_if_ne, q_goto, q_invv3, q_iinc2, q_iinc3, q_iload2, q_iret, e_111_0, e_111_2, e_111_4, L_0, L_1, L_2, L_3, k_some, k_none, pRm_i, pRm_r, pRm_0, pF_1, pF_2, inv_s, r1.1.k0, r1.1.k1, r1.1.k2, r1.1.k3, r1.1.k4, r1.1.k5, r1.1.k6, r1.1.k7, r1.1.k8, r1.1.k9, r1.1.k10, r1.1.k11, r1.1.k12, r1.1.k13, r1.1.p1, r1.1.p2, r1.1.p4, r1.1.p5, r1.1.p13, r1.1.p18, r1.1.p19, r1.1.p20, r1.1.p21, r1.1.p22, r1.1.p23, r1.1.p24, r1.1.p27, r1.2, w_ofX r1, w_setsX r1, w1.f, c1, c3, e1, nN_le, nN_lt, nN_eq, nN_add, nN_mul, nN_lt0, nN_ge0, nN_gt0, nN_le0, nN_eq0, nN_eq1, nN_neN, pIn_n, pIx_n, eq_self, Nat.reduceLT, Bool.false_eq_true, Nat.add_zero, Nat.zero_add, Nat.reduceAdd, Nat.reduceMul, Nat.reduceSub, Nat.zero_le, Nat.reduceLeDiff, Nat.reduceEqDiff, Nat.le_refl, not_false_eq_true, not_true_eq_false, false_implies, true_implies, forall_const, true_and, and_true, if_true, if_false, implies_true, and_self, ne_eq, false_and, and_false, or_false, false_or, true_or, or_true]
        exact go2 _ ⟨r1.gone, Ag.put A1 (Or.inr rfl)⟩ ⟨sGone_wf w1 hf1, G1.trans (Gn.gone (by omega))⟩
      · have ef : sLetF set k s = s := by unfold sLetF; rw [if_neg (fun z => c2 z.2)]
        have c3 : (set >>> (fa s.1 k 2 &&& 31)) &&& nN 1 = 0 := by rw [← and1_ne0] at c2; exact Classical.not_not.mp c2
        rw [ef] at go2
        simp (disch := first | omega | rfl | (repeat' (first | exact gS_sI | exact gP_sI | refine Eq.trans gS_sI ?_ | refine Eq.trans gP_sI ?_ | refine Eq.trans (gIr_sI (by omega)) ?_ | rfl))) only [q_iconst, q_istore2, q_istore3, q_nop, q_iload3, q_aload0, q_aload0N, q_get_r, pTag_1, pRf_s, q_iald, q_ic_ge, q_invv2, inv_1, q_istore4, q_iload4, q_ic_eq, q_iload1, q_ishr, q_iand, q_if_ne, q_goto, q_invv3, q_iinc2, q_iinc3, q_iload2, q_iret, e_111_0, e_111_2, e_111_4, L_0, L_1, L_2, L_3, k_some, k_none, pRm_i, pRm_r, pRm_0, pF_1, pF_2, inv_s, r1.1.k0, r1.1.k1, r1.1.k2, r1.1.k3, r1.1.k4, r1.1.k5, r1.1.k6, r1.1.k7, r1.1.k8, r1.1.k9, r1.1.k10, r1.1.k11, r1.1.k12, r1.1.k13, r1.1.p1, r1.1.p2, r1.1.p4, r1.1.p5, r1.1.p13, r1.1.p18, r1.1.p19, r1.1.p20, r1.1.p21, r1.1.p22, r1.1.p23, r1.1.p24, r1.1.p27, r1.2, w_ofX r1, w1.f, c1, c3, e1, nN_le, nN_lt, nN_eq, nN_add, nN_mul, nN_lt0, nN_ge0, nN_gt0, nN_le0, nN_eq0, nN_eq1, nN_neN, pIn_n, pIx_n, eq_self, Nat.reduceLT, Bool.false_eq_true, Nat.add_zero, Nat.zero_add, Nat.reduceAdd, Nat.reduceMul, Nat.reduceSub, Nat.zero_le, Nat.reduceLeDiff, Nat.reduceEqDiff, Nat.le_refl, not_false_eq_true, not_true_eq_false, false_implies, true_implies, forall_const, true_and, and_true, if_true, if_false, implies_true, and_self, ne_eq, false_and, and_false, or_false, false_or, true_or, or_true]
        exact go2 M1 ⟨r1, A1⟩ ⟨w1, G1⟩
  · rintro M1 z ⟨⟨r1, A1⟩, w1, G1⟩
    have e : nF (lp (nF a) 0 (a, nN 0) (sLetF set)).1 = nF a := lo_nF G1.1
    have e1 : nF (lp (nF a) 0 (a, nN 0) (sLetF set)).1 ≤ nF a := by omega
    rw [e_111_1]
    simp (disch := first | omega | rfl | (repeat' (first | exact gS_sI | exact gP_sI | refine Eq.trans gS_sI ?_ | refine Eq.trans gP_sI ?_ | refine Eq.trans (gIr_sI (by omega)) ?_ | rfl))) only [q_iconst, q_istore2, q_istore3, q_nop, q_iload3, q_aload0, q_aload0N, q_get_r, pTag_1, pRf_s, q_iald, q_ic_ge, q_invv2, inv_1, q_istore4, q_iload4, q_ic_eq, q_iload1, q_ishr, q_iand, q_if_ne, q_goto, q_invv3, q_iinc2, q_iinc3, q_iload2, q_iret, e_111_0, e_111_2, e_111_3, e_111_4, L_0, L_1, L_2, L_3, k_some, k_none, pRm_i, pRm_r, pRm_0, pF_1, pF_2, inv_s, r1.1.k0, r1.1.k1, r1.1.k2, r1.1.k3, r1.1.k4, r1.1.k5, r1.1.k6, r1.1.k7, r1.1.k8, r1.1.k9, r1.1.k10, r1.1.k11, r1.1.k12, r1.1.k13, r1.1.p1, r1.1.p2, r1.1.p4, r1.1.p5, r1.1.p13, r1.1.p18, r1.1.p19, r1.1.p20, r1.1.p21, r1.1.p22, r1.1.p23, r1.1.p24, r1.1.p27, r1.2, w1.f, e1, nN_le, nN_lt, nN_eq, nN_add, nN_mul, nN_lt0, nN_ge0, nN_gt0, nN_le0, nN_eq0, nN_eq1, nN_neN, pIn_n, pIx_n, eq_self, Nat.reduceLT, Bool.false_eq_true, Nat.add_zero, Nat.zero_add, Nat.reduceAdd, Nat.reduceMul, Nat.reduceSub, Nat.zero_le, Nat.reduceLeDiff, Nat.reduceEqDiff, Nat.le_refl, not_false_eq_true, not_true_eq_false, false_implies, true_implies, forall_const, true_and, and_true, if_true, if_false, implies_true, and_self, ne_eq, false_and, and_false, or_false, false_or, true_or, or_true]
    exact ⟨rfl, r1, A1⟩
end MQ
