/-! THE LAW'S MODEL READS WORDS AND NUMBERS -/
section MW
variable {d n u p q k m c sr : Nat} {b : Nat → Nat} {W : List (List Nat)} {ws : List Nat} {M M1 M' : pMem} {Q : pOut → pMem → Prop} {x y : Int32}
def isW (n : Nat) (b : Nat → Nat) (ws : List Nat) (p : Nat) : Prop := p < n ∧ kd (b p) = 1 ∧ tx n b p = ws
def MdE (M' : pMem) (u n : Nat) (b : Nat → Nat) (p : Nat) (r : Prop) (o : pOut) : Prop := (r ∧ o = .inl (some (.int (nN 1))) ∧ MdS M' u n b (te n b p) (nx9 n b p)) ∨ (¬ r ∧ o = .inl (some (.int (nN 0))) ∧ MdS M' u n b p p)
theorem tx_len (h : p < n) : (tx n b p).length = te n b p - p := by unfold tx; rw [List.length_map, List.length_range]
theorem tx_get {i : Nat} (hi : i < te n b p - p) : (tx n b p).getD i 0 = b (p + i) := by
  unfold tx
  rw [List.getD_eq_getElem?_getD, List.getElem?_map, List.getElem?_range hi]
  rfl
theorem w_has0 (h : MdS M u n b q p) (hs : (gS M sr).1 = 104) (hS : StO sr ws) (hw : 1 ≤ ws.length) : mw (d + 4) 63 [.ref u, .ref sr] M (fun o M' => MdE M' u n b p (isW n b ws p) o ∧ Ag (fun h k => h = u ∧ k = 9) M M') := by
  simp (disch := omega) only [m_63, q_aload0, q_aload0N, q_invv0, inv_1, q_get_i, pTag_1, pRf_s, q_istore2, q_nop, q_iload2, q_ic_ge, q_invv1, q_bipush, q_invs3_20, q_if_eq, q_iinc2, q_goto, q_isub, q_aload1, q_aload1N, q_ic_eq, q_iconst, q_zret, q_istore3, q_iload3, q_iadd, q_iinc3, q_put_i, e_63_0, L_0, L_1, L_97, L_122, k_some, k_none, pRm_i, pRm_r, pRm_0, pF_1, pF_2, inv_s, h.sh.k0, nN_le, nN_lt, nN_eq, nN_add, nN_mul, nN_lt0, nN_ge0, nN_gt0, nN_le0, nN_eq0, nN_eq1, nN_neN, pIn_n, pIx_n, eq_self, Nat.reduceLT, Bool.false_eq_true, Nat.add_zero, Nat.zero_add, Nat.reduceAdd, Nat.reduceMul, Nat.reduceSub, Nat.zero_le, Nat.reduceLeDiff, Nat.reduceEqDiff, Nat.le_refl, not_false_eq_true, not_true_eq_false, false_implies, true_implies, forall_const, true_and, and_true, if_true, if_false, implies_true, and_self, ne_eq, false_and, and_false, or_false, false_or, true_or, or_true]
  refine mw_mono (w_skip h) ?_
  rintro _ M1 ⟨rfl, h1, A1⟩
  have hn := h1.n9
  have hpn := h1.ple.2
  have hs1 : (gS M1 sr).1 = 104 := by rw [A1.S]; exact hs
  have hwl := hS.2.1
  simp (disch := omega) only [q_aload0, q_aload0N, q_invv0, inv_1, q_get_i, pTag_1, pRf_s, q_istore2, q_nop, q_iload2, q_ic_ge, q_invv1, q_bipush, q_invs3_20, q_if_eq, q_iinc2, q_goto, q_isub, q_aload1, q_aload1N, q_ic_eq, q_iconst, q_zret, q_istore3, q_iload3, q_iadd, q_iinc3, q_put_i, e_63_0, L_0, L_1, L_97, L_122, k_some, k_none, pRm_i, pRm_r, pRm_0, pF_1, pF_2, inv_s, h1.sh.k0, h1.aq, nN_le, nN_lt, nN_eq, nN_add, nN_mul, nN_lt0, nN_ge0, nN_gt0, nN_le0, nN_eq0, nN_eq1, nN_neN, pIn_n, pIx_n, eq_self, Nat.reduceLT, Bool.false_eq_true, Nat.add_zero, Nat.zero_add, Nat.reduceAdd, Nat.reduceMul, Nat.reduceSub, Nat.zero_le, Nat.reduceLeDiff, Nat.reduceEqDiff, Nat.le_refl, not_false_eq_true, not_true_eq_false, false_implies, true_implies, forall_const, true_and, and_true, if_true, if_false, implies_true, and_self, ne_eq, false_and, and_false, or_false, false_or, true_or, or_true]
  by_cases c1 : p < n ∧ kd (b p) = 1
  · obtain ⟨g1, g2, g3, g4, g5⟩ := te_spec (b := b) c1.1
    have hB : isB b p = true := by
      rcases h1.at9 with z | z
      · omega
      · exact z.2
    have key : ∀ (j k : Nat), k + j = te n b p → p ≤ k → bw (d + 3) 63 1 ([some (.ref u), some (.ref sr), some (.int (nN k)), none], [], M1) (fun o M' => MdE M' u n b p (isW n b ws p) o ∧ Ag (fun h k => h = u ∧ k = 9) M M') := by
      intro j
      induction j with
      | zero =>
        intro k hk hpk
        have ek : k = te n b p := by omega
        subst ek
        -- behind the letters
        have fin : bw (d + 3) 63 2 ([some (.ref u), some (.ref sr), some (.int (nN (te n b p))), none], [], M1) (fun o M' => MdE M' u n b p (isW n b ws p) o ∧ Ag (fun h k => h = u ∧ k = 9) M M') := by
          have es : nN (te n b p) - nN p = nN (te n b p - p) := nN_subN (by omega)
          rw [e_63_2]
          by_cases c2 : te n b p - p = ws.length
          · simp (disch := omega) only [q_aload0, q_aload0N, q_invv0, inv_1, q_get_i, pTag_1, pRf_s, q_istore2, q_nop, q_iload2, q_ic_ge, q_invv1, q_bipush, q_invs3_20, q_if_eq, q_iinc2, q_goto, q_isub, q_aload1, q_aload1N, q_ic_eq, q_iconst, q_zret, q_istore3, q_iload3, q_iadd, q_iinc3, q_put_i, e_63_0, e_63_3, L_0, L_1, L_97, L_122, k_some, k_none, pRm_i, pRm_r, pRm_0, pF_1, pF_2, inv_s, h1.sh.k0, h1.aq, es, w_strLen hs1 hS, hs1, c2, nN_le, nN_lt, nN_eq, nN_add, nN_mul, nN_lt0, nN_ge0, nN_gt0, nN_le0, nN_eq0, nN_eq1, nN_neN, pIn_n, pIx_n, eq_self, Nat.reduceLT, Bool.false_eq_true, Nat.add_zero, Nat.zero_add, Nat.reduceAdd, Nat.reduceMul, Nat.reduceSub, Nat.zero_le, Nat.reduceLeDiff, Nat.reduceEqDiff, Nat.le_refl, not_false_eq_true, not_true_eq_false, false_implies, true_implies, forall_const, true_and, and_true, if_true, if_false, implies_true, and_self, ne_eq, false_and, and_false, or_false, false_or, true_or, or_true]
            have cmp : ∀ (j i : Nat), i + j = ws.length → (∀ i', i' < i → b (p + i') = ws.getD i' 0) → bw (d + 3) 63 4 ([some (.ref u), some (.ref sr), some (.int (nN (te n b p))), some (.int (nN i))], [], M1) (fun o M' => MdE M' u n b p (isW n b ws p) o ∧ Ag (fun h k => h = u ∧ k = 9) M M') := by
              intro j
              induction j with
              | zero =>
                intro i hi heq
                have ei : ws.length ≤ i := by omega
                have hT : isW n b ws p := by
                  refine ⟨c1.1, c1.2, ?_⟩
                  apply List.ext_getElem (by rw [tx_len c1.1]; exact c2)
                  intro i' h8 h9
                  have h7 := heq i' (by omega)
                  rw [← tx_get (n := n) (b := b) (p := p) (i := i') (by omega), List.getD_eq_getElem?_getD, List.getD_eq_getElem?_getD, List.getElem?_eq_getElem h8, List.getElem?_eq_getElem h9] at h7
                  exact h7
                rw [e_63_4]
                simp (disch := omega) only [q_aload0, q_aload0N, q_invv0, inv_1, q_get_i, pTag_1, pRf_s, q_istore2, q_nop, q_iload2, q_ic_ge, q_invv1, q_bipush, q_invs3_20, q_if_eq, q_iinc2, q_goto, q_isub, q_aload1, q_aload1N, q_ic_eq, q_iconst, q_zret, q_istore3, q_iload3, q_iadd, q_iinc3, q_put_i, e_63_0, e_63_6, L_0, L_1, L_97, L_122, k_some, k_none, pRm_i, pRm_r, pRm_0, pF_1, pF_2, inv_s, h1.sh.k0, w_strLen hs1 hS, hs1, ei, zb_1, nN_le, nN_lt, nN_eq, nN_add, nN_mul, nN_lt0, nN_ge0, nN_gt0, nN_le0, nN_eq0, nN_eq1, nN_neN, pIn_n, pIx_n, eq_self, Nat.reduceLT, Bool.false_eq_true, Nat.add_zero, Nat.zero_add, Nat.reduceAdd, Nat.reduceMul, Nat.reduceSub, Nat.zero_le, Nat.reduceLeDiff, Nat.reduceEqDiff, Nat.le_refl, not_false_eq_true, not_true_eq_false, false_implies, true_implies, forall_const, true_and, and_true, if_true, if_false, implies_true, and_self, ne_eq, false_and, and_false, or_false, false_or, true_or, or_true]
                have A2 : Ag (fun h k => h = u ∧ k = 9) M1 (sI M1 u 9 (nN (te n b p))) := Ag.one ⟨rfl, rfl⟩
                exact ⟨Or.inl ⟨hT, rfl, h1.mv A2 (by rw [gI_sI, if_pos ⟨rfl, rfl⟩]) (Cl_te c1.1 hB) rfl⟩, A1.trans A2⟩
              | succ j ih =>
                intro i hi heq
                have ei : ¬ ws.length ≤ i := by omega
                have hb9 := h1.b9 (p + i)
                have hc9 : ws.getD i 0 < 256 := by
                  rw [List.getD_eq_getElem?_getD, List.getElem?_eq_getElem (show i < ws.length by omega)]
                  exact hS.2.2.1 _ (List.getElem_mem _)
                rw [e_63_4]
                by_cases c3 : b (p + i) = ws.getD i 0
                · simp (disch := omega) only [q_aload0, q_aload0N, q_invv0, inv_1, q_get_i, pTag_1, pRf_s, q_istore2, q_nop, q_iload2, q_ic_ge, q_invv1, q_bipush, q_invs3_20, q_if_eq, q_iinc2, q_goto, q_isub, q_aload1, q_aload1N, q_ic_eq, q_iconst, q_zret, q_istore3, q_iload3, q_iadd, q_iinc3, q_put_i, e_63_0, e_63_5, L_0, L_1, L_97, L_122, k_some, k_none, pRm_i, pRm_r, pRm_0, pF_1, pF_2, inv_s, h1.sh.k0, h1.aq, w_letter h1.sh h1.lt, w_strLen hs1 hS, w_charAt hs1 hS, hs1, ei, c3, nN_le, nN_lt, nN_eq, nN_add, nN_mul, nN_lt0, nN_ge0, nN_gt0, nN_le0, nN_eq0, nN_eq1, nN_neN, pIn_n, pIx_n, eq_self, Nat.reduceLT, Bool.false_eq_true, Nat.add_zero, Nat.zero_add, Nat.reduceAdd, Nat.reduceMul, Nat.reduceSub, Nat.zero_le, Nat.reduceLeDiff, Nat.reduceEqDiff, Nat.le_refl, not_false_eq_true, not_true_eq_false, false_implies, true_implies, forall_const, true_and, and_true, if_true, if_false, implies_true, and_self, ne_eq, false_and, and_false, or_false, false_or, true_or, or_true]
                  refine ih (i + 1) (by omega) (fun i' hi' => ?_)
                  by_cases c4 : i' = i
                  · rw [c4]; exact c3
                  · exact heq i' (by omega)
                · simp (disch := omega) only [q_aload0, q_aload0N, q_invv0, inv_1, q_get_i, pTag_1, pRf_s, q_istore2, q_nop, q_iload2, q_ic_ge, q_invv1, q_bipush, q_invs3_20, q_if_eq, q_iinc2, q_goto, q_isub, q_aload1, q_aload1N, q_ic_eq, q_iconst, q_zret, q_istore3, q_iload3, q_iadd, q_iinc3, q_put_i, e_63_0, L_0, L_1, L_97, L_122, k_some, k_none, pRm_i, pRm_r, pRm_0, pF_1, pF_2, inv_s, h1.sh.k0, h1.aq, w_letter h1.sh h1.lt, w_strLen hs1 hS, w_charAt hs1 hS, hs1, ei, c3, zb_0, nN_le, nN_lt, nN_eq, nN_add, nN_mul, nN_lt0, nN_ge0, nN_gt0, nN_le0, nN_eq0, nN_eq1, nN_neN, pIn_n, pIx_n, eq_self, Nat.reduceLT, Bool.false_eq_true, Nat.add_zero, Nat.zero_add, Nat.reduceAdd, Nat.reduceMul, Nat.reduceSub, Nat.zero_le, Nat.reduceLeDiff, Nat.reduceEqDiff, Nat.le_refl, not_false_eq_true, not_true_eq_false, false_implies, true_implies, forall_const, true_and, and_true, if_true, if_false, implies_true, and_self, ne_eq, false_and, and_false, or_false, false_or, true_or, or_true]
                  refine ⟨Or.inr ⟨?_, rfl, h1⟩, A1⟩
                  rintro ⟨-, -, z⟩
                  apply c3
                  rw [← tx_get (n := n) (b := b) (p := p) (i := i) (by omega), z]
            exact cmp ws.length 0 (by omega) (fun i' hi' => by omega)
          · simp (disch := omega) only [q_aload0, q_aload0N, q_invv0, inv_1, q_get_i, pTag_1, pRf_s, q_istore2, q_nop, q_iload2, q_ic_ge, q_invv1, q_bipush, q_invs3_20, q_if_eq, q_iinc2, q_goto, q_isub, q_aload1, q_aload1N, q_ic_eq, q_iconst, q_zret, q_istore3, q_iload3, q_iadd, q_iinc3, q_put_i, e_63_0, L_0, L_1, L_97, L_122, k_some, k_none, pRm_i, pRm_r, pRm_0, pF_1, pF_2, inv_s, h1.sh.k0, h1.aq, es, w_strLen hs1 hS, hs1, c2, zb_0, nN_le, nN_lt, nN_eq, nN_add, nN_mul, nN_lt0, nN_ge0, nN_gt0, nN_le0, nN_eq0, nN_eq1, nN_neN, pIn_n, pIx_n, eq_self, Nat.reduceLT, Bool.false_eq_true, Nat.add_zero, Nat.zero_add, Nat.reduceAdd, Nat.reduceMul, Nat.reduceSub, Nat.zero_le, Nat.reduceLeDiff, Nat.reduceEqDiff, Nat.le_refl, not_false_eq_true, not_true_eq_false, false_implies, true_implies, forall_const, true_and, and_true, if_true, if_false, implies_true, and_self, ne_eq, false_and, and_false, or_false, false_or, true_or, or_true]
            refine ⟨Or.inr ⟨?_, rfl, h1⟩, A1⟩
            rintro ⟨-, -, z⟩
            exact c2 (by rw [← z, tx_len c1.1])
        rw [e_63_1]
        by_cases c9 : n ≤ te n b p
        · simp (disch := omega) only [q_aload0, q_aload0N, q_invv0, inv_1, q_get_i, pTag_1, pRf_s, q_istore2, q_nop, q_iload2, q_ic_ge, q_invv1, q_bipush, q_invs3_20, q_if_eq, q_iinc2, q_goto, q_isub, q_aload1, q_aload1N, q_ic_eq, q_iconst, q_zret, q_istore3, q_iload3, q_iadd, q_iinc3, q_put_i, e_63_0, L_0, L_1, L_97, L_122, k_some, k_none, pRm_i, pRm_r, pRm_0, pF_1, pF_2, inv_s, h1.sh.k0, h1.en, c9, nN_le, nN_lt, nN_eq, nN_add, nN_mul, nN_lt0, nN_ge0, nN_gt0, nN_le0, nN_eq0, nN_eq1, nN_neN, pIn_n, pIx_n, eq_self, Nat.reduceLT, Bool.false_eq_true, Nat.add_zero, Nat.zero_add, Nat.reduceAdd, Nat.reduceMul, Nat.reduceSub, Nat.zero_le, Nat.reduceLeDiff, Nat.reduceEqDiff, Nat.le_refl, not_false_eq_true, not_true_eq_false, false_implies, true_implies, forall_const, true_and, and_true, if_true, if_false, implies_true, and_self, ne_eq, false_and, and_false, or_false, false_or, true_or, or_true]
          exact fin
        · have hb9 := h1.b9 (te n b p)
          have c8 : ¬ (97 ≤ b (te n b p) ∧ b (te n b p) ≤ 122) := by
            rw [← kd_1]
            rcases g3 (by omega) with z | z
            · rw [c1.2] at z; cases z
            · rw [c1.2] at z; exact z
          simp (disch := omega) only [q_aload0, q_aload0N, q_invv0, inv_1, q_get_i, pTag_1, pRf_s, q_istore2, q_nop, q_iload2, q_ic_ge, q_invv1, q_bipush, q_invs3_20, q_if_eq, q_iinc2, q_goto, q_isub, q_aload1, q_aload1N, q_ic_eq, q_iconst, q_zret, q_istore3, q_iload3, q_iadd, q_iinc3, q_put_i, e_63_0, L_0, L_1, L_97, L_122, k_some, k_none, pRm_i, pRm_r, pRm_0, pF_1, pF_2, inv_s, h1.sh.k0, h1.en, w_letter h1.sh h1.lt, w_isIn, bI_eq0, c8, c9, nN_le, nN_lt, nN_eq, nN_add, nN_mul, nN_lt0, nN_ge0, nN_gt0, nN_le0, nN_eq0, nN_eq1, nN_neN, pIn_n, pIx_n, eq_self, Nat.reduceLT, Bool.false_eq_true, Nat.add_zero, Nat.zero_add, Nat.reduceAdd, Nat.reduceMul, Nat.reduceSub, Nat.zero_le, Nat.reduceLeDiff, Nat.reduceEqDiff, Nat.le_refl, not_false_eq_true, not_true_eq_false, false_implies, true_implies, forall_const, true_and, and_true, if_true, if_false, implies_true, and_self, ne_eq, false_and, and_false, or_false, false_or, true_or, or_true]
          exact fin
      | succ j ih =>
        intro k hk hpk
        have c9 : ¬ n ≤ k := by omega
        have hb9 := h1.b9 k
        have c8 : 97 ≤ b k ∧ b k ≤ 122 := by rw [← kd_1, g4 k hpk (by omega)]; exact c1.2
        obtain ⟨c7, c6⟩ := c8
        rw [e_63_1]
        simp (disch := omega) only [q_aload0, q_aload0N, q_invv0, inv_1, q_get_i, pTag_1, pRf_s, q_istore2, q_nop, q_iload2, q_ic_ge, q_invv1, q_bipush, q_invs3_20, q_if_eq, q_iinc2, q_goto, q_isub, q_aload1, q_aload1N, q_ic_eq, q_iconst, q_zret, q_istore3, q_iload3, q_iadd, q_iinc3, q_put_i, e_63_0, L_0, L_1, L_97, L_122, k_some, k_none, pRm_i, pRm_r, pRm_0, pF_1, pF_2, inv_s, h1.sh.k0, h1.en, w_letter h1.sh h1.lt, w_isIn, bI_eq0, c7, c6, c9, nN_le, nN_lt, nN_eq, nN_add, nN_mul, nN_lt0, nN_ge0, nN_gt0, nN_le0, nN_eq0, nN_eq1, nN_neN, pIn_n, pIx_n, eq_self, Nat.reduceLT, Bool.false_eq_true, Nat.add_zero, Nat.zero_add, Nat.reduceAdd, Nat.reduceMul, Nat.reduceSub, Nat.zero_le, Nat.reduceLeDiff, Nat.reduceEqDiff, Nat.le_refl, not_false_eq_true, not_true_eq_false, false_implies, true_implies, forall_const, true_and, and_true, if_true, if_false, implies_true, and_self, ne_eq, false_and, and_false, or_false, false_or, true_or, or_true]
        exact ih (k + 1) (by omega) (by omega)
    exact key (te n b p - p) p (by omega) (Nat.le_refl _)
  · have es : nN p - nN p = nN 0 := by rw [nN_subN (Nat.le_refl _), Nat.sub_self]
    have e0 : ¬ 0 = ws.length := by omega
    have hT : ¬ isW n b ws p := fun z => c1 ⟨z.1, z.2.1⟩
    rw [e_63_1]
    by_cases c9 : n ≤ p
    · simp (disch := omega) only [q_aload0, q_aload0N, q_invv0, inv_1, q_get_i, pTag_1, pRf_s, q_istore2, q_nop, q_iload2, q_ic_ge, q_invv1, q_bipush, q_invs3_20, q_if_eq, q_iinc2, q_goto, q_isub, q_aload1, q_aload1N, q_ic_eq, q_iconst, q_zret, q_istore3, q_iload3, q_iadd, q_iinc3, q_put_i, e_63_0, e_63_2, L_0, L_1, L_97, L_122, k_some, k_none, pRm_i, pRm_r, pRm_0, pF_1, pF_2, inv_s, h1.sh.k0, h1.aq, h1.en, es, w_strLen hs1 hS, hs1, e0, c9, zb_0, nN_le, nN_lt, nN_eq, nN_add, nN_mul, nN_lt0, nN_ge0, nN_gt0, nN_le0, nN_eq0, nN_eq1, nN_neN, pIn_n, pIx_n, eq_self, Nat.reduceLT, Bool.false_eq_true, Nat.add_zero, Nat.zero_add, Nat.reduceAdd, Nat.reduceMul, Nat.reduceSub, Nat.zero_le, Nat.reduceLeDiff, Nat.reduceEqDiff, Nat.le_refl, not_false_eq_true, not_true_eq_false, false_implies, true_implies, forall_const, true_and, and_true, if_true, if_false, implies_true, and_self, ne_eq, false_and, and_false, or_false, false_or, true_or, or_true]
      exact ⟨Or.inr ⟨hT, rfl, h1⟩, A1⟩
    · have hb9 := h1.b9 p
      have c8 : ¬ (97 ≤ b p ∧ b p ≤ 122) := by
        rw [← kd_1]
        exact fun z => c1 ⟨by omega, z⟩
      simp (disch := omega) only [q_aload0, q_aload0N, q_invv0, inv_1, q_get_i, pTag_1, pRf_s, q_istore2, q_nop, q_iload2, q_ic_ge, q_invv1, q_bipush, q_invs3_20, q_if_eq, q_iinc2, q_goto, q_isub, q_aload1, q_aload1N, q_ic_eq, q_iconst, q_zret, q_istore3, q_iload3, q_iadd, q_iinc3, q_put_i, e_63_0, e_63_2, L_0, L_1, L_97, L_122, k_some, k_none, pRm_i, pRm_r, pRm_0, pF_1, pF_2, inv_s, h1.sh.k0, h1.aq, h1.en, w_letter h1.sh h1.lt, w_isIn, bI_eq0, es, w_strLen hs1 hS, hs1, e0, c8, c9, zb_0, nN_le, nN_lt, nN_eq, nN_add, nN_mul, nN_lt0, nN_ge0, nN_gt0, nN_le0, nN_eq0, nN_eq1, nN_neN, pIn_n, pIx_n, eq_self, Nat.reduceLT, Bool.false_eq_true, Nat.add_zero, Nat.zero_add, Nat.reduceAdd, Nat.reduceMul, Nat.reduceSub, Nat.zero_le, Nat.reduceLeDiff, Nat.reduceEqDiff, Nat.le_refl, not_false_eq_true, not_true_eq_false, false_implies, true_implies, forall_const, true_and, and_true, if_true, if_false, implies_true, and_self, ne_eq, false_and, and_false, or_false, false_or, true_or, or_true]
      exact ⟨Or.inr ⟨hT, rfl, h1⟩, A1⟩
/-- a number is read, or the text is wrong here -/
def MdN (M' : pMem) (u n : Nat) (b : Nat → Nat) (W : List (List Nat)) (p lo c : Nat) (o : pOut) : Prop := (lo ≤ th W n b p ∧ th W n b p < c) ∧ o = .inl (some (.int (nN (th W n b p)))) ∧ MdS M' u n b (te n b p) (nx9 n b p) ∨ ¬ (lo ≤ th W n b p ∧ th W n b p < c) ∧ (∃ v, o = .inl (some (.int v))) ∧ gI M' u 10 = nN p ∧ ∃ q9, q9 ≤ n ∧ gI M' u 9 = nN q9
theorem w_figures {lo : Nat} {hi : Int32} (h : MdS M u n b q p) (hW : W.length < 100) (hlo : lo ≤ 1000) (hh : ∀ v, v ≤ 3001 → ((nN v ≤ hi) = (v < c))) (hc : c ≤ 1000) : mw (d + 4) 66 [.ref u, .int (nN lo), .int hi] M (fun o M' => MdN M' u n b W p lo c o ∧ Ag (MdX u) M M') := by
  simp (disch := omega) only [m_66, q_aload0, q_aload0N, q_get_i, pTag_1, pRf_s, q_iconst, q_ic_eq, q_iret, q_invv0, inv_1, q_istore3, q_istore4, q_nop, q_ic_ge, q_invv1, q_bipush, q_invs3_20, q_if_eq, q_iload3, q_isub, q_iload4, q_imul, q_iadd, q_dup_i, q_dup_r, q_put_i, q_goto, q_ic_gt, q_iload1, q_ic_lt, q_iload2, q_ic_le, e_66_0, e_66_1, L_0, L_1, L_3, L_4, L_10, L_48, L_57, k_some, k_none, pRm_i, pRm_r, pRm_0, pF_1, pF_2, inv_s, h.sh.k0, h.ft, nN_le, nN_lt, nN_eq, nN_add, nN_mul, nN_lt0, nN_ge0, nN_gt0, nN_le0, nN_eq0, nN_eq1, nN_neN, pIn_n, pIx_n, eq_self, Nat.reduceLT, Bool.false_eq_true, Nat.add_zero, Nat.zero_add, Nat.reduceAdd, Nat.reduceMul, Nat.reduceSub, Nat.zero_le, Nat.reduceLeDiff, Nat.reduceEqDiff, Nat.le_refl, not_false_eq_true, not_true_eq_false, false_implies, true_implies, forall_const, true_and, and_true, if_true, if_false, implies_true, and_self, ne_eq, false_and, and_false, or_false, false_or, true_or, or_true]
  refine mw_mono (w_skip h) ?_
  rintro _ M1 ⟨rfl, h1, A1⟩
  have hn := h1.n9
  have hpn := h1.ple.2
  have A1' : Ag (MdX u) M M1 := A1.mono fun h k z => ⟨z.1, Or.inl z.2⟩
  simp (disch := omega) only [q_aload0, q_aload0N, q_get_i, pTag_1, pRf_s, q_iconst, q_ic_eq, q_iret, q_invv0, inv_1, q_istore3, q_istore4, q_nop, q_ic_ge, q_invv1, q_bipush, q_invs3_20, q_if_eq, q_iload3, q_isub, q_iload4, q_imul, q_iadd, q_dup_i, q_dup_r, q_put_i, q_goto, q_ic_gt, q_iload1, q_ic_lt, q_iload2, q_ic_le, e_66_0, e_66_1, L_0, L_1, L_3, L_4, L_10, L_48, L_57, k_some, k_none, pRm_i, pRm_r, pRm_0, pF_1, pF_2, inv_s, h1.sh.k0, h1.aq, nN_le, nN_lt, nN_eq, nN_add, nN_mul, nN_lt0, nN_ge0, nN_gt0, nN_le0, nN_eq0, nN_eq1, nN_neN, pIn_n, pIx_n, eq_self, Nat.reduceLT, Bool.false_eq_true, Nat.add_zero, Nat.zero_add, Nat.reduceAdd, Nat.reduceMul, Nat.reduceSub, Nat.zero_le, Nat.reduceLeDiff, Nat.reduceEqDiff, Nat.le_refl, not_false_eq_true, not_true_eq_false, false_implies, true_implies, forall_const, true_and, and_true, if_true, if_false, implies_true, and_self, ne_eq, false_and, and_false, or_false, false_or, true_or, or_true]
  -- the end: wrong
  have bad : ∀ (M2 : pMem) (v : Int32), ShM (gS M2) (gP M2) u → gI M2 u 10 = iN (-1) → Ag (MdX u) M M2 → ¬ (lo ≤ th W n b p ∧ th W n b p < c) → (∃ q9, q9 ≤ n ∧ gI M2 u 9 = nN q9) → bw (d + 3) 66 4 ([some (.ref u), some (.int (nN lo)), some (.int hi), some (.int (nN p)), some (.int v)], [], M2) (fun o M' => MdN M' u n b W p lo c o ∧ Ag (MdX u) M M') := by
    intro M2 v s2 f2 A2 hno ⟨q9, z1, z2⟩
    rw [e_66_4]
    simp (disch := omega) only [q_aload0, q_aload0N, q_get_i, pTag_1, pRf_s, q_iconst, q_ic_eq, q_iret, q_invv0, inv_1, q_istore3, q_istore4, q_nop, q_ic_ge, q_invv1, q_bipush, q_invs3_20, q_if_eq, q_iload3, q_isub, q_iload4, q_imul, q_iadd, q_dup_i, q_dup_r, q_put_i, q_goto, q_ic_gt, q_iload1, q_ic_lt, q_iload2, q_ic_le, e_66_0, e_66_1, L_0, L_1, L_3, L_4, L_10, L_48, L_57, k_some, k_none, pRm_i, pRm_r, pRm_0, pF_1, pF_2, inv_s, s2.k0, nN_le, nN_lt, nN_eq, nN_add, nN_mul, nN_lt0, nN_ge0, nN_gt0, nN_le0, nN_eq0, nN_eq1, nN_neN, pIn_n, pIx_n, eq_self, Nat.reduceLT, Bool.false_eq_true, Nat.add_zero, Nat.zero_add, Nat.reduceAdd, Nat.reduceMul, Nat.reduceSub, Nat.zero_le, Nat.reduceLeDiff, Nat.reduceEqDiff, Nat.le_refl, not_false_eq_true, not_true_eq_false, false_implies, true_implies, forall_const, true_and, and_true, if_true, if_false, implies_true, and_self, ne_eq, false_and, and_false, or_false, false_or, true_or, or_true]
    refine mw_mono (w_wrongM s2 f2) ?_
    rintro _ M3 ⟨rfl, h3, A3⟩
    simp (disch := omega) only [q_aload0, q_aload0N, q_get_i, pTag_1, pRf_s, q_iconst, q_ic_eq, q_iret, q_invv0, inv_1, q_istore3, q_istore4, q_nop, q_ic_ge, q_invv1, q_bipush, q_invs3_20, q_if_eq, q_iload3, q_isub, q_iload4, q_imul, q_iadd, q_dup_i, q_dup_r, q_put_i, q_goto, q_ic_gt, q_iload1, q_ic_lt, q_iload2, q_ic_le, e_66_0, e_66_1, e_66_5, L_0, L_1, L_3, L_4, L_10, L_48, L_57, k_some, k_none, pRm_i, pRm_r, pRm_0, pF_1, pF_2, inv_s, eq_self, Nat.reduceLT, Bool.false_eq_true, Nat.add_zero, Nat.zero_add, Nat.reduceAdd, Nat.reduceMul, Nat.reduceSub, Nat.zero_le, Nat.reduceLeDiff, Nat.reduceEqDiff, Nat.le_refl, not_false_eq_true, not_true_eq_false, false_implies, true_implies, forall_const, true_and, and_true, if_true, if_false, implies_true, and_self, ne_eq, false_and, and_false, or_false, false_or, true_or, or_true]
    exact ⟨Or.inr ⟨hno, ⟨v, rfl⟩, h3, q9, z1, by rw [A3.I (by omega)]; exact z2⟩, A2.trans (A3.mono fun h k z => ⟨z.1, Or.inr z.2⟩)⟩
  by_cases c2 : p < n ∧ kd (b p) = 2
  · obtain ⟨g1, g2, g3, g4, g5⟩ := te_spec (b := b) c2.1
    have hB : isB b p = true := by
      rcases h1.at9 with z | z
      · omega
      · exact z.2
    have hd : ∀ i, i < te n b p - p → 48 ≤ b (p + i) ∧ b (p + i) ≤ 57 := fun i hi => kd_2 (by rw [g4 (p + i) (by omega) (by omega)]; exact c2.2)
    have hk9 := th_kinds (b := b) hW c2.1
    have key : ∀ (j k : Nat) (M2 : pMem), k + j = te n b p - p → k ≤ 4 → (ShM (gS M2) (gP M2) u ∧ LtM M2 u n b ∧ gI M2 u 8 = nN n ∧ gI M2 u 10 = iN (-1) ∧ gI M2 u 9 = nN (p + k)) → Ag (fun h k => h = u ∧ k = 9) M1 M2 → bw (d + 3) 66 2 ([some (.ref u), some (.int (nN lo)), some (.int hi), some (.int (nN p)), some (.int (nN (nmV b p k)))], [], M2) (fun o M' => MdN M' u n b W p lo c o ∧ Ag (MdX u) M M') := by
      intro j
      induction j with
      | zero =>
        intro k M2 hk hk4 ⟨s2, l2, n2, f2, q2⟩ A2
        have ek : k = te n b p - p := by omega
        have es : nN (p + k) - nN p = nN k := by rw [nN_subN (by omega)]; congr 1; omega
        have A02 : Ag (MdX u) M M2 := A1'.trans (A2.mono fun h k z => ⟨z.1, Or.inl z.2⟩)
        have d0 : ¬ p + k = p := by omega
        have ht : th W n b p = if 3 < k then 3001 else nmV b p k := by
          unfold th tx
          rw [if_neg (by omega), if_neg (by rw [c2.2]; omega), if_pos c2.2, numV_nm, ← ek]
        have fin : bw (d + 3) 66 3 ([some (.ref u), some (.int (nN lo)), some (.int hi), some (.int (nN p)), some (.int (nN (nmV b p k)))], [], M2) (fun o M' => MdN M' u n b W p lo c o ∧ Ag (MdX u) M M') := by
          rw [e_66_3]
          by_cases c4 : 3 < k
          · rw [if_pos c4] at ht
            simp (disch := omega) only [q_aload0, q_aload0N, q_get_i, pTag_1, pRf_s, q_iconst, q_ic_eq, q_iret, q_invv0, inv_1, q_istore3, q_istore4, q_nop, q_ic_ge, q_invv1, q_bipush, q_invs3_20, q_if_eq, q_iload3, q_isub, q_iload4, q_imul, q_iadd, q_dup_i, q_dup_r, q_put_i, q_goto, q_ic_gt, q_iload1, q_ic_lt, q_iload2, q_ic_le, e_66_0, e_66_1, L_0, L_1, L_3, L_4, L_10, L_48, L_57, k_some, k_none, pRm_i, pRm_r, pRm_0, pF_1, pF_2, inv_s, s2.k0, q2, es, d0, c4, nN_le, nN_lt, nN_eq, nN_add, nN_mul, nN_lt0, nN_ge0, nN_gt0, nN_le0, nN_eq0, nN_eq1, nN_neN, pIn_n, pIx_n, eq_self, Nat.reduceLT, Bool.false_eq_true, Nat.add_zero, Nat.zero_add, Nat.reduceAdd, Nat.reduceMul, Nat.reduceSub, Nat.zero_le, Nat.reduceLeDiff, Nat.reduceEqDiff, Nat.le_refl, not_false_eq_true, not_true_eq_false, false_implies, true_implies, forall_const, true_and, and_true, if_true, if_false, implies_true, and_self, ne_eq, false_and, and_false, or_false, false_or, true_or, or_true]
            exact bad M2 _ s2 f2 A02 (by omega) ⟨p + k, by omega, q2⟩
          · rw [if_neg c4] at ht
            have hv9 := nmV_lt (b := b) (p := p) (m := k) (fun i hi => hd i (by omega))
            have h2 : 10 ^ k ≤ 10 ^ 3 := Nat.pow_le_pow_right (by omega) (by omega)
            have e9 := hh (nmV b p k) (by omega)
            by_cases c5 : nmV b p k < lo
            · simp (disch := omega) only [q_aload0, q_aload0N, q_get_i, pTag_1, pRf_s, q_iconst, q_ic_eq, q_iret, q_invv0, inv_1, q_istore3, q_istore4, q_nop, q_ic_ge, q_invv1, q_bipush, q_invs3_20, q_if_eq, q_iload3, q_isub, q_iload4, q_imul, q_iadd, q_dup_i, q_dup_r, q_put_i, q_goto, q_ic_gt, q_iload1, q_ic_lt, q_iload2, q_ic_le, e_66_0, e_66_1, L_0, L_1, L_3, L_4, L_10, L_48, L_57, k_some, k_none, pRm_i, pRm_r, pRm_0, pF_1, pF_2, inv_s, s2.k0, q2, es, d0, c4, c5, nN_le, nN_lt, nN_eq, nN_add, nN_mul, nN_lt0, nN_ge0, nN_gt0, nN_le0, nN_eq0, nN_eq1, nN_neN, pIn_n, pIx_n, eq_self, Nat.reduceLT, Bool.false_eq_true, Nat.add_zero, Nat.zero_add, Nat.reduceAdd, Nat.reduceMul, Nat.reduceSub, Nat.zero_le, Nat.reduceLeDiff, Nat.reduceEqDiff, Nat.le_refl, not_false_eq_true, not_true_eq_false, false_implies, true_implies, forall_const, true_and, and_true, if_true, if_false, implies_true, and_self, ne_eq, false_and, and_false, or_false, false_or, true_or, or_true]
              exact bad M2 _ s2 f2 A02 (by omega) ⟨p + k, by omega, q2⟩
            · by_cases c6 : nmV b p k < c
              · have e8 : nN (nmV b p k) ≤ hi := by rw [e9]; exact c6
                simp (disch := omega) only [q_aload0, q_aload0N, q_get_i, pTag_1, pRf_s, q_iconst, q_ic_eq, q_iret, q_invv0, inv_1, q_istore3, q_istore4, q_nop, q_ic_ge, q_invv1, q_bipush, q_invs3_20, q_if_eq, q_iload3, q_isub, q_iload4, q_imul, q_iadd, q_dup_i, q_dup_r, q_put_i, q_goto, q_ic_gt, q_iload1, q_ic_lt, q_iload2, q_ic_le, e_66_0, e_66_1, e_66_5, L_0, L_1, L_3, L_4, L_10, L_48, L_57, k_some, k_none, pRm_i, pRm_r, pRm_0, pF_1, pF_2, inv_s, s2.k0, q2, es, d0, c4, c5, e8, nN_le, nN_lt, nN_eq, nN_add, nN_mul, nN_lt0, nN_ge0, nN_gt0, nN_le0, nN_eq0, nN_eq1, nN_neN, pIn_n, pIx_n, eq_self, Nat.reduceLT, Bool.false_eq_true, Nat.add_zero, Nat.zero_add, Nat.reduceAdd, Nat.reduceMul, Nat.reduceSub, Nat.zero_le, Nat.reduceLeDiff, Nat.reduceEqDiff, Nat.le_refl, not_false_eq_true, not_true_eq_false, false_implies, true_implies, forall_const, true_and, and_true, if_true, if_false, implies_true, and_self, ne_eq, false_and, and_false, or_false, false_or, true_or, or_true]
                refine ⟨Or.inl ⟨⟨by omega, by omega⟩, by rw [ht], ?_⟩, A02⟩
                have e7 : p + k = te n b p := by omega
                rw [e7] at q2
                exact MdS.mk s2 l2 hn h1.b9 n2 f2 q2 (Cl_te c2.1 hB) rfl
              · have e8 : ¬ nN (nmV b p k) ≤ hi := by rw [e9]; exact c6
                simp (disch := omega) only [q_aload0, q_aload0N, q_get_i, pTag_1, pRf_s, q_iconst, q_ic_eq, q_iret, q_invv0, inv_1, q_istore3, q_istore4, q_nop, q_ic_ge, q_invv1, q_bipush, q_invs3_20, q_if_eq, q_iload3, q_isub, q_iload4, q_imul, q_iadd, q_dup_i, q_dup_r, q_put_i, q_goto, q_ic_gt, q_iload1, q_ic_lt, q_iload2, q_ic_le, e_66_0, e_66_1, L_0, L_1, L_3, L_4, L_10, L_48, L_57, k_some, k_none, pRm_i, pRm_r, pRm_0, pF_1, pF_2, inv_s, s2.k0, q2, es, d0, c4, c5, e8, nN_le, nN_lt, nN_eq, nN_add, nN_mul, nN_lt0, nN_ge0, nN_gt0, nN_le0, nN_eq0, nN_eq1, nN_neN, pIn_n, pIx_n, eq_self, Nat.reduceLT, Bool.false_eq_true, Nat.add_zero, Nat.zero_add, Nat.reduceAdd, Nat.reduceMul, Nat.reduceSub, Nat.zero_le, Nat.reduceLeDiff, Nat.reduceEqDiff, Nat.le_refl, not_false_eq_true, not_true_eq_false, false_implies, true_implies, forall_const, true_and, and_true, if_true, if_false, implies_true, and_self, ne_eq, false_and, and_false, or_false, false_or, true_or, or_true]
                exact bad M2 _ s2 f2 A02 (by omega) ⟨p + k, by omega, q2⟩
        rw [e_66_2]
        by_cases c9 : n ≤ p + k
        · simp (disch := omega) only [q_aload0, q_aload0N, q_get_i, pTag_1, pRf_s, q_iconst, q_ic_eq, q_iret, q_invv0, inv_1, q_istore3, q_istore4, q_nop, q_ic_ge, q_invv1, q_bipush, q_invs3_20, q_if_eq, q_iload3, q_isub, q_iload4, q_imul, q_iadd, q_dup_i, q_dup_r, q_put_i, q_goto, q_ic_gt, q_iload1, q_ic_lt, q_iload2, q_ic_le, e_66_0, e_66_1, L_0, L_1, L_3, L_4, L_10, L_48, L_57, k_some, k_none, pRm_i, pRm_r, pRm_0, pF_1, pF_2, inv_s, s2.k0, q2, n2, c9, nN_le, nN_lt, nN_eq, nN_add, nN_mul, nN_lt0, nN_ge0, nN_gt0, nN_le0, nN_eq0, nN_eq1, nN_neN, pIn_n, pIx_n, eq_self, Nat.reduceLT, Bool.false_eq_true, Nat.add_zero, Nat.zero_add, Nat.reduceAdd, Nat.reduceMul, Nat.reduceSub, Nat.zero_le, Nat.reduceLeDiff, Nat.reduceEqDiff, Nat.le_refl, not_false_eq_true, not_true_eq_false, false_implies, true_implies, forall_const, true_and, and_true, if_true, if_false, implies_true, and_self, ne_eq, false_and, and_false, or_false, false_or, true_or, or_true]
          exact fin
        · have hb9 := h1.b9 (p + k)
          have e7 : p + k = te n b p := by omega
          have c8 : ¬ (48 ≤ b (p + k) ∧ b (p + k) ≤ 57) := by
            rw [← kd_2e, e7]
            rcases g3 (by omega) with z | z
            · rw [c2.2] at z; cases z
            · rw [c2.2] at z; exact z
          simp (disch := omega) only [q_aload0, q_aload0N, q_get_i, pTag_1, pRf_s, q_iconst, q_ic_eq, q_iret, q_invv0, inv_1, q_istore3, q_istore4, q_nop, q_ic_ge, q_invv1, q_bipush, q_invs3_20, q_if_eq, q_iload3, q_isub, q_iload4, q_imul, q_iadd, q_dup_i, q_dup_r, q_put_i, q_goto, q_ic_gt, q_iload1, q_ic_lt, q_iload2, q_ic_le, e_66_0, e_66_1, L_0, L_1, L_3, L_4, L_10, L_48, L_57, k_some, k_none, pRm_i, pRm_r, pRm_0, pF_1, pF_2, inv_s, s2.k0, q2, n2, w_letter s2 l2, w_isIn, bI_eq0, c8, c9, nN_le, nN_lt, nN_eq, nN_add, nN_mul, nN_lt0, nN_ge0, nN_gt0, nN_le0, nN_eq0, nN_eq1, nN_neN, pIn_n, pIx_n, eq_self, Nat.reduceLT, Bool.false_eq_true, Nat.add_zero, Nat.zero_add, Nat.reduceAdd, Nat.reduceMul, Nat.reduceSub, Nat.zero_le, Nat.reduceLeDiff, Nat.reduceEqDiff, Nat.le_refl, not_false_eq_true, not_true_eq_false, false_implies, true_implies, forall_const, true_and, and_true, if_true, if_false, implies_true, and_self, ne_eq, false_and, and_false, or_false, false_or, true_or, or_true]
          exact fin
      | succ j ih =>
        intro k M2 hk hk4 ⟨s2, l2, n2, f2, q2⟩ A2
        have es : nN (p + k) - nN p = nN k := by rw [nN_subN (by omega)]; congr 1; omega
        have A02 : Ag (MdX u) M M2 := A1'.trans (A2.mono fun h k z => ⟨z.1, Or.inl z.2⟩)
        have c9 : ¬ n ≤ p + k := by omega
        have hb9 := h1.b9 (p + k)
        obtain ⟨c7, c6⟩ := hd k (by omega)
        have d0 : 4 ≤ k → ¬ p + k = p := by omega
        rw [e_66_2]
        by_cases c4 : 4 ≤ k
        · have d1 := d0 c4
          have ht : th W n b p = 3001 := by
            unfold th
            rw [if_neg (by omega), if_neg (by rw [c2.2]; omega), if_pos c2.2, if_pos (by omega)]
          have c5 : 3 < k := by omega
          simp (disch := omega) only [q_aload0, q_aload0N, q_get_i, pTag_1, pRf_s, q_iconst, q_ic_eq, q_iret, q_invv0, inv_1, q_istore3, q_istore4, q_nop, q_ic_ge, q_invv1, q_bipush, q_invs3_20, q_if_eq, q_iload3, q_isub, q_iload4, q_imul, q_iadd, q_dup_i, q_dup_r, q_put_i, q_goto, q_ic_gt, q_iload1, q_ic_lt, q_iload2, q_ic_le, e_66_0, e_66_1, e_66_3, L_0, L_1, L_3, L_4, L_10, L_48, L_57, k_some, k_none, pRm_i, pRm_r, pRm_0, pF_1, pF_2, inv_s, s2.k0, q2, n2, w_letter s2 l2, w_isIn, bI_eq0, c7, c6, c9, es, c4, c5, d1, nN_le, nN_lt, nN_eq, nN_add, nN_mul, nN_lt0, nN_ge0, nN_gt0, nN_le0, nN_eq0, nN_eq1, nN_neN, pIn_n, pIx_n, eq_self, Nat.reduceLT, Bool.false_eq_true, Nat.add_zero, Nat.zero_add, Nat.reduceAdd, Nat.reduceMul, Nat.reduceSub, Nat.zero_le, Nat.reduceLeDiff, Nat.reduceEqDiff, Nat.le_refl, not_false_eq_true, not_true_eq_false, false_implies, true_implies, forall_const, true_and, and_true, if_true, if_false, implies_true, and_self, ne_eq, false_and, and_false, or_false, false_or, true_or, or_true]
          exact bad M2 _ s2 f2 A02 (by omega) ⟨p + k, by omega, q2⟩
        · have hv9 := nmV_lt (b := b) (p := p) (m := k) (fun i hi => hd i (by omega))
          have h2 : 10 ^ k ≤ 10 ^ 3 := Nat.pow_le_pow_right (by omega) (by omega)
          have h5 : nN (10 * nmV b p k + b (p + k)) - nN 48 = nN (nmV b p (k + 1)) := by
            rw [nN_subN (by omega), nmV_succ]
            congr 1
            omega
          simp (disch := omega) only [q_aload0, q_aload0N, q_get_i, pTag_1, pRf_s, q_iconst, q_ic_eq, q_iret, q_invv0, inv_1, q_istore3, q_istore4, q_nop, q_ic_ge, q_invv1, q_bipush, q_invs3_20, q_if_eq, q_iload3, q_isub, q_iload4, q_imul, q_iadd, q_dup_i, q_dup_r, q_put_i, q_goto, q_ic_gt, q_iload1, q_ic_lt, q_iload2, q_ic_le, e_66_0, e_66_1, L_0, L_1, L_3, L_4, L_10, L_48, L_57, k_some, k_none, pRm_i, pRm_r, pRm_0, pF_1, pF_2, inv_s, s2.k0, q2, n2, w_letter s2 l2, w_isIn, bI_eq0, c7, c6, c9, es, c4, h5, nN_le, nN_lt, nN_eq, nN_add, nN_mul, nN_lt0, nN_ge0, nN_gt0, nN_le0, nN_eq0, nN_eq1, nN_neN, pIn_n, pIx_n, eq_self, Nat.reduceLT, Bool.false_eq_true, Nat.add_zero, Nat.zero_add, Nat.reduceAdd, Nat.reduceMul, Nat.reduceSub, Nat.zero_le, Nat.reduceLeDiff, Nat.reduceEqDiff, Nat.le_refl, not_false_eq_true, not_true_eq_false, false_implies, true_implies, forall_const, true_and, and_true, if_true, if_false, implies_true, and_self, ne_eq, false_and, and_false, or_false, false_or, true_or, or_true]
          have A3 : Ag (fun h k => h = u ∧ k = 9) M2 (sI M2 u 9 (nN (p + k + 1))) := Ag.one ⟨rfl, rfl⟩
          refine ih (k + 1) _ (by omega) (by omega) ⟨s2, l2.ag A3 (by omega) (by omega) (by omega), ?_, ?_, ?_⟩ (A2.trans A3)
          · rw [gI_sI, if_neg (by omega)]; exact n2
          · rw [gI_sI, if_neg (by omega)]; exact f2
          · rw [gI_sI, if_pos ⟨rfl, rfl⟩]; rfl
    exact key (te n b p - p) 0 M1 (by omega) (by omega) ⟨h1.sh, h1.lt, h1.en, h1.ft, h1.aq⟩ Ag.rfl
  · have hno : ¬ (lo ≤ th W n b p ∧ th W n b p < c) := by
      by_cases c3 : p < n
      · have hk9 := th_kinds (b := b) hW c3
        have hge := wixF_ge (x := tx n b p) W 1000 (by omega)
        rcases hk9 with ⟨z1, z2⟩ | ⟨z1, -⟩ | ⟨z1, z2, z3, z4⟩
        · omega
        · exact absurd ⟨c3, z1⟩ c2
        · omega
      · rw [th_3000 (by omega)]; omega
    rw [e_66_2]
    by_cases c9 : n ≤ p
    · simp (disch := omega) only [q_aload0, q_aload0N, q_get_i, pTag_1, pRf_s, q_iconst, q_ic_eq, q_iret, q_invv0, inv_1, q_istore3, q_istore4, q_nop, q_ic_ge, q_invv1, q_bipush, q_invs3_20, q_if_eq, q_iload3, q_isub, q_iload4, q_imul, q_iadd, q_dup_i, q_dup_r, q_put_i, q_goto, q_ic_gt, q_iload1, q_ic_lt, q_iload2, q_ic_le, e_66_0, e_66_1, e_66_3, L_0, L_1, L_3, L_4, L_10, L_48, L_57, k_some, k_none, pRm_i, pRm_r, pRm_0, pF_1, pF_2, inv_s, h1.sh.k0, h1.aq, h1.en, c9, nN_le, nN_lt, nN_eq, nN_add, nN_mul, nN_lt0, nN_ge0, nN_gt0, nN_le0, nN_eq0, nN_eq1, nN_neN, pIn_n, pIx_n, eq_self, Nat.reduceLT, Bool.false_eq_true, Nat.add_zero, Nat.zero_add, Nat.reduceAdd, Nat.reduceMul, Nat.reduceSub, Nat.zero_le, Nat.reduceLeDiff, Nat.reduceEqDiff, Nat.le_refl, not_false_eq_true, not_true_eq_false, false_implies, true_implies, forall_const, true_and, and_true, if_true, if_false, implies_true, and_self, ne_eq, false_and, and_false, or_false, false_or, true_or, or_true]
      exact bad M1 _ h1.sh h1.ft A1' hno ⟨p, hpn, h1.aq⟩
    · have hb9 := h1.b9 p
      have c8 : ¬ (48 ≤ b p ∧ b p ≤ 57) := by
        rw [← kd_2e]
        exact fun z => c2 ⟨by omega, z⟩
      simp (disch := omega) only [q_aload0, q_aload0N, q_get_i, pTag_1, pRf_s, q_iconst, q_ic_eq, q_iret, q_invv0, inv_1, q_istore3, q_istore4, q_nop, q_ic_ge, q_invv1, q_bipush, q_invs3_20, q_if_eq, q_iload3, q_isub, q_iload4, q_imul, q_iadd, q_dup_i, q_dup_r, q_put_i, q_goto, q_ic_gt, q_iload1, q_ic_lt, q_iload2, q_ic_le, e_66_0, e_66_1, e_66_3, L_0, L_1, L_3, L_4, L_10, L_48, L_57, k_some, k_none, pRm_i, pRm_r, pRm_0, pF_1, pF_2, inv_s, h1.sh.k0, h1.aq, h1.en, w_letter h1.sh h1.lt, w_isIn, bI_eq0, c8, c9, nN_le, nN_lt, nN_eq, nN_add, nN_mul, nN_lt0, nN_ge0, nN_gt0, nN_le0, nN_eq0, nN_eq1, nN_neN, pIn_n, pIx_n, eq_self, Nat.reduceLT, Bool.false_eq_true, Nat.add_zero, Nat.zero_add, Nat.reduceAdd, Nat.reduceMul, Nat.reduceSub, Nat.zero_le, Nat.reduceLeDiff, Nat.reduceEqDiff, Nat.le_refl, not_false_eq_true, not_true_eq_false, false_implies, true_implies, forall_const, true_and, and_true, if_true, if_false, implies_true, and_self, ne_eq, false_and, and_false, or_false, false_or, true_or, or_true]
      exact bad M1 _ h1.sh h1.ft A1' hno ⟨p, hpn, h1.aq⟩
end MW
