/-! ports laid open: the class -/
noncomputable def cP (a : Nat → Int32) (i j : Nat) : Int32 := if i = j then nN 0 else sPort a i j
def XO (S : Nat → Nat × Nat) (P : Nat → Nat → Option Nat) (h k : Nat) : Prop := XC S P 3 h k ∨ (h = 76 ∧ k = 4) ∨ h = 77
section PO
variable {d t u n p q f g m e K k dd c j y bl : Nat} {b : Nat → Nat} {a a' ak : Nat → Int32} {img : Bool} {fl : Int32} {M M0 M1 M' : pMem} {Q : pOut → pMem → Prop} {s : Nat} {P : Nat → Bool}
theorem rep_xo (hr : Rep M 3 a) (A : Ag (XO (gS M) (gP M)) M M') : Rep M' 3 a := hr.ag A (fun h k h1 h2 h3 => by
  rintro (z | z | z)
  · exact XC_low (by omega) h3 z
  · omega
  · omega)
theorem tmr_xo (hT : TmR M 3 a) (A : Ag (XO (gS M) (gP M)) M M') : TmR M' 3 a := hT.agA (A.mono fun h k z => by
  rcases z with z | z | z
  · exact XTw_XA (t := 3) (by omega) h k (XC_XTw h k z)
  · exact Or.inl (by omega)
  · exact Or.inl (by omega))
theorem w_open (c0 : CI M a ak img n b fl) (hw : Wf a) : mw (d + 12) 170 [.ref 76, .ref 3] M (fun o M' => o = .inl none ∧ gI M' 76 4 = nN (nP a) ∧ (∀ i j, i < nP a → j < nP a → gI M' 77 (12 * i + j) = cP a i j) ∧ Ag (XO (gS M) (gP M)) M M') := by
  have hr := c0.rep
  have hp' := hw.p'
  have k76 := c0.sh.k76
  have mx : (if 12 < nP a then nN 12 else nN (nP a)) = nN (nP a) := if_neg (by omega)
  simp (disch := omega) only [m_170, q_aload0, q_aload0N, q_aload1, q_aload1N, q_get_r, pTag_1, pRf_s, q_get_i, q_bipush, q_min, q_put_i, q_iconst, q_istore2, q_nop, q_iload2, q_ic_ge, q_istore3, q_iload3, q_invs2_20, q_ic_ne, q_goto, q_invv2, inv_1, q_invs3_21, q_iinc3, q_iinc2, q_vret, e_170_0, e_170_3, e_170_4, e_170_5, e_170_6, L_0, L_1, L_12, k_some, k_none, pRm_i, pRm_r, pRm_0, pF_1, pF_2, inv_s, k76, hr.sh.k0, hr.nt, hr.ne, hr.nr, hr.nx, hr.day, hr.law, hr.sh.p0, hr.sh.p1, hr.sh.p2, hr.sh.p3, hr.sh.p4, hr.sh.p5, hr.sh.p6, hr.sh.p7, hr.sh.p8, hr.sh.k1, hr.np, hr.sh.q0, hr.sh.q1, hr.sh.q2, hr.sh.q3, hr.sh.q4, w_atN hr.sh.k2, w_atN hr.sh.k3, w_atN hr.sh.k4, w_atN hr.sh.k5, w_atN hr.sh.k6, hr.lim, hr.tmp, hr.near, hr.rich, hr.debt, hw.p, mx, gS_sI, gP_sI, gI_sI, Nat.add_left_cancel_iff, Nat.add_eq_left, Nat.left_eq_add, nN_le, nN_lt, nN_eq, nN_add, nN_mul, nN_lt0, nN_ge0, nN_gt0, nN_le0, nN_eq0, nN_eq1, nN_neN, pIn_n, pIx_n, eq_self, Nat.reduceLT, Bool.false_eq_true, Nat.add_zero, Nat.zero_add, Nat.reduceAdd, Nat.reduceMul, Nat.reduceSub, Nat.zero_le, Nat.reduceLeDiff, Nat.reduceEqDiff, Nat.le_refl, not_false_eq_true, not_true_eq_false, false_implies, true_implies, forall_const, true_and, and_true, if_true, if_false, implies_true, and_self, ne_eq, false_and, and_false, or_false, false_or, true_or, or_true]
  have A0 : Ag (XO (gS M) (gP M)) M (sI M 76 4 (nN (nP a))) := Ag.one (Or.inr (Or.inl ⟨rfl, rfl⟩))
  refine loopR (n := nP a) (J := Option Value) (C := fun i _ z M => ([some (.ref 76), some (.ref 3), some (.int (nN i)), z], [], M)) (f := fun _ (_ : Unit) => ()) (R := fun i _ M1 => Ag (XO (gS M) (gP M)) M M1 ∧ gI M1 76 4 = nN (nP a) ∧ ∀ i' j', i' < i → j' < nP a → gI M1 77 (12 * i' + j') = cP a i' j') ?_ (nP a) 0 () none _ (by omega) ⟨A0, by rw [gI_sI, if_pos ⟨rfl, rfl⟩], fun i' j' h => absurd h (by omega)⟩ ?_
  · rintro i _ z M1 hi ⟨A1, n1, e1⟩ go
    have k1 : (gS M1 76).1 = 4 := by rw [A1.S, k76]
    have h3 : ¬ nP a ≤ i := by omega
    rw [e_170_1]
    simp (disch := omega) only [q_aload0, q_aload0N, q_aload1, q_aload1N, q_get_r, pTag_1, pRf_s, q_get_i, q_bipush, q_min, q_put_i, q_iconst, q_istore2, q_nop, q_iload2, q_ic_ge, q_istore3, q_iload3, q_invs2_20, q_ic_ne, q_goto, q_invv2, inv_1, q_invs3_21, q_iinc3, q_iinc2, q_vret, e_170_0, e_170_3, e_170_4, e_170_5, e_170_6, L_0, L_1, L_12, k_some, k_none, pRm_i, pRm_r, pRm_0, pF_1, pF_2, inv_s, k1, n1, h3, gS_sI, gP_sI, gI_sI, Nat.add_left_cancel_iff, Nat.add_eq_left, Nat.left_eq_add, nN_le, nN_lt, nN_eq, nN_add, nN_mul, nN_lt0, nN_ge0, nN_gt0, nN_le0, nN_eq0, nN_eq1, nN_neN, pIn_n, pIx_n, eq_self, Nat.reduceLT, Bool.false_eq_true, Nat.add_zero, Nat.zero_add, Nat.reduceAdd, Nat.reduceMul, Nat.reduceSub, Nat.zero_le, Nat.reduceLeDiff, Nat.reduceEqDiff, Nat.le_refl, not_false_eq_true, not_true_eq_false, false_implies, true_implies, forall_const, true_and, and_true, if_true, if_false, implies_true, and_self, ne_eq, false_and, and_false, or_false, false_or, true_or, or_true]
    refine loopR (n := nP a) (J := Unit) (C := fun j _ z M => ([some (.ref 76), some (.ref 3), some (.int (nN i)), some (.int (nN j))], [], M)) (f := fun _ (_ : Unit) => ()) (R := fun j _ M1 => Ag (XO (gS M) (gP M)) M M1 ∧ gI M1 76 4 = nN (nP a) ∧ ∀ i' j', (i' < i ∧ j' < nP a ∨ i' = i ∧ j' < j) → gI M1 77 (12 * i' + j') = cP a i' j') ?_ (nP a) 0 () () M1 (by omega) ⟨A1, n1, fun i' j' h => e1 i' j' (by omega) (by omega)⟩ ?_
    · rintro j _ _ M2 hj ⟨A2, n2, e2⟩ go2
      have k2 : (gS M2 76).1 = 4 := by rw [A2.S, k76]
      have q2 : gP M2 76 0 = some 77 := by rw [A2.P]; exact c0.sh.q76a
      have k77 : gS M2 77 = (100, 144) := by rw [A2.S]; exact c0.sh.k77
      have h4 : ¬ nP a ≤ j := by omega
      have r2 := rep_xo hr A2
      have t2 := tmr_xo c0.tm A2
      have put : ∀ M3 v, v = cP a i j → Ag (XO (gS M) (gP M)) M M3 → (gI M3 76 4 = nN (nP a) ∧ ∀ i' j', (i' < i ∧ j' < nP a ∨ i' = i ∧ j' < j) → gI M3 77 (12 * i' + j') = cP a i' j') → Ag (XO (gS M) (gP M)) M (sI M3 77 (12 * i + j) v) ∧ gI (sI M3 77 (12 * i + j) v) 76 4 = nN (nP a) ∧ ∀ i' j', (i' < i ∧ j' < nP a ∨ i' = i ∧ j' < j + 1) → gI (sI M3 77 (12 * i + j) v) 77 (12 * i' + j') = cP a i' j' := by
        intro M3 v hv A3 ⟨n3, e3⟩
        refine ⟨Ag.put A3 (Or.inr (Or.inr rfl)), by rw [gI_sI, if_neg (by omega)]; exact n3, fun i' j' h => ?_⟩
        rw [gI_sI]
        by_cases c : i' = i ∧ j' = j
        · rw [if_pos ⟨rfl, by omega⟩, c.1, c.2]; exact hv
        · rw [if_neg (fun z => c (by omega))]; exact e3 i' j' (by omega)
      have i9 : i * 12 + j = 12 * i + j := by omega
      rw [e_170_2]
      by_cases hij : i = j
      · have fin := put M2 (nN 0) (by unfold cP; rw [if_pos hij]) A2 ⟨n2, e2⟩
        subst hij
        simp (disch := omega) only [q_aload0, q_aload0N, q_aload1, q_aload1N, q_get_r, pTag_1, pRf_s, q_get_i, q_bipush, q_min, q_put_i, q_iconst, q_istore2, q_nop, q_iload2, q_ic_ge, q_istore3, q_iload3, q_invs2_20, q_ic_ne, q_goto, q_invv2, inv_1, q_invs3_21, q_iinc3, q_iinc2, q_vret, e_170_0, e_170_3, e_170_4, e_170_5, e_170_6, L_0, L_1, L_12, k_some, k_none, pRm_i, pRm_r, pRm_0, pF_1, pF_2, inv_s, k2, q2, n2, h4, m_171, q_iload0, q_bipush, q_imul, q_iload1, q_iadd, q_iret, e_171_0, L_12, w_putN k77, i9, gS_sI, gP_sI, gI_sI, Nat.add_left_cancel_iff, Nat.add_eq_left, Nat.left_eq_add, nN_le, nN_lt, nN_eq, nN_add, nN_mul, nN_lt0, nN_ge0, nN_gt0, nN_le0, nN_eq0, nN_eq1, nN_neN, pIn_n, pIx_n, eq_self, Nat.reduceLT, Bool.false_eq_true, Nat.add_zero, Nat.zero_add, Nat.reduceAdd, Nat.reduceMul, Nat.reduceSub, Nat.zero_le, Nat.reduceLeDiff, Nat.reduceEqDiff, Nat.le_refl, not_false_eq_true, not_true_eq_false, false_implies, true_implies, forall_const, true_and, and_true, if_true, if_false, implies_true, and_self, ne_eq, false_and, and_false, or_false, false_or, true_or, or_true]
        exact go2 _ () fin
      · simp (disch := omega) only [q_aload0, q_aload0N, q_aload1, q_aload1N, q_get_r, pTag_1, pRf_s, q_get_i, q_bipush, q_min, q_put_i, q_iconst, q_istore2, q_nop, q_iload2, q_ic_ge, q_istore3, q_iload3, q_invs2_20, q_ic_ne, q_goto, q_invv2, inv_1, q_invs3_21, q_iinc3, q_iinc2, q_vret, e_170_0, e_170_3, e_170_4, e_170_5, e_170_6, L_0, L_1, L_12, k_some, k_none, pRm_i, pRm_r, pRm_0, pF_1, pF_2, inv_s, k2, q2, n2, h4, hij, m_171, q_iload0, q_bipush, q_imul, q_iload1, q_iadd, q_iret, e_171_0, L_12, r2.sh.k0, r2.nt, r2.ne, r2.nr, r2.nx, r2.day, r2.law, r2.sh.p0, r2.sh.p1, r2.sh.p2, r2.sh.p3, r2.sh.p4, r2.sh.p5, r2.sh.p6, r2.sh.p7, r2.sh.p8, gS_sI, gP_sI, gI_sI, Nat.add_left_cancel_iff, Nat.add_eq_left, Nat.left_eq_add, nN_le, nN_lt, nN_eq, nN_add, nN_mul, nN_lt0, nN_ge0, nN_gt0, nN_le0, nN_eq0, nN_eq1, nN_neN, pIn_n, pIx_n, eq_self, Nat.reduceLT, Bool.false_eq_true, Nat.add_zero, Nat.zero_add, Nat.reduceAdd, Nat.reduceMul, Nat.reduceSub, Nat.zero_le, Nat.reduceLeDiff, Nat.reduceEqDiff, Nat.le_refl, not_false_eq_true, not_true_eq_false, false_implies, true_implies, forall_const, true_and, and_true, if_true, if_false, implies_true, and_self, ne_eq, false_and, and_false, or_false, false_or, true_or, or_true]
        refine mw_mono (w_portBetween (d := d + 1) r2 hw t2 (by omega) hi hj) ?_
        rintro _ M3 ⟨rfl, A3⟩
        have A3' := A3
        rw [A2.S, A2.P] at A3'
        have A23 := A2.trans (A3'.mono (Y := XO (gS M) (gP M)) fun h k z => Or.inl z)
        have no : ∀ h k, h = 76 ∨ h = 77 → ¬ XC (gS M2) (gP M2) 3 h k := fun h k z => XC_low (by omega) (by omega)
        have k773 : gS M3 77 = (100, 144) := by rw [A3.S]; exact k77
        have fin := put M3 (sPort a i j) (by unfold cP; rw [if_neg hij]) A23 ⟨by rw [A3.I (no _ _ (by omega))]; exact n2, fun i' j' h => by rw [A3.I (no _ _ (by omega))]; exact e2 i' j' h⟩
        simp (disch := omega) only [q_aload0, q_aload0N, q_aload1, q_aload1N, q_get_r, pTag_1, pRf_s, q_get_i, q_bipush, q_min, q_put_i, q_iconst, q_istore2, q_nop, q_iload2, q_ic_ge, q_istore3, q_iload3, q_invs2_20, q_ic_ne, q_goto, q_invv2, inv_1, q_invs3_21, q_iinc3, q_iinc2, q_vret, e_170_0, e_170_3, e_170_4, e_170_5, e_170_6, L_0, L_1, L_12, k_some, k_none, pRm_i, pRm_r, pRm_0, pF_1, pF_2, inv_s, w_putN k773, i9, gS_sI, gP_sI, gI_sI, Nat.add_left_cancel_iff, Nat.add_eq_left, Nat.left_eq_add, nN_le, nN_lt, nN_eq, nN_add, nN_mul, nN_lt0, nN_ge0, nN_gt0, nN_le0, nN_eq0, nN_eq1, nN_neN, pIn_n, pIx_n, eq_self, Nat.reduceLT, Bool.false_eq_true, Nat.add_zero, Nat.zero_add, Nat.reduceAdd, Nat.reduceMul, Nat.reduceSub, Nat.zero_le, Nat.reduceLeDiff, Nat.reduceEqDiff, Nat.le_refl, not_false_eq_true, not_true_eq_false, false_implies, true_implies, forall_const, true_and, and_true, if_true, if_false, implies_true, and_self, ne_eq, false_and, and_false, or_false, false_or, true_or, or_true]
        exact go2 _ () fin
    · rintro M2 _ ⟨A2, n2, e2⟩
      have k2 : (gS M2 76).1 = 4 := by rw [A2.S, k76]
      rw [e_170_2]
      simp (disch := omega) only [q_aload0, q_aload0N, q_aload1, q_aload1N, q_get_r, pTag_1, pRf_s, q_get_i, q_bipush, q_min, q_put_i, q_iconst, q_istore2, q_nop, q_iload2, q_ic_ge, q_istore3, q_iload3, q_invs2_20, q_ic_ne, q_goto, q_invv2, inv_1, q_invs3_21, q_iinc3, q_iinc2, q_vret, e_170_0, e_170_3, e_170_4, e_170_5, e_170_6, L_0, L_1, L_12, k_some, k_none, pRm_i, pRm_r, pRm_0, pF_1, pF_2, inv_s, k2, n2, gS_sI, gP_sI, gI_sI, Nat.add_left_cancel_iff, Nat.add_eq_left, Nat.left_eq_add, nN_le, nN_lt, nN_eq, nN_add, nN_mul, nN_lt0, nN_ge0, nN_gt0, nN_le0, nN_eq0, nN_eq1, nN_neN, pIn_n, pIx_n, eq_self, Nat.reduceLT, Bool.false_eq_true, Nat.add_zero, Nat.zero_add, Nat.reduceAdd, Nat.reduceMul, Nat.reduceSub, Nat.zero_le, Nat.reduceLeDiff, Nat.reduceEqDiff, Nat.le_refl, not_false_eq_true, not_true_eq_false, false_implies, true_implies, forall_const, true_and, and_true, if_true, if_false, implies_true, and_self, ne_eq, false_and, and_false, or_false, false_or, true_or, or_true]
      exact go M2 _ ⟨A2, n2, fun i' j' h1 h2 => e2 i' j' (by omega)⟩
  · rintro M1 _ ⟨A1, n1, e1⟩
    have k1 : (gS M1 76).1 = 4 := by rw [A1.S, k76]
    rw [e_170_1]
    simp (disch := omega) only [q_aload0, q_aload0N, q_aload1, q_aload1N, q_get_r, pTag_1, pRf_s, q_get_i, q_bipush, q_min, q_put_i, q_iconst, q_istore2, q_nop, q_iload2, q_ic_ge, q_istore3, q_iload3, q_invs2_20, q_ic_ne, q_goto, q_invv2, inv_1, q_invs3_21, q_iinc3, q_iinc2, q_vret, e_170_0, e_170_3, e_170_4, e_170_5, e_170_6, L_0, L_1, L_12, k_some, k_none, pRm_i, pRm_r, pRm_0, pF_1, pF_2, inv_s, k1, n1, gS_sI, gP_sI, gI_sI, Nat.add_left_cancel_iff, Nat.add_eq_left, Nat.left_eq_add, nN_le, nN_lt, nN_eq, nN_add, nN_mul, nN_lt0, nN_ge0, nN_gt0, nN_le0, nN_eq0, nN_eq1, nN_neN, pIn_n, pIx_n, eq_self, Nat.reduceLT, Bool.false_eq_true, Nat.add_zero, Nat.zero_add, Nat.reduceAdd, Nat.reduceMul, Nat.reduceSub, Nat.zero_le, Nat.reduceLeDiff, Nat.reduceEqDiff, Nat.le_refl, not_false_eq_true, not_true_eq_false, false_implies, true_implies, forall_const, true_and, and_true, if_true, if_false, implies_true, and_self, ne_eq, false_and, and_false, or_false, false_or, true_or, or_true]
    exact ⟨e1, A1⟩
end PO
