/-! SUMS OF TEMPERS, in the law's model -/
section SM
variable {d n u p q k m c sr i dp : Nat} {b : Nat → Nat} {fv : Nat → Int32} {W : List (List Nat)} {M M1 M' : pMem} {Q : pOut → pMem → Prop} {x y : Int32}
theorem MdY_9 : ∀ h k, (h = u ∧ k = 9) → MdY u h k := fun h k z => ⟨z.1, Or.inl z.2⟩
theorem X9_10 : ∀ h k, (h = u ∧ k = 9) → h = u ∧ (k = 9 ∨ k = 10) := fun h k z => ⟨z.1, Or.inl z.2⟩
theorem nN_ft {e : Nat} (h : e < 1000) : ¬ nN e = iN (-1) := by rw [nN_neN (by omega)]; exact not_false
/-- over a sign -/
theorem MdT.sign (h : MdT M u n b dp fv q p) (hq : q = p) (hp : p < n) (hk : kd (b p) = 3) : MdT (sI M u 9 (nN (p + 1))) u n b dp fv (p + 1) (nx9 n b p) := by
  have hB : isB b p = true := by
    rcases h.sd.at9 with z | z
    · omega
    · exact z.2
  have e : te n b p = p + 1 := (te_spec (b := b) hp).2.2.2.2 hk
  have A : Ag (fun h k => h = u ∧ k = 9) M (sI M u 9 (nN (p + 1))) := Ag.one ⟨rfl, rfl⟩
  exact h.st A X9_10 (h.sd.mv A (by rw [gI_sI, if_pos ⟨rfl, rfl⟩]) (by rw [← e]; exact Cl_te hp hB) (by unfold nx9; rw [e]))
theorem w_sumLoop : ∀ (j : Nat) (s : pY) (M2 : pMem) (q : Nat), n < j + s.1 → MdT M2 u n b dp fv q s.1 → Ag (MdY u) M M2 → bw (d + 6) 72 1 ([some (.ref u), some (.int (s.2.2 fv))], [], M2) (fun o M' => MdZ M' u n b dp fv (pCh (th tW n b) (nx9 n b) (pPart (th tW n b) (nx9 n b)) 2043 j s) o ∧ Ag (MdY u) M M') := by
  intro j
  induction j with
  | zero =>
    intro s M2 q hj h A
    have := h.sd.ple
    omega
  | succ j ih =>
    intro s M2 q hj h A
    have hpn := h.sd.ple.2
    have hn := h.sd.n9
    have hW : tW.length < 100 := by decide
    have f2 := h.sd.ft
    rw [e_72_1]
    simp (disch := omega) only [q_aload0, q_aload0N, q_invv0, inv_1, q_istore1, q_nop, q_get_i, pTag_1, pRf_s, q_iconst, q_ic_ne, q_bipush, q_invv1, q_if_eq, q_dup_i, q_dup_r, q_iadd, q_put_i, q_iload1, q_goto, q_iret, e_72_0, L_1, L_43, k_some, k_none, pRm_i, pRm_r, pRm_0, pF_1, pF_2, inv_s, h.sd.sh.k0, f2, nN_le, nN_lt, nN_eq, nN_add, nN_mul, nN_lt0, nN_ge0, nN_gt0, nN_le0, nN_eq0, nN_eq1, nN_neN, pIn_n, pIx_n, eq_self, Nat.reduceLT, Bool.false_eq_true, Nat.add_zero, Nat.zero_add, Nat.reduceAdd, Nat.reduceMul, Nat.reduceSub, Nat.zero_le, Nat.reduceLeDiff, Nat.reduceEqDiff, Nat.le_refl, not_false_eq_true, not_true_eq_false, false_implies, true_implies, forall_const, true_and, and_true, if_true, if_false, implies_true, and_self, ne_eq, false_and, and_false, or_false, false_or, true_or, or_true]
    refine mw_mono (w_isSign (c := 43) h.sd (by omega)) ?_
    rintro _ M3 ⟨rfl, h3, A3⟩
    have T3 := h.st A3 X9_10 h3
    have A03 := A.trans (A3.mono MdY_9)
    have ht : th tW n b s.1 = 2043 ↔ (s.1 < n ∧ b s.1 = 43) := by rw [← th_sign (W := tW) (show kd 43 = 3 from rfl) (by omega) hW]
    unfold pCh
    by_cases c : s.1 < n ∧ b s.1 = 43
    · rw [if_pos (ht.mpr c)]
      have T4 := T3.sign rfl c.1 (by rw [c.2]; rfl)
      have A4 : Ag (fun h k => h = u ∧ k = 9) M3 (sI M3 u 9 (nN (s.1 + 1))) := Ag.one ⟨rfl, rfl⟩
      have g9 := T4.sd.ple.2
      have g8 := At_nx (b := b) c.1
      simp (disch := omega) only [q_aload0, q_aload0N, q_invv0, inv_1, q_istore1, q_nop, q_get_i, pTag_1, pRf_s, q_iconst, q_ic_ne, q_bipush, q_invv1, q_if_eq, q_dup_i, q_dup_r, q_iadd, q_put_i, q_iload1, q_goto, q_iret, e_72_0, L_1, L_43, k_some, k_none, pRm_i, pRm_r, pRm_0, pF_1, pF_2, inv_s, c, bI_T, zb_1, h3.sh.k0, h3.aq, T4.sd.sh.k0, nN_le, nN_lt, nN_eq, nN_add, nN_mul, nN_lt0, nN_ge0, nN_gt0, nN_le0, nN_eq0, nN_eq1, nN_neN, pIn_n, pIx_n, eq_self, Nat.reduceLT, Bool.false_eq_true, Nat.add_zero, Nat.zero_add, Nat.reduceAdd, Nat.reduceMul, Nat.reduceSub, Nat.zero_le, Nat.reduceLeDiff, Nat.reduceEqDiff, Nat.le_refl, not_false_eq_true, not_true_eq_false, false_implies, true_implies, forall_const, true_and, and_true, if_true, if_false, implies_true, and_self, ne_eq, false_and, and_false, or_false, false_or, true_or, or_true]
      refine mw_mono (w_partM T4) ?_
      rintro o M5 ⟨h5, A5⟩
      have A05 := (A03.trans (A4.mono MdY_9)).trans A5
      have s5 : ShM (gS M5) (gP M5) u := by rw [A5.S, A5.P]; exact T4.sd.sh
      have hg := Gd_part (b := b) (W := tW) (q := nx9 n b s.1) g8.2.1
      cases hc : pPart (th tW n b) (nx9 n b) (nx9 n b s.1) with
      | inl e =>
        rw [hc] at h5
        obtain ⟨⟨v, rfl⟩, f5, e5, z5⟩ := h5
        have f6 := nN_ft e5
        simp (disch := omega) only [q_aload0, q_aload0N, q_invv0, inv_1, q_istore1, q_nop, q_get_i, pTag_1, pRf_s, q_iconst, q_ic_ne, q_bipush, q_invv1, q_if_eq, q_dup_i, q_dup_r, q_iadd, q_put_i, q_iload1, q_goto, q_iret, e_72_0, L_1, L_43, k_some, k_none, pRm_i, pRm_r, pRm_0, pF_1, pF_2, inv_s, nN_le, nN_lt, nN_eq, nN_add, nN_mul, nN_lt0, nN_ge0, nN_gt0, nN_le0, nN_eq0, nN_eq1, nN_neN, pIn_n, pIx_n, eq_self, Nat.reduceLT, Bool.false_eq_true, Nat.add_zero, Nat.zero_add, Nat.reduceAdd, Nat.reduceMul, Nat.reduceSub, Nat.zero_le, Nat.reduceLeDiff, Nat.reduceEqDiff, Nat.le_refl, not_false_eq_true, not_true_eq_false, false_implies, true_implies, forall_const, true_and, and_true, if_true, if_false, implies_true, and_self, ne_eq, false_and, and_false, or_false, false_or, true_or, or_true]
        rw [e_72_1]
        simp (disch := omega) only [q_aload0, q_aload0N, q_invv0, inv_1, q_istore1, q_nop, q_get_i, pTag_1, pRf_s, q_iconst, q_ic_ne, q_bipush, q_invv1, q_if_eq, q_dup_i, q_dup_r, q_iadd, q_put_i, q_iload1, q_goto, q_iret, e_72_0, e_72_2, L_1, L_43, k_some, k_none, pRm_i, pRm_r, pRm_0, pF_1, pF_2, inv_s, s5.k0, f5, f6, nN_le, nN_lt, nN_eq, nN_add, nN_mul, nN_lt0, nN_ge0, nN_gt0, nN_le0, nN_eq0, nN_eq1, nN_neN, pIn_n, pIx_n, eq_self, Nat.reduceLT, Bool.false_eq_true, Nat.add_zero, Nat.zero_add, Nat.reduceAdd, Nat.reduceMul, Nat.reduceSub, Nat.zero_le, Nat.reduceLeDiff, Nat.reduceEqDiff, Nat.le_refl, not_false_eq_true, not_true_eq_false, false_implies, true_implies, forall_const, true_and, and_true, if_true, if_false, implies_true, and_self, ne_eq, false_and, and_false, or_false, false_or, true_or, or_true]
        exact ⟨⟨⟨_, rfl⟩, f5, e5, z5⟩, A05⟩
      | inr s2 =>
        rw [hc] at h5 hg
        obtain ⟨rfl, q5, T5⟩ := h5
        have h9 := hg.1.1
        simp (disch := omega) only [q_aload0, q_aload0N, q_invv0, inv_1, q_istore1, q_nop, q_get_i, pTag_1, pRf_s, q_iconst, q_ic_ne, q_bipush, q_invv1, q_if_eq, q_dup_i, q_dup_r, q_iadd, q_put_i, q_iload1, q_goto, q_iret, e_72_0, L_1, L_43, k_some, k_none, pRm_i, pRm_r, pRm_0, pF_1, pF_2, inv_s, nN_le, nN_lt, nN_eq, nN_add, nN_mul, nN_lt0, nN_ge0, nN_gt0, nN_le0, nN_eq0, nN_eq1, nN_neN, pIn_n, pIx_n, eq_self, Nat.reduceLT, Bool.false_eq_true, Nat.add_zero, Nat.zero_add, Nat.reduceAdd, Nat.reduceMul, Nat.reduceSub, Nat.zero_le, Nat.reduceLeDiff, Nat.reduceEqDiff, Nat.le_refl, not_false_eq_true, not_true_eq_false, false_implies, true_implies, forall_const, true_and, and_true, if_true, if_false, implies_true, and_self, ne_eq, false_and, and_false, or_false, false_or, true_or, or_true]
        exact ih (s2.1, s.2.1 ++ s2.2.1 ++ [2043], fun fv => sJoin 2043 (s.2.2 fv) (s2.2.2 fv)) M5 q5 (by show n < j + s2.1; omega) T5 A05
    · rw [if_neg (fun z => c (ht.mp z))]
      simp (disch := omega) only [q_aload0, q_aload0N, q_invv0, inv_1, q_istore1, q_nop, q_get_i, pTag_1, pRf_s, q_iconst, q_ic_ne, q_bipush, q_invv1, q_if_eq, q_dup_i, q_dup_r, q_iadd, q_put_i, q_iload1, q_goto, q_iret, e_72_0, e_72_2, L_1, L_43, k_some, k_none, pRm_i, pRm_r, pRm_0, pF_1, pF_2, inv_s, c, bI_F, zb_0, h3.sh.k0, nN_le, nN_lt, nN_eq, nN_add, nN_mul, nN_lt0, nN_ge0, nN_gt0, nN_le0, nN_eq0, nN_eq1, nN_neN, pIn_n, pIx_n, eq_self, Nat.reduceLT, Bool.false_eq_true, Nat.add_zero, Nat.zero_add, Nat.reduceAdd, Nat.reduceMul, Nat.reduceSub, Nat.zero_le, Nat.reduceLeDiff, Nat.reduceEqDiff, Nat.le_refl, not_false_eq_true, not_true_eq_false, false_implies, true_implies, forall_const, true_and, and_true, if_true, if_false, implies_true, and_self, ne_eq, false_and, and_false, or_false, false_or, true_or, or_true]
      exact ⟨⟨rfl, s.1, T3⟩, A03⟩
theorem w_sumM (h : MdT M u n b dp fv q p) : mw (d + 7) 72 [.ref u] M (fun o M' => MdZ M' u n b dp fv (pSum (th tW n b) (nx9 n b) 400 p) o ∧ Ag (MdY u) M M') := by
  have hpn := h.sd.ple.2
  have hn := h.sd.n9
  simp (disch := omega) only [m_72, q_aload0, q_aload0N, q_invv0, inv_1, q_istore1, q_nop, q_get_i, pTag_1, pRf_s, q_iconst, q_ic_ne, q_bipush, q_invv1, q_if_eq, q_dup_i, q_dup_r, q_iadd, q_put_i, q_iload1, q_goto, q_iret, e_72_0, L_1, L_43, k_some, k_none, pRm_i, pRm_r, pRm_0, pF_1, pF_2, inv_s, h.sd.sh.k0, nN_le, nN_lt, nN_eq, nN_add, nN_mul, nN_lt0, nN_ge0, nN_gt0, nN_le0, nN_eq0, nN_eq1, nN_neN, pIn_n, pIx_n, eq_self, Nat.reduceLT, Bool.false_eq_true, Nat.add_zero, Nat.zero_add, Nat.reduceAdd, Nat.reduceMul, Nat.reduceSub, Nat.zero_le, Nat.reduceLeDiff, Nat.reduceEqDiff, Nat.le_refl, not_false_eq_true, not_true_eq_false, false_implies, true_implies, forall_const, true_and, and_true, if_true, if_false, implies_true, and_self, ne_eq, false_and, and_false, or_false, false_or, true_or, or_true]
  refine mw_mono (w_partM h) ?_
  rintro o M1 ⟨h1, A1⟩
  have s1 : ShM (gS M1) (gP M1) u := by rw [A1.S, A1.P]; exact h.sd.sh
  have hg := Gd_part (b := b) (W := tW) (q := p) hpn
  unfold pSum
  cases hc : pPart (th tW n b) (nx9 n b) p with
  | inl e =>
    rw [hc] at h1
    obtain ⟨⟨v, rfl⟩, f5, e5, z5⟩ := h1
    have f6 := nN_ft e5
    simp (disch := omega) only [q_aload0, q_aload0N, q_invv0, inv_1, q_istore1, q_nop, q_get_i, pTag_1, pRf_s, q_iconst, q_ic_ne, q_bipush, q_invv1, q_if_eq, q_dup_i, q_dup_r, q_iadd, q_put_i, q_iload1, q_goto, q_iret, e_72_0, L_1, L_43, k_some, k_none, pRm_i, pRm_r, pRm_0, pF_1, pF_2, inv_s, nN_le, nN_lt, nN_eq, nN_add, nN_mul, nN_lt0, nN_ge0, nN_gt0, nN_le0, nN_eq0, nN_eq1, nN_neN, pIn_n, pIx_n, eq_self, Nat.reduceLT, Bool.false_eq_true, Nat.add_zero, Nat.zero_add, Nat.reduceAdd, Nat.reduceMul, Nat.reduceSub, Nat.zero_le, Nat.reduceLeDiff, Nat.reduceEqDiff, Nat.le_refl, not_false_eq_true, not_true_eq_false, false_implies, true_implies, forall_const, true_and, and_true, if_true, if_false, implies_true, and_self, ne_eq, false_and, and_false, or_false, false_or, true_or, or_true]
    rw [e_72_1]
    simp (disch := omega) only [q_aload0, q_aload0N, q_invv0, inv_1, q_istore1, q_nop, q_get_i, pTag_1, pRf_s, q_iconst, q_ic_ne, q_bipush, q_invv1, q_if_eq, q_dup_i, q_dup_r, q_iadd, q_put_i, q_iload1, q_goto, q_iret, e_72_0, e_72_2, L_1, L_43, k_some, k_none, pRm_i, pRm_r, pRm_0, pF_1, pF_2, inv_s, s1.k0, f5, f6, nN_le, nN_lt, nN_eq, nN_add, nN_mul, nN_lt0, nN_ge0, nN_gt0, nN_le0, nN_eq0, nN_eq1, nN_neN, pIn_n, pIx_n, eq_self, Nat.reduceLT, Bool.false_eq_true, Nat.add_zero, Nat.zero_add, Nat.reduceAdd, Nat.reduceMul, Nat.reduceSub, Nat.zero_le, Nat.reduceLeDiff, Nat.reduceEqDiff, Nat.le_refl, not_false_eq_true, not_true_eq_false, false_implies, true_implies, forall_const, true_and, and_true, if_true, if_false, implies_true, and_self, ne_eq, false_and, and_false, or_false, false_or, true_or, or_true]
    exact ⟨⟨⟨_, rfl⟩, f5, e5, z5⟩, A1⟩
  | inr s =>
    rw [hc] at h1 hg
    obtain ⟨rfl, q5, T5⟩ := h1
    have h9 := hg.1.1
    simp (disch := omega) only [q_aload0, q_aload0N, q_invv0, inv_1, q_istore1, q_nop, q_get_i, pTag_1, pRf_s, q_iconst, q_ic_ne, q_bipush, q_invv1, q_if_eq, q_dup_i, q_dup_r, q_iadd, q_put_i, q_iload1, q_goto, q_iret, e_72_0, L_1, L_43, k_some, k_none, pRm_i, pRm_r, pRm_0, pF_1, pF_2, inv_s, nN_le, nN_lt, nN_eq, nN_add, nN_mul, nN_lt0, nN_ge0, nN_gt0, nN_le0, nN_eq0, nN_eq1, nN_neN, pIn_n, pIx_n, eq_self, Nat.reduceLT, Bool.false_eq_true, Nat.add_zero, Nat.zero_add, Nat.reduceAdd, Nat.reduceMul, Nat.reduceSub, Nat.zero_le, Nat.reduceLeDiff, Nat.reduceEqDiff, Nat.le_refl, not_false_eq_true, not_true_eq_false, false_implies, true_implies, forall_const, true_and, and_true, if_true, if_false, implies_true, and_self, ne_eq, false_and, and_false, or_false, false_or, true_or, or_true]
    exact w_sumLoop 400 s M1 q5 (by omega) T5 A1
end SM
