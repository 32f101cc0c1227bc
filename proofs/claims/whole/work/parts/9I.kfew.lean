/-! fewest: the model -/
section KFW
variable {d t u n p q f g m e K k dd c j y bl : Nat} {b : Nat → Nat} {a a' ak : Nat → Int32} {img : Bool} {fl : Int32} {M M0 M1 M' : pMem} {Q : pOut → pMem → Prop} {s : Nat} {P : Nat → Bool}
/-- a search that may return -/
theorem loopO {J : Type} {C : Nat → J → pMem → pCfg} {R : pMem → Prop} {o : Nat → pOut} (step : ∀ k z M, k < n → R M → (P k = true → ∀ M', R M' → Q (o k) M') → (¬ P k = true → ∀ M' z', R M' → bw d y bl (C (k + 1) z' M') Q) → bw d y bl (C k z M) Q) :
    ∀ j k z M, k + j = n → R M → (∀ s, fstO P j k = some s → ∀ M', R M' → Q (o s) M') → (fstO P j k = none → ∀ M' z', R M' → bw d y bl (C n z' M') Q) → bw d y bl (C k z M) Q := by
  intro j
  induction j with
  | zero => intro k z M hk hR h1 h2; have : k = n := by omega
            subst this; exact h2 rfl M z hR
  | succ j ih =>
    intro k z M hk hR h1 h2
    refine step k z M (by omega) hR (fun hp M' hR' => h1 k ?_ M' hR') (fun hp M' z' hR' => ih (k + 1) z' M' (by omega) hR' (fun s hs => h1 s ?_) (fun hs => h2 ?_))
    · unfold fstO; rw [if_pos hp]
    · unfold fstO; rw [if_neg hp]; exact hs
    · unfold fstO; rw [if_neg hp]; exact hs
theorem pow12 (h : n ≤ 12) : 2 ^ n ≤ 4096 := Nat.pow_le_pow_right (n := 2) (by omega) h
theorem k_fewest (m : MI M u a ak img n b fl) (hw : Wg a) : mw (d + 74) 116 [.ref u] M (fun o M' => KO M' u 0 (oI (sFew a)) o ∧ MI M' u a ak img n b fl ∧ Ag (XU u) M M') := by
  have s0 := m.mr.1
  have m0 := m.th (v := nN 0)
  have hp' := hw.1.p'
  have hp2 := pow12 hp'
  have A0 : Ag (XU u) M (sI M u 0 (nN 0)) := XU_0
  have g0 : gI (sI M u 0 (nN 0)) u 0 = nN 0 := by rw [gI_sI, if_pos ⟨rfl, rfl⟩]
  have e1 : nN 1 <<< (nN (nP a) &&& 31) = nN (2 ^ nP a) := by rw [nN_shl (by omega), Nat.one_shiftLeft]
  simp (disch := omega) only [m_116, q_aload0, q_aload0N, q_iconst, q_put_i, pTag_1, q_istore1, q_nop, q_iload1, q_get_r, pRf_s, q_iald, q_ic_gt, q_istore2, q_iload2, q_ishl, q_ic_ge, q_invs1_20, q_ic_ne, q_invv1, inv_1, q_iret, q_iinc2, q_goto, q_iinc1, e_116_0, e_116_3, e_116_4, e_116_5, L_0, L_1, k_some, k_none, pRm_i, pRm_r, pRm_0, pF_1, pF_2, inv_s, s0.k0, gS_sI, gS_sI, gP_sI, gI_sI, Nat.add_left_cancel_iff, Nat.add_eq_left, Nat.left_eq_add, nN_le, nN_lt, nN_eq, nN_add, nN_mul, nN_lt0, nN_ge0, nN_gt0, nN_le0, nN_eq0, nN_eq1, nN_neN, pIn_n, pIx_n, eq_self, Nat.reduceLT, Bool.false_eq_true, Nat.add_zero, Nat.zero_add, Nat.reduceAdd, Nat.reduceMul, Nat.reduceSub, Nat.zero_le, Nat.reduceLeDiff, Nat.reduceEqDiff, Nat.le_refl, not_false_eq_true, not_true_eq_false, false_implies, true_implies, forall_const, true_and, and_true, if_true, if_false, implies_true, and_self, ne_eq, false_and, and_false, or_false, false_or, true_or, or_true]
  generalize sI M u 0 (nN 0) = M0 at *
  have key : ∀ (j c : Nat) (z : Option Value) (M1 : pMem), c + j = nP a + 1 → (MI M1 u a ak img n b fl ∧ Ag (XU u) M M1 ∧ gI M1 u 0 = nN 0) → bw (d + 73) 116 1 ([some (.ref u), some (.int (nN c)), z], [], M1) (fun o M' => KO M' u 0 (oI (fewJ a j c)) o ∧ MI M' u a ak img n b fl ∧ Ag (XU u) M M') := by
    intro j
    induction j with
    | zero =>
      intro c z M1 hc ⟨m1, A1, g1⟩
      have r1 := m1.mr
      have h1 : ¬ c ≤ nP a := by omega
      have h2 : nP a < c := by omega
      rw [e_116_1]
      simp (disch := first | omega | rfl | (repeat' (first | exact gS_sI | exact gP_sI | refine Eq.trans gS_sI ?_ | refine Eq.trans gP_sI ?_ | refine Eq.trans (gIr_sI (by omega)) ?_ | rfl))) only [q_aload0, q_aload0N, q_iconst, q_put_i, pTag_1, q_istore1, q_nop, q_iload1, q_get_r, pRf_s, q_iald, q_ic_gt, q_istore2, q_iload2, q_ishl, q_ic_ge, q_invs1_20, q_ic_ne, q_invv1, inv_1, q_iret, q_iinc2, q_goto, q_iinc1, e_116_0, e_116_3, e_116_4, e_116_5, L_0, L_1, k_some, k_none, pRm_i, pRm_r, pRm_0, pF_1, pF_2, inv_s, r1.1.k0, r1.1.k1, r1.1.k2, r1.1.k3, r1.1.k4, r1.1.k5, r1.1.k6, r1.1.k7, r1.1.k8, r1.1.k9, r1.1.k10, r1.1.k11, r1.1.k12, r1.1.k13, r1.1.p1, r1.1.p2, r1.1.p4, r1.1.p5, r1.1.p13, r1.1.p18, r1.1.p19, r1.1.p20, r1.1.p21, r1.1.p22, r1.1.p23, r1.1.p24, r1.1.p27, r1.2, hw.1.p, h1, h2, gS_sI, gP_sI, gI_sI, Nat.add_left_cancel_iff, Nat.add_eq_left, Nat.left_eq_add, nN_le, nN_lt, nN_eq, nN_add, nN_mul, nN_lt0, nN_ge0, nN_gt0, nN_le0, nN_eq0, nN_eq1, nN_neN, pIn_n, pIx_n, eq_self, Nat.reduceLT, Bool.false_eq_true, Nat.add_zero, Nat.zero_add, Nat.reduceAdd, Nat.reduceMul, Nat.reduceSub, Nat.zero_le, Nat.reduceLeDiff, Nat.reduceEqDiff, Nat.le_refl, not_false_eq_true, not_true_eq_false, false_implies, true_implies, forall_const, true_and, and_true, if_true, if_false, implies_true, and_self, ne_eq, false_and, and_false, or_false, false_or, true_or, or_true]
      exact ⟨KO.th g1 (fun _ => rfl), m1, A1⟩
    | succ j ih =>
      intro c z M1 hc ⟨m1, A1, g1⟩
      have r1 := m1.mr
      have h1 : c ≤ nP a := by omega
      have h2 : ¬ nP a < c := by omega
      rw [e_116_1]
      simp (disch := first | omega | rfl | (repeat' (first | exact gS_sI | exact gP_sI | refine Eq.trans gS_sI ?_ | refine Eq.trans gP_sI ?_ | refine Eq.trans (gIr_sI (by omega)) ?_ | rfl))) only [q_aload0, q_aload0N, q_iconst, q_put_i, pTag_1, q_istore1, q_nop, q_iload1, q_get_r, pRf_s, q_iald, q_ic_gt, q_istore2, q_iload2, q_ishl, q_ic_ge, q_invs1_20, q_ic_ne, q_invv1, inv_1, q_iret, q_iinc2, q_goto, q_iinc1, e_116_0, e_116_3, e_116_4, e_116_5, L_0, L_1, k_some, k_none, pRm_i, pRm_r, pRm_0, pF_1, pF_2, inv_s, r1.1.k0, r1.1.k1, r1.1.k2, r1.1.k3, r1.1.k4, r1.1.k5, r1.1.k6, r1.1.k7, r1.1.k8, r1.1.k9, r1.1.k10, r1.1.k11, r1.1.k12, r1.1.k13, r1.1.p1, r1.1.p2, r1.1.p4, r1.1.p5, r1.1.p13, r1.1.p18, r1.1.p19, r1.1.p20, r1.1.p21, r1.1.p22, r1.1.p23, r1.1.p24, r1.1.p27, r1.2, hw.1.p, h1, h2, gS_sI, gP_sI, gI_sI, Nat.add_left_cancel_iff, Nat.add_eq_left, Nat.left_eq_add, nN_le, nN_lt, nN_eq, nN_add, nN_mul, nN_lt0, nN_ge0, nN_gt0, nN_le0, nN_eq0, nN_eq1, nN_neN, pIn_n, pIx_n, eq_self, Nat.reduceLT, Bool.false_eq_true, Nat.add_zero, Nat.zero_add, Nat.reduceAdd, Nat.reduceMul, Nat.reduceSub, Nat.zero_le, Nat.reduceLeDiff, Nat.reduceEqDiff, Nat.le_refl, not_false_eq_true, not_true_eq_false, false_implies, true_implies, forall_const, true_and, and_true, if_true, if_false, implies_true, and_self, ne_eq, false_and, and_false, or_false, false_or, true_or, or_true]
      refine loopO (n := 2 ^ nP a) (P := fewP a c) (J := Unit) (C := fun k _ M => ([some (.ref u), some (.int (nN c)), some (.int (nN k))], [], M)) (R := fun M1 => MI M1 u a ak img n b fl ∧ Ag (XU u) M M1 ∧ gI M1 u 0 = nN 0) (o := fun s => .inl (some (.int (nN s)))) ?_ (2 ^ nP a) 0 () M1 (by omega) ⟨m1, A1, g1⟩ ?_ ?_
      · rintro k _ M2 hk ⟨m2, A2, g2⟩ yes no
        have r2 := m2.mr
        have s2 := r2.1
        have h3 : ¬ 2 ^ nP a ≤ k := by omega
        have hk2 : k < 4096 := by omega
        have bk : bN k ≤ 12 := by
          have : ∀ j i c, lp j i c (fun i c => c + (k >>> i &&& 1)) ≤ c + j := by
            intro j
            induction j with
            | zero => intro i c; exact Nat.le_refl _
            | succ j ih =>
              intro i c
              have h := ih (i + 1) (c + (k >>> i &&& 1))
              have : k >>> i &&& 1 ≤ 1 := Nat.and_le_right
              show lp j (i + 1) (c + (k >>> i &&& 1)) _ ≤ _
              omega
          have := this 12 0 0
          exact this
        rw [e_116_2]
        by_cases hb : bN k = c
        · simp (disch := first | omega | rfl | (repeat' (first | exact gS_sI | exact gP_sI | refine Eq.trans gS_sI ?_ | refine Eq.trans gP_sI ?_ | refine Eq.trans (gIr_sI (by omega)) ?_ | rfl))) only [q_aload0, q_aload0N, q_iconst, q_put_i, pTag_1, q_istore1, q_nop, q_iload1, q_get_r, pRf_s, q_iald, q_ic_gt, q_istore2, q_iload2, q_ishl, q_ic_ge, q_invs1_20, q_ic_ne, q_invv1, inv_1, q_iret, q_iinc2, q_goto, q_iinc1, e_116_0, e_116_3, e_116_4, e_116_5, L_0, L_1, k_some, k_none, pRm_i, pRm_r, pRm_0, pF_1, pF_2, inv_s, r2.1.k0, r2.1.k1, r2.1.k2, r2.1.k3, r2.1.k4, r2.1.k5, r2.1.k6, r2.1.k7, r2.1.k8, r2.1.k9, r2.1.k10, r2.1.k11, r2.1.k12, r2.1.k13, r2.1.p1, r2.1.p2, r2.1.p4, r2.1.p5, r2.1.p13, r2.1.p18, r2.1.p19, r2.1.p20, r2.1.p21, r2.1.p22, r2.1.p23, r2.1.p24, r2.1.p27, r2.2, hw.1.p, e1, h3, w_bits hk2, hb, gS_sI, gP_sI, gI_sI, Nat.add_left_cancel_iff, Nat.add_eq_left, Nat.left_eq_add, nN_le, nN_lt, nN_eq, nN_add, nN_mul, nN_lt0, nN_ge0, nN_gt0, nN_le0, nN_eq0, nN_eq1, nN_neN, pIn_n, pIx_n, eq_self, Nat.reduceLT, Bool.false_eq_true, Nat.add_zero, Nat.zero_add, Nat.reduceAdd, Nat.reduceMul, Nat.reduceSub, Nat.zero_le, Nat.reduceLeDiff, Nat.reduceEqDiff, Nat.le_refl, not_false_eq_true, not_true_eq_false, false_implies, true_implies, forall_const, true_and, and_true, if_true, if_false, implies_true, and_self, ne_eq, false_and, and_false, or_false, false_or, true_or, or_true]
          refine mw_mono (w_witnessM (d := d + 1) r2 hw.1 hw.2.2.1 hw.2.2.2) ?_
          rintro _ M3 ⟨rfl, r3, A3⟩
          have m3 := m2.tab A3 XMv_go r3
          have A23 := A2.trans (A3.mono XMv_U)
          have g3 : gI M3 u 0 = nN 0 := by rw [A3.I (by rintro ((z | ⟨-, z⟩) | z) <;> omega)]; exact g2
          cases hf : sFirst (sLets a (nN k)).1 with
          | none =>
            have hP : fewP a c k = true := by unfold fewP okFw; rw [hf, hb]; simp
            simp (disch := omega) only [q_aload0, q_aload0N, q_iconst, q_put_i, pTag_1, q_istore1, q_nop, q_iload1, q_get_r, pRf_s, q_iald, q_ic_gt, q_istore2, q_iload2, q_ishl, q_ic_ge, q_invs1_20, q_ic_ne, q_invv1, inv_1, q_iret, q_iinc2, q_goto, q_iinc1, e_116_0, e_116_3, e_116_4, e_116_5, L_0, L_1, k_some, k_none, pRm_i, pRm_r, pRm_0, pF_1, pF_2, inv_s, oI, nN_le, nN_lt, nN_eq, nN_add, nN_mul, nN_lt0, nN_ge0, nN_gt0, nN_le0, nN_eq0, nN_eq1, nN_neN, pIn_n, pIx_n, eq_self, Nat.reduceLT, Bool.false_eq_true, Nat.add_zero, Nat.zero_add, Nat.reduceAdd, Nat.reduceMul, Nat.reduceSub, Nat.zero_le, Nat.reduceLeDiff, Nat.reduceEqDiff, Nat.le_refl, not_false_eq_true, not_true_eq_false, false_implies, true_implies, forall_const, true_and, and_true, if_true, if_false, implies_true, and_self, ne_eq, false_and, and_false, or_false, false_or, true_or, or_true]
            exact yes hP M3 ⟨m3, A23, g3⟩
          | some x9 =>
            have hP : ¬ fewP a c k = true := by unfold fewP okFw; rw [hf]; simp
            have hx9 : x9 < 4000 := by
              have := sUnm_none (a := (sLets a (nN k)).1) _ _ x9 hf
              have := (sLets_ok (set := nN k) hw.1).1.n'
              omega
            have e9 : ¬ nN x9 = iN (-1) := by rw [nN_neN (by omega)]; exact not_false
            simp (disch := omega) only [q_aload0, q_aload0N, q_iconst, q_put_i, pTag_1, q_istore1, q_nop, q_iload1, q_get_r, pRf_s, q_iald, q_ic_gt, q_istore2, q_iload2, q_ishl, q_ic_ge, q_invs1_20, q_ic_ne, q_invv1, inv_1, q_iret, q_iinc2, q_goto, q_iinc1, e_116_0, e_116_3, e_116_4, e_116_5, L_0, L_1, k_some, k_none, pRm_i, pRm_r, pRm_0, pF_1, pF_2, inv_s, oI, e9, nN_le, nN_lt, nN_eq, nN_add, nN_mul, nN_lt0, nN_ge0, nN_gt0, nN_le0, nN_eq0, nN_eq1, nN_neN, pIn_n, pIx_n, eq_self, Nat.reduceLT, Bool.false_eq_true, Nat.add_zero, Nat.zero_add, Nat.reduceAdd, Nat.reduceMul, Nat.reduceSub, Nat.zero_le, Nat.reduceLeDiff, Nat.reduceEqDiff, Nat.le_refl, not_false_eq_true, not_true_eq_false, false_implies, true_implies, forall_const, true_and, and_true, if_true, if_false, implies_true, and_self, ne_eq, false_and, and_false, or_false, false_or, true_or, or_true]
            exact no hP M3 () ⟨m3, A23, g3⟩
        · simp (disch := first | omega | rfl | (repeat' (first | exact gS_sI | exact gP_sI | refine Eq.trans gS_sI ?_ | refine Eq.trans gP_sI ?_ | refine Eq.trans (gIr_sI (by omega)) ?_ | rfl))) only [q_aload0, q_aload0N, q_iconst, q_put_i, pTag_1, q_istore1, q_nop, q_iload1, q_get_r, pRf_s, q_iald, q_ic_gt, q_istore2, q_iload2, q_ishl, q_ic_ge, q_invs1_20, q_ic_ne, q_invv1, inv_1, q_iret, q_iinc2, q_goto, q_iinc1, e_116_0, e_116_3, e_116_4, e_116_5, L_0, L_1, k_some, k_none, pRm_i, pRm_r, pRm_0, pF_1, pF_2, inv_s, r2.1.k0, r2.1.k1, r2.1.k2, r2.1.k3, r2.1.k4, r2.1.k5, r2.1.k6, r2.1.k7, r2.1.k8, r2.1.k9, r2.1.k10, r2.1.k11, r2.1.k12, r2.1.k13, r2.1.p1, r2.1.p2, r2.1.p4, r2.1.p5, r2.1.p13, r2.1.p18, r2.1.p19, r2.1.p20, r2.1.p21, r2.1.p22, r2.1.p23, r2.1.p24, r2.1.p27, r2.2, hw.1.p, e1, h3, w_bits hk2, hb, gS_sI, gP_sI, gI_sI, Nat.add_left_cancel_iff, Nat.add_eq_left, Nat.left_eq_add, nN_le, nN_lt, nN_eq, nN_add, nN_mul, nN_lt0, nN_ge0, nN_gt0, nN_le0, nN_eq0, nN_eq1, nN_neN, pIn_n, pIx_n, eq_self, Nat.reduceLT, Bool.false_eq_true, Nat.add_zero, Nat.zero_add, Nat.reduceAdd, Nat.reduceMul, Nat.reduceSub, Nat.zero_le, Nat.reduceLeDiff, Nat.reduceEqDiff, Nat.le_refl, not_false_eq_true, not_true_eq_false, false_implies, true_implies, forall_const, true_and, and_true, if_true, if_false, implies_true, and_self, ne_eq, false_and, and_false, or_false, false_or, true_or, or_true]
          exact no (by unfold fewP; rw [decide_eq_false hb]; simp) M2 () ⟨m2, A2, g2⟩
      · intro s hs M2 ⟨m2, A2, g2⟩
        have e : fewJ a (j + 1) c = some s := by show (match fstO (fewP a c) (2 ^ nP a) 0 with | some s => some s | none => fewJ a j (c + 1)) = _; rw [hs]
        rw [e]
        exact ⟨KO.th g2 (fun _ => rfl), m2, A2⟩
      · intro hs M2 _ ⟨m2, A2, g2⟩
        have r2 := m2.mr
        have e : fewJ a (j + 1) c = fewJ a j (c + 1) := by show (match fstO (fewP a c) (2 ^ nP a) 0 with | some s => some s | none => fewJ a j (c + 1)) = _; rw [hs]
        rw [e, e_116_2]
        simp (disch := first | omega | rfl | (repeat' (first | exact gS_sI | exact gP_sI | refine Eq.trans gS_sI ?_ | refine Eq.trans gP_sI ?_ | refine Eq.trans (gIr_sI (by omega)) ?_ | rfl))) only [q_aload0, q_aload0N, q_iconst, q_put_i, pTag_1, q_istore1, q_nop, q_iload1, q_get_r, pRf_s, q_iald, q_ic_gt, q_istore2, q_iload2, q_ishl, q_ic_ge, q_invs1_20, q_ic_ne, q_invv1, inv_1, q_iret, q_iinc2, q_goto, q_iinc1, e_116_0, e_116_3, e_116_4, e_116_5, L_0, L_1, k_some, k_none, pRm_i, pRm_r, pRm_0, pF_1, pF_2, inv_s, r2.1.k0, r2.1.k1, r2.1.k2, r2.1.k3, r2.1.k4, r2.1.k5, r2.1.k6, r2.1.k7, r2.1.k8, r2.1.k9, r2.1.k10, r2.1.k11, r2.1.k12, r2.1.k13, r2.1.p1, r2.1.p2, r2.1.p4, r2.1.p5, r2.1.p13, r2.1.p18, r2.1.p19, r2.1.p20, r2.1.p21, r2.1.p22, r2.1.p23, r2.1.p24, r2.1.p27, r2.2, hw.1.p, e1, gS_sI, gP_sI, gI_sI, Nat.add_left_cancel_iff, Nat.add_eq_left, Nat.left_eq_add, nN_le, nN_lt, nN_eq, nN_add, nN_mul, nN_lt0, nN_ge0, nN_gt0, nN_le0, nN_eq0, nN_eq1, nN_neN, pIn_n, pIx_n, eq_self, Nat.reduceLT, Bool.false_eq_true, Nat.add_zero, Nat.zero_add, Nat.reduceAdd, Nat.reduceMul, Nat.reduceSub, Nat.zero_le, Nat.reduceLeDiff, Nat.reduceEqDiff, Nat.le_refl, not_false_eq_true, not_true_eq_false, false_implies, true_implies, forall_const, true_and, and_true, if_true, if_false, implies_true, and_self, ne_eq, false_and, and_false, or_false, false_or, true_or, or_true]
        exact ih (c + 1) _ M2 (by omega) ⟨m2, A2, g2⟩
  exact key (nP a + 1) 0 none M0 (by omega) ⟨m0, A0, g0⟩
end KFW
