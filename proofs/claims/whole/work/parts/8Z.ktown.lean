/-! THE LAW'S MODEL: town() -/
section KT
variable {d n u p q k m c lo sr i e K : Nat} {b : Nat → Nat} {a a' ak : Nat → Int32} {img : Bool} {fl : Int32} {M M1 M' : pMem} {Q : pOut → pMem → Prop}
/-- the table is laid aside -/
theorem k_save (hs : ShM (gS M) (gP M) u) (ha : gI M (u + 1) = a) (hQ' : ∀ M' v, Ag (fun h _ => h = u + 3) M M' → (∀ k, k < 940 → gI M' (u + 3) k = a k) → bw (d + 73) 70 2 ([some (.ref u), some (.int v)], [], M') Q) : bw (d + 73) 70 1 ([some (.ref u), some (.int (nN 0))], [], M) Q := by
  have key : ∀ (j k : Nat) (M1 : pMem), k + j = 940 → Ag (fun h _ => h = u + 3) M M1 → (∀ i, i < k → gI M1 (u + 3) i = a i) → bw (d + 73) 70 1 ([some (.ref u), some (.int (nN k))], [], M1) Q := by
    intro j
    induction j with
    | zero =>
      intro k M1 hk A h
      have e : 940 ≤ k := by omega
      rw [e_70_1]
      simp (disch := omega) only [q_iconst, q_istore1, q_nop, q_iload1, q_sipush, q_ic_ge, q_aload0, q_aload0N, q_get_r, pTag_1, pRf_s, q_iald, q_iast, q_iinc1, q_goto, q_put_i, q_get_i, q_invv1, inv_1, q_ic_eq, q_bipush, q_ic_ne, q_if_le, q_iret, q_dup2, q_iadd, L_0, L_1, L_2, L_10, L_940, k_some, k_none, pRm_i, pRm_r, pRm_0, pF_1, pF_2, inv_s, e, nN_le, nN_lt, nN_eq, nN_add, nN_mul, nN_lt0, nN_ge0, nN_gt0, nN_le0, nN_eq0, nN_eq1, nN_neN, pIn_n, pIx_n, eq_self, Nat.reduceLT, Bool.false_eq_true, Nat.add_zero, Nat.zero_add, Nat.reduceAdd, Nat.reduceMul, Nat.reduceSub, Nat.zero_le, Nat.reduceLeDiff, Nat.reduceEqDiff, Nat.le_refl, not_false_eq_true, not_true_eq_false, false_implies, true_implies, forall_const, true_and, and_true, if_true, if_false, implies_true, and_self, ne_eq, false_and, and_false, or_false, false_or, true_or, or_true]
      exact hQ' M1 _ A (fun i hi => h i (by omega))
    | succ j ih =>
      intro k M1 hk A h
      have e : ¬ 940 ≤ k := by omega
      have s1 : ShM (gS M1) (gP M1) u := by rw [A.S, A.P]; exact hs
      have e1 : k < 940 := by omega
      have e2 : k < 3346 := by omega
      have g : gI M1 (u + 1) k = a k := by rw [A.row (by omega), ha]
      rw [e_70_1]
      simp (disch := omega) only [q_iconst, q_istore1, q_nop, q_iload1, q_sipush, q_ic_ge, q_aload0, q_aload0N, q_get_r, pTag_1, pRf_s, q_iald, q_iast, q_iinc1, q_goto, q_put_i, q_get_i, q_invv1, inv_1, q_ic_eq, q_bipush, q_ic_ne, q_if_le, q_iret, q_dup2, q_iadd, L_0, L_1, L_2, L_10, L_940, k_some, k_none, pRm_i, pRm_r, pRm_0, pF_1, pF_2, inv_s, s1.k0, s1.k1, s1.k3, s1.p1, s1.p4, e, e1, e2, g, nN_le, nN_lt, nN_eq, nN_add, nN_mul, nN_lt0, nN_ge0, nN_gt0, nN_le0, nN_eq0, nN_eq1, nN_neN, pIn_n, pIx_n, eq_self, Nat.reduceLT, Bool.false_eq_true, Nat.add_zero, Nat.zero_add, Nat.reduceAdd, Nat.reduceMul, Nat.reduceSub, Nat.zero_le, Nat.reduceLeDiff, Nat.reduceEqDiff, Nat.le_refl, not_false_eq_true, not_true_eq_false, false_implies, true_implies, forall_const, true_and, and_true, if_true, if_false, implies_true, and_self, ne_eq, false_and, and_false, or_false, false_or, true_or, or_true]
      refine ih (k + 1) _ (by omega) (A.put rfl) (fun i hi => ?_)
      rw [gI_sI]
      by_cases c : i = k
      · rw [if_pos ⟨rfl, c⟩, c]
      · rw [if_neg (fun z => c z.2)]; exact h i (by omega)
  exact key 940 0 M (by omega) Ag.rfl (fun i hi => by omega)
theorem k_town (m : MI M u a ak img n b fl) (hw : Wt a K) (hK : K + 1386 < 2000000) (hn : n ≤ 400) (hb : ∀ k, b k < 256) :
    mw (d + 74) 70 [.ref u] M (fun o M' => (match pTown (th uW n b) (nx9 n b) (nb n b 0) a with
      | .inl e => o = .inl (some (.int (nN 0))) ∧ gI M' u 0 = nN 1 ∧ MI M' u a ak img 0 b (nN e)
      | .inr a' => if nX a = 10 then o = .inl (some (.int (nN 0))) ∧ gI M' u 0 = nN 2 ∧ MI M' u a ak img 0 b (iN (-1)) else o = .inl (some (.int (nN (nX a + 1)))) ∧ gI M' u 0 = nN 0 ∧ MI M' u (aU a' 0 (nN (nX a + 1))) ak img 0 b (iN (-1))) ∧ Ag (XU u) M M') := by
  obtain ⟨x1, x2⟩ := nX_ok hw.1
  have hs := m.mr.1
  have ha := m.mr.2
  simp (disch := omega) only [m_70, q_iconst, q_istore1, q_nop, q_iload1, q_sipush, q_ic_ge, q_aload0, q_aload0N, q_get_r, pTag_1, pRf_s, q_iald, q_iast, q_iinc1, q_goto, q_put_i, q_get_i, q_invv1, inv_1, q_ic_eq, q_bipush, q_ic_ne, q_if_le, q_iret, q_dup2, q_iadd, e_70_0, L_0, L_1, L_2, L_10, L_940, k_some, k_none, pRm_i, pRm_r, pRm_0, pF_1, pF_2, inv_s, eq_self, Nat.reduceLT, Bool.false_eq_true, Nat.add_zero, Nat.zero_add, Nat.reduceAdd, Nat.reduceMul, Nat.reduceSub, Nat.zero_le, Nat.reduceLeDiff, Nat.reduceEqDiff, Nat.le_refl, not_false_eq_true, not_true_eq_false, false_implies, true_implies, forall_const, true_and, and_true, if_true, if_false, implies_true, and_self, ne_eq, false_and, and_false, or_false, false_or, true_or, or_true]
  refine k_save (a := a) hs ha ?_
  intro M1 v0 A1 hbf
  have s1 : ShM (gS M1) (gP M1) u := by rw [A1.S, A1.P]; exact hs
  have t1 : gI M1 u 6 = nN n := by rw [A1.I (by omega)]; exact m.tn
  rw [e_70_2]
  simp (disch := omega) only [q_iconst, q_istore1, q_nop, q_iload1, q_sipush, q_ic_ge, q_aload0, q_aload0N, q_get_r, pTag_1, pRf_s, q_iald, q_iast, q_iinc1, q_goto, q_put_i, q_get_i, q_invv1, inv_1, q_ic_eq, q_bipush, q_ic_ne, q_if_le, q_iret, q_dup2, q_iadd, e_70_0, L_0, L_1, L_2, L_10, L_940, k_some, k_none, pRm_i, pRm_r, pRm_0, pF_1, pF_2, inv_s, s1.k0, t1, gS_sI, gS_sI, gP_sI, gI_sI, Nat.add_left_cancel_iff, Nat.add_eq_left, Nat.left_eq_add, nN_le, nN_lt, nN_eq, nN_add, nN_mul, nN_lt0, nN_ge0, nN_gt0, nN_le0, nN_eq0, nN_eq1, nN_neN, pIn_n, pIx_n, eq_self, Nat.reduceLT, Bool.false_eq_true, Nat.add_zero, Nat.zero_add, Nat.reduceAdd, Nat.reduceMul, Nat.reduceSub, Nat.zero_le, Nat.reduceLeDiff, Nat.reduceEqDiff, Nat.le_refl, not_false_eq_true, not_true_eq_false, false_implies, true_implies, forall_const, true_and, and_true, if_true, if_false, implies_true, and_self, ne_eq, false_and, and_false, or_false, false_or, true_or, or_true]
  obtain ⟨M2, hM2⟩ : ∃ M2, M2 = sI (sI (sI (sI M1 u 10 (iN (-1))) u 7 (iN (-1))) u 8 (nN n)) u 6 (nN 0) := ⟨_, rfl⟩
  have A2 : Ag (fun h k => h = u ∧ (k = 6 ∨ k = 7 ∨ k = 8 ∨ k = 10)) M1 M2 := by
    rw [hM2]
    exact Ag.put (Ag.put (Ag.put (Ag.one ⟨rfl, by omega⟩) ⟨rfl, by omega⟩) ⟨rfl, by omega⟩) ⟨rfl, by omega⟩
  rw [← hM2]
  have s2 : ShM (gS M2) (gP M2) u := by rw [A2.S, A2.P]; exact s1
  have a2 : gI M2 (u + 1) = a := by rw [A2.row (by omega), A1.row (by omega), ha]
  refine mw_mono (w_readTown (d := d + 1) (n := n) (b := b) (a := a) (K := K) s2 (by rw [hM2]; simp [gI_sI]) (fun k hk => by rw [A2.I (by omega), A1.I (by omega)]; exact m.tb k hk) hn hb (by rw [hM2]; simp [gI_sI]) (by rw [hM2]; simp [gI_sI]) a2 hw hK) ?_
  rintro o M3 ⟨⟨rfl, h3⟩, A3⟩
  have s3 : ShM (gS M3) (gP M3) u := by rw [A3.S, A3.P]; exact s2
  have n3 : ∀ h k, (h = u + 2 ∨ h = u + 3 ∨ h = u + 4 ∨ (h = u ∧ (k < 9 ∨ k = 13 ∨ 18 ≤ k))) → ¬ XTr u h k := by
    rintro h k z ((z2 | z2 | ⟨z2, z3⟩) | ⟨z2, z3⟩) <;> omega
  have hi3 : gI M3 u 3 = bI (img = true) := by rw [A3.I (n3 _ _ (by omega)), A2.I (by omega), A1.I (by omega)]; exact m.hi
  have tn3 : gI M3 u 6 = nN 0 := by rw [A3.I (n3 _ _ (by omega)), hM2, gI_sI, if_pos ⟨rfl, rfl⟩]
  have ik3 : img = true → ∀ k, k < 3346 → gI M3 (u + 2) k = ak k := fun z k hk => by rw [A3.I (n3 _ _ (by omega)), A2.I (by omega), A1.I (by omega)]; exact m.ik z k hk
  have bf3 : ∀ k, k < 940 → gI M3 (u + 3) k = a k := fun k hk => by rw [A3.I (n3 _ _ (by omega)), A2.I (by omega)]; exact hbf k hk
  have A03 : Ag (XU u) M M3 := ((A1.mono fun h k z => (⟨by omega, by omega⟩ : XU u h k)).trans (A2.mono fun h k z => ⟨by omega, by omega⟩)).trans (A3.mono fun h k z => by
    rcases z with (z | z | ⟨z, -⟩) | ⟨z, -⟩ <;> exact ⟨by omega, by omega⟩)
  -- the table is taken back
  have undo : ∀ (w : Nat) (f : Int32) (a3 : Nat → Int32), 0 < w → w < 10 → gI M3 (u + 1) = a3 → (∀ j, 940 ≤ j → a3 j = a j) → gI M3 u 10 = f → bw (d + 73) 70 5 ([some (.ref u), some (.int v0)], [.int (nN w), .ref u], M3) (fun o M' => (o = .inl (some (.int (nN 0))) ∧ gI M' u 0 = nN w ∧ MI M' u a ak img 0 b f) ∧ Ag (XU u) M M') := by
    intro w f a3 hw0 hw1 h3 hi h10
    have A4 : Ag (fun h k => h = u ∧ k = 0) M3 (sI M3 u 0 (nN w)) := Ag.one ⟨rfl, rfl⟩
    have ew : ¬ w = 0 := by omega
    rw [e_70_5]
    simp (disch := omega) only [q_iconst, q_istore1, q_nop, q_iload1, q_sipush, q_ic_ge, q_aload0, q_aload0N, q_get_r, pTag_1, pRf_s, q_iald, q_iast, q_iinc1, q_goto, q_put_i, q_get_i, q_invv1, inv_1, q_ic_eq, q_bipush, q_ic_ne, q_if_le, q_iret, q_dup2, q_iadd, e_70_0, L_0, L_1, L_2, L_10, L_940, k_some, k_none, pRm_i, pRm_r, pRm_0, pF_1, pF_2, inv_s, s3.k0, gS_sI, ew, gS_sI, gP_sI, gI_sI, Nat.add_left_cancel_iff, Nat.add_eq_left, Nat.left_eq_add, nN_le, nN_lt, nN_eq, nN_add, nN_mul, nN_lt0, nN_ge0, nN_gt0, nN_le0, nN_eq0, nN_eq1, nN_neN, pIn_n, pIx_n, eq_self, Nat.reduceLT, Bool.false_eq_true, Nat.add_zero, Nat.zero_add, Nat.reduceAdd, Nat.reduceMul, Nat.reduceSub, Nat.zero_le, Nat.reduceLeDiff, Nat.reduceEqDiff, Nat.le_refl, not_false_eq_true, not_true_eq_false, false_implies, true_implies, forall_const, true_and, and_true, if_true, if_false, implies_true, and_self, ne_eq, false_and, and_false, or_false, false_or, true_or, or_true]
    generalize hM4 : sI M3 u 0 (nN w) = M4 at A4
    have s4 : ShM (gS M4) (gP M4) u := by rw [A4.S, A4.P]; exact s3
    have w4 : gI M4 u 0 = nN w := by rw [← hM4, gI_sI, if_pos ⟨rfl, rfl⟩]
    have key : ∀ (j k : Nat) (M5 : pMem), k + j = 940 → Ag (fun h _ => h = u + 1) M4 M5 → (∀ i, gI M5 (u + 1) i = if i < k then a i else a3 i) → bw (d + 73) 70 6 ([some (.ref u), some (.int (nN k))], [], M5) (fun o M' => (o = .inl (some (.int (nN 0))) ∧ gI M' u 0 = nN w ∧ MI M' u a ak img 0 b f) ∧ Ag (XU u) M M') := by
      intro j
      induction j with
      | zero =>
        intro k M5 hk A5 h5
        have e : 940 ≤ k := by omega
        rw [e_70_6]
        simp (disch := omega) only [q_iconst, q_istore1, q_nop, q_iload1, q_sipush, q_ic_ge, q_aload0, q_aload0N, q_get_r, pTag_1, pRf_s, q_iald, q_iast, q_iinc1, q_goto, q_put_i, q_get_i, q_invv1, inv_1, q_ic_eq, q_bipush, q_ic_ne, q_if_le, q_iret, q_dup2, q_iadd, e_70_7, L_0, L_1, L_2, L_10, L_940, k_some, k_none, pRm_i, pRm_r, pRm_0, pF_1, pF_2, inv_s, e, nN_le, nN_lt, nN_eq, nN_add, nN_mul, nN_lt0, nN_ge0, nN_gt0, nN_le0, nN_eq0, nN_eq1, nN_neN, pIn_n, pIx_n, eq_self, Nat.reduceLT, Bool.false_eq_true, Nat.add_zero, Nat.zero_add, Nat.reduceAdd, Nat.reduceMul, Nat.reduceSub, Nat.zero_le, Nat.reduceLeDiff, Nat.reduceEqDiff, Nat.le_refl, not_false_eq_true, not_true_eq_false, false_implies, true_implies, forall_const, true_and, and_true, if_true, if_false, implies_true, and_self, ne_eq, false_and, and_false, or_false, false_or, true_or, or_true]
        have g : ∀ h k, h ≠ u + 1 → gI M5 h k = gI M4 h k := fun h k z => A5.I z
        refine ⟨⟨by rw [g _ _ (by omega)]; exact w4, MI.mk ⟨by rw [A5.S, A5.P]; exact s4, ?_⟩ ?_ ?_ ?_ ?_ ?_⟩, (A03.trans (A4.mono fun h k z => ⟨by omega, by omega⟩)).trans (A5.mono fun h k z => ⟨by omega, by omega⟩)⟩
        · funext i
          rw [h5 i]
          by_cases c : i < k
          · rw [if_pos c]
          · rw [if_neg c]; exact hi i (by omega)
        · intro z k hk; rw [g _ _ (by omega), A4.I (by omega)]; exact ik3 z k hk
        · rw [g _ _ (by omega), A4.I (by omega)]; exact hi3
        · rw [g _ _ (by omega), A4.I (by omega)]; exact tn3
        · intro k hk; omega
        · rw [g _ _ (by omega), A4.I (by omega)]; exact h10
      | succ j ih =>
        intro k M5 hk A5 h5
        have e : ¬ 940 ≤ k := by omega
        have s5 : ShM (gS M5) (gP M5) u := by rw [A5.S, A5.P]; exact s4
        have e1 : k < 940 := by omega
        have e2 : k < 3346 := by omega
        have g : gI M5 (u + 3) k = a k := by rw [A5.I (by omega), A4.I (by omega)]; exact bf3 k e1
        rw [e_70_6]
        simp (disch := omega) only [q_iconst, q_istore1, q_nop, q_iload1, q_sipush, q_ic_ge, q_aload0, q_aload0N, q_get_r, pTag_1, pRf_s, q_iald, q_iast, q_iinc1, q_goto, q_put_i, q_get_i, q_invv1, inv_1, q_ic_eq, q_bipush, q_ic_ne, q_if_le, q_iret, q_dup2, q_iadd, L_0, L_1, L_2, L_10, L_940, k_some, k_none, pRm_i, pRm_r, pRm_0, pF_1, pF_2, inv_s, s5.k0, s5.k1, s5.k3, s5.p1, s5.p4, e, e1, e2, g, nN_le, nN_lt, nN_eq, nN_add, nN_mul, nN_lt0, nN_ge0, nN_gt0, nN_le0, nN_eq0, nN_eq1, nN_neN, pIn_n, pIx_n, eq_self, Nat.reduceLT, Bool.false_eq_true, Nat.add_zero, Nat.zero_add, Nat.reduceAdd, Nat.reduceMul, Nat.reduceSub, Nat.zero_le, Nat.reduceLeDiff, Nat.reduceEqDiff, Nat.le_refl, not_false_eq_true, not_true_eq_false, false_implies, true_implies, forall_const, true_and, and_true, if_true, if_false, implies_true, and_self, ne_eq, false_and, and_false, or_false, false_or, true_or, or_true]
        refine ih (k + 1) _ (by omega) (A5.put rfl) (fun i => ?_)
        rw [gI_sI, h5 i]
        by_cases c : i = k
        · rw [if_pos ⟨rfl, c⟩, if_pos (by omega), c]
        · rw [if_neg (fun z => c z.2)]
          by_cases c2 : i < k
          · rw [if_pos c2, if_pos (by omega)]
          · rw [if_neg c2, if_neg (by omega)]
    exact key 940 0 M4 (by omega) Ag.rfl (fun i => by rw [if_neg (by omega), A4.I (by omega), h3])
  cases hp : pTown (th uW n b) (nx9 n b) (nb n b 0) a with
  | inl e =>
    rw [hp] at h3
    obtain ⟨⟨a3, h3, hi⟩, f3, e3⟩ := h3
    have f4 := nN_ft e3
    simp (disch := omega) only [q_iconst, q_istore1, q_nop, q_iload1, q_sipush, q_ic_ge, q_aload0, q_aload0N, q_get_r, pTag_1, pRf_s, q_iald, q_iast, q_iinc1, q_goto, q_put_i, q_get_i, q_invv1, inv_1, q_ic_eq, q_bipush, q_ic_ne, q_if_le, q_iret, q_dup2, q_iadd, L_0, L_1, L_2, L_10, L_940, k_some, k_none, pRm_i, pRm_r, pRm_0, pF_1, pF_2, inv_s, s3.k0, f3, f4, nN_le, nN_lt, nN_eq, nN_add, nN_mul, nN_lt0, nN_ge0, nN_gt0, nN_le0, nN_eq0, nN_eq1, nN_neN, pIn_n, pIx_n, eq_self, Nat.reduceLT, Bool.false_eq_true, Nat.add_zero, Nat.zero_add, Nat.reduceAdd, Nat.reduceMul, Nat.reduceSub, Nat.zero_le, Nat.reduceLeDiff, Nat.reduceEqDiff, Nat.le_refl, not_false_eq_true, not_true_eq_false, false_implies, true_implies, forall_const, true_and, and_true, if_true, if_false, implies_true, and_self, ne_eq, false_and, and_false, or_false, false_or, true_or, or_true]
    exact undo 1 _ a3 (by omega) (by omega) h3 hi f3
  | inr a' =>
    rw [hp] at h3
    obtain ⟨h3, f3⟩ := h3
    obtain ⟨w2, G2⟩ := pTown_ok hw hK hp
    have g0 : gI M3 (u + 1) 0 = nN (nX a) := by rw [h3, G2.2.2.1, x2]
    simp (disch := omega) only [q_iconst, q_istore1, q_nop, q_iload1, q_sipush, q_ic_ge, q_aload0, q_aload0N, q_get_r, pTag_1, pRf_s, q_iald, q_iast, q_iinc1, q_goto, q_put_i, q_get_i, q_invv1, inv_1, q_ic_eq, q_bipush, q_ic_ne, q_if_le, q_iret, q_dup2, q_iadd, L_0, L_1, L_2, L_10, L_940, k_some, k_none, pRm_i, pRm_r, pRm_0, pF_1, pF_2, inv_s, s3.k0, f3, nN_le, nN_lt, nN_eq, nN_add, nN_mul, nN_lt0, nN_ge0, nN_gt0, nN_le0, nN_eq0, nN_eq1, nN_neN, pIn_n, pIx_n, eq_self, Nat.reduceLT, Bool.false_eq_true, Nat.add_zero, Nat.zero_add, Nat.reduceAdd, Nat.reduceMul, Nat.reduceSub, Nat.zero_le, Nat.reduceLeDiff, Nat.reduceEqDiff, Nat.le_refl, not_false_eq_true, not_true_eq_false, false_implies, true_implies, forall_const, true_and, and_true, if_true, if_false, implies_true, and_self, ne_eq, false_and, and_false, or_false, false_or, true_or, or_true]
    rw [e_70_3]
    by_cases h10 : nX a = 10
    · simp only [if_pos h10]
      simp (disch := omega) only [q_iconst, q_istore1, q_nop, q_iload1, q_sipush, q_ic_ge, q_aload0, q_aload0N, q_get_r, pTag_1, pRf_s, q_iald, q_iast, q_iinc1, q_goto, q_put_i, q_get_i, q_invv1, inv_1, q_ic_eq, q_bipush, q_ic_ne, q_if_le, q_iret, q_dup2, q_iadd, L_0, L_1, L_2, L_10, L_940, k_some, k_none, pRm_i, pRm_r, pRm_0, pF_1, pF_2, inv_s, s3.k0, s3.k1, s3.p1, g0, h10, nN_le, nN_lt, nN_eq, nN_add, nN_mul, nN_lt0, nN_ge0, nN_gt0, nN_le0, nN_eq0, nN_eq1, nN_neN, pIn_n, pIx_n, eq_self, Nat.reduceLT, Bool.false_eq_true, Nat.add_zero, Nat.zero_add, Nat.reduceAdd, Nat.reduceMul, Nat.reduceSub, Nat.zero_le, Nat.reduceLeDiff, Nat.reduceEqDiff, Nat.le_refl, not_false_eq_true, not_true_eq_false, false_implies, true_implies, forall_const, true_and, and_true, if_true, if_false, implies_true, and_self, ne_eq, false_and, and_false, or_false, false_or, true_or, or_true]
      exact undo 2 _ a' (by omega) (by omega) h3 G2.1 f3
    · simp only [if_neg h10]
      simp (disch := omega) only [q_iconst, q_istore1, q_nop, q_iload1, q_sipush, q_ic_ge, q_aload0, q_aload0N, q_get_r, pTag_1, pRf_s, q_iald, q_iast, q_iinc1, q_goto, q_put_i, q_get_i, q_invv1, inv_1, q_ic_eq, q_bipush, q_ic_ne, q_if_le, q_iret, q_dup2, q_iadd, L_0, L_1, L_2, L_10, L_940, k_some, k_none, pRm_i, pRm_r, pRm_0, pF_1, pF_2, inv_s, s3.k0, s3.k1, s3.p1, g0, h10, nN_le, nN_lt, nN_eq, nN_add, nN_mul, nN_lt0, nN_ge0, nN_gt0, nN_le0, nN_eq0, nN_eq1, nN_neN, pIn_n, pIx_n, eq_self, Nat.reduceLT, Bool.false_eq_true, Nat.add_zero, Nat.zero_add, Nat.reduceAdd, Nat.reduceMul, Nat.reduceSub, Nat.zero_le, Nat.reduceLeDiff, Nat.reduceEqDiff, Nat.le_refl, not_false_eq_true, not_true_eq_false, false_implies, true_implies, forall_const, true_and, and_true, if_true, if_false, implies_true, and_self, ne_eq, false_and, and_false, or_false, false_or, true_or, or_true]
      rw [e_70_4]
      simp (disch := omega) only [q_iconst, q_istore1, q_nop, q_iload1, q_sipush, q_ic_ge, q_aload0, q_aload0N, q_get_r, pTag_1, pRf_s, q_iald, q_iast, q_iinc1, q_goto, q_put_i, q_get_i, q_invv1, inv_1, q_ic_eq, q_bipush, q_ic_ne, q_if_le, q_iret, q_dup2, q_iadd, L_0, L_1, L_2, L_10, L_940, k_some, k_none, pRm_i, pRm_r, pRm_0, pF_1, pF_2, inv_s, nN_le, nN_lt, nN_eq, nN_add, nN_mul, nN_lt0, nN_ge0, nN_gt0, nN_le0, nN_eq0, nN_eq1, nN_neN, pIn_n, pIx_n, eq_self, Nat.reduceLT, Bool.false_eq_true, Nat.add_zero, Nat.zero_add, Nat.reduceAdd, Nat.reduceMul, Nat.reduceSub, Nat.zero_le, Nat.reduceLeDiff, Nat.reduceEqDiff, Nat.le_refl, not_false_eq_true, not_true_eq_false, false_implies, true_implies, forall_const, true_and, and_true, if_true, if_false, implies_true, and_self, ne_eq, false_and, and_false, or_false, false_or, true_or, or_true]
      rw [e_70_5]
      have e1 : ¬ (u = u + 1 ∧ (0 : Nat) = 0) := by omega
      have g0' : gI (sI M3 u 0 (nN 0)) (u + 1) 0 = nN (nX a) := by rw [gI_sI, if_neg (by omega)]; exact g0
      simp (disch := omega) only [q_iconst, q_istore1, q_nop, q_iload1, q_sipush, q_ic_ge, q_aload0, q_aload0N, q_get_r, pTag_1, pRf_s, q_iald, q_iast, q_iinc1, q_goto, q_put_i, q_get_i, q_invv1, inv_1, q_ic_eq, q_bipush, q_ic_ne, q_if_le, q_iret, q_dup2, q_iadd, e_70_8, L_0, L_1, L_2, L_10, L_940, k_some, k_none, pRm_i, pRm_r, pRm_0, pF_1, pF_2, inv_s, s3.k0, s3.k1, s3.p1, g0', gS_sI, gP_sI, gS_sI, gP_sI, gI_sI, Nat.add_left_cancel_iff, Nat.add_eq_left, Nat.left_eq_add, nN_le, nN_lt, nN_eq, nN_add, nN_mul, nN_lt0, nN_ge0, nN_gt0, nN_le0, nN_eq0, nN_eq1, nN_neN, pIn_n, pIx_n, eq_self, Nat.reduceLT, Bool.false_eq_true, Nat.add_zero, Nat.zero_add, Nat.reduceAdd, Nat.reduceMul, Nat.reduceSub, Nat.zero_le, Nat.reduceLeDiff, Nat.reduceEqDiff, Nat.le_refl, not_false_eq_true, not_true_eq_false, false_implies, true_implies, forall_const, true_and, and_true, if_true, if_false, implies_true, and_self, ne_eq, false_and, and_false, or_false, false_or, true_or, or_true]
      have A4 : Ag (fun h k => h = u ∧ k = 0) M3 (sI M3 u 0 (nN 0)) := Ag.one ⟨rfl, rfl⟩
      have A5 : Ag (fun h k => h = u + 1 ∧ k = 0) (sI M3 u 0 (nN 0)) (sI (sI M3 u 0 (nN 0)) (u + 1) 0 (nN (nX a + 1))) := Ag.one ⟨rfl, rfl⟩
      have g : ∀ h k, ¬ (h = u ∧ k = 0) → ¬ (h = u + 1) → gI (sI (sI M3 u 0 (nN 0)) (u + 1) 0 (nN (nX a + 1))) h k = gI M3 h k := fun h k z1 z2 => by rw [A5.I (by omega), A4.I z1]
      refine ⟨?_, (A03.trans (A4.mono fun h k z => ⟨by omega, by omega⟩)).trans (A5.mono fun h k z => ⟨by omega, by omega⟩)⟩
      refine MI.mk ⟨s3, ?_⟩ ?_ ?_ ?_ ?_ ?_
      · funext i
        rw [gI_sI, gI_sI, h3]
        unfold aU
        by_cases c : i = 0
        · rw [if_pos ⟨rfl, c⟩, if_pos c]
        · rw [if_neg (fun z => c z.2), if_neg c, if_neg (by omega)]
      · intro z k hk; rw [g _ _ (by omega) (by omega)]; exact ik3 z k hk
      · rw [g _ _ (by omega) (by omega)]; exact hi3
      · rw [g _ _ (by omega) (by omega)]; exact tn3
      · intro k hk; omega
      · rw [g _ _ (by omega) (by omega)]; exact f3
end KT
