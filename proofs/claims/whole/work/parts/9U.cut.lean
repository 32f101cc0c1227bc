/-! most and cut, both sides -/
noncomputable def sCut (a : Nat → Int32) (x y : Nat) : Int32 := nN (bfs (sMost a x y).2 (nP a) x).1
section CU
variable {d t u n p q f g m e K k dd i j : Nat} {b : Nat → Nat} {a a' ak : Nat → Int32} {img : Bool} {fl : Int32} {M M0 M1 M' : pMem} {Q : pOut → pMem → Prop} {x y : Int32}
theorem c_cut (c : CI M a ak img n b fl) (hw : Wf a) (hp : p < nP a) (hq : q < nP a) (hne : p ≠ q) : mw (d + 13) 26 [.ref 0, .int (nN p), .int (nN q)] M (fun o M' => o = .inl (some (.int (sCut a p q))) ∧ Yc M a M') := by
  obtain ⟨t, ht⟩ : ∃ t : Nat, t = 3 := ⟨3, rfl⟩
  have hr : Rep M t a := by rw [ht]; exact c.rep
  have hT : TmR M t a := by rw [ht]; exact c.tm
  have p1 : gP M 0 1 = some t := by rw [ht]; exact c.sh.p1
  have k0 := c.sh.k0
  have hp9 := hw.p'
  have hf9 := hw.f'
  have p6 := c.sh.p6
  have hS : (gS M 76).1 = 4 := by rw [c.sh.k76]
  simp (disch := omega) only [m_26, q_aload0, q_aload0N, q_iload1, q_iload2, q_invv2, inv_1, q_get_r, pTag_1, pRf_s, q_invv1, q_pop_i, q_pop_r, q_get_i, q_iret, e_26_0, k_some, k_none, pRm_i, pRm_r, pRm_0, pF_1, pF_2, inv_s, k0, p1, p6, hS, w_need2 c hw, hr.sh.k0, hr.nt, hr.ne, hr.nr, hr.nx, hr.day, hr.law, hr.sh.p0, hr.sh.p1, hr.sh.p2, hr.sh.p3, hr.sh.p4, hr.sh.p5, hr.sh.p6, hr.sh.p7, hr.sh.p8, nN_le, nN_lt, nN_eq, nN_add, nN_mul, nN_lt0, nN_ge0, nN_gt0, nN_le0, nN_eq0, nN_eq1, nN_neN, pIn_n, pIx_n, eq_self, Nat.reduceLT, Bool.false_eq_true, Nat.add_zero, Nat.zero_add, Nat.reduceAdd, Nat.reduceMul, Nat.reduceSub, Nat.zero_le, Nat.reduceLeDiff, Nat.reduceEqDiff, Nat.le_refl, not_false_eq_true, not_true_eq_false, false_implies, true_implies, forall_const, true_and, and_true, if_true, if_false, implies_true, and_self, ne_eq, false_and, and_false, or_false, false_or, true_or, or_true]
  subst ht
  refine mw_mono (w_open (d := d) c hw) ?_
  rintro _ M1 ⟨rfl, n1, e1, A1⟩
  have sh1 : ShP (gS M1) (gP M1) := by rw [A1.S, A1.P]; exact c.sh.shp
  have k01 : (gS M1 0).1 = 11 := by rw [A1.S, k0]
  have p61 : gP M1 0 6 = some 76 := by rw [A1.P]; exact p6
  have hS1 : (gS M1 76).1 = 4 := by rw [A1.S]; exact hS
  have hp' := hw.p'
  have cp1 : CpO M1 (nP a) (cT a) := ⟨n1, fun i j hi hj => by rw [e1 i j hi hj, cT_at hp' hi hj]⟩
  simp (disch := omega) only [q_aload0, q_aload0N, q_iload1, q_iload2, q_invv2, inv_1, q_get_r, pTag_1, pRf_s, q_invv1, q_pop_i, q_pop_r, q_get_i, q_iret, e_26_0, k_some, k_none, pRm_i, pRm_r, pRm_0, pF_1, pF_2, inv_s, k01, p61, hS1, nN_le, nN_lt, nN_eq, nN_add, nN_mul, nN_lt0, nN_ge0, nN_gt0, nN_le0, nN_eq0, nN_eq1, nN_neN, pIn_n, pIx_n, eq_self, Nat.reduceLT, Bool.false_eq_true, Nat.add_zero, Nat.zero_add, Nat.reduceAdd, Nat.reduceMul, Nat.reduceSub, Nat.zero_le, Nat.reduceLeDiff, Nat.reduceEqDiff, Nat.le_refl, not_false_eq_true, not_true_eq_false, false_implies, true_implies, forall_const, true_and, and_true, if_true, if_false, implies_true, and_self, ne_eq, false_and, and_false, or_false, false_or, true_or, or_true]
  refine mw_mono (w_flow (d := d + 8) sh1 cp1 hp' (cT_I hw) hp hq (fun z => hne z.symm) (cT_row hw hp)) ?_
  rintro _ M2 ⟨rfl, c2, I2, b2, A2⟩
  have k02 : (gS M2 0).1 = 11 := by rw [A2.S]; exact k01
  have p62 : gP M2 0 6 = some 76 := by rw [A2.P]; exact p61
  have hS2 : (gS M2 76).1 = 4 := by rw [A2.S]; exact hS1
  have g5 := b2.1
  simp (disch := omega) only [q_aload0, q_aload0N, q_iload1, q_iload2, q_invv2, inv_1, q_get_r, pTag_1, pRf_s, q_invv1, q_pop_i, q_pop_r, q_get_i, q_iret, e_26_0, k_some, k_none, pRm_i, pRm_r, pRm_0, pF_1, pF_2, inv_s, k02, p62, hS2, g5, nN_le, nN_lt, nN_eq, nN_add, nN_mul, nN_lt0, nN_ge0, nN_gt0, nN_le0, nN_eq0, nN_eq1, nN_neN, pIn_n, pIx_n, eq_self, Nat.reduceLT, Bool.false_eq_true, Nat.add_zero, Nat.zero_add, Nat.reduceAdd, Nat.reduceMul, Nat.reduceSub, Nat.zero_le, Nat.reduceLeDiff, Nat.reduceEqDiff, Nat.le_refl, not_false_eq_true, not_true_eq_false, false_implies, true_implies, forall_const, true_and, and_true, if_true, if_false, implies_true, and_self, ne_eq, false_and, and_false, or_false, false_or, true_or, or_true]
  exact ⟨rfl, yc_fl c A1 A2⟩
theorem c_most_n1 (c : CI M a ak img n b fl) (hw : Wf a) (hp : ¬ Ix (nP a) x) : mw (d + 8) 25 [.ref 0, .int x, .int y] M Q = Q (.inr 1) (nx M) := by
  have k0 := c.sh.k0
  simp (disch := omega) only [m_25, q_aload0, q_aload0N, q_iload1, q_iload2, q_invv2, inv_1, q_get_r, pTag_1, pRf_s, q_invv1, q_iret, e_25_0, k_some, k_none, pRm_i, pRm_r, pRm_0, pF_1, pF_2, inv_s, k0, w_need2a c hw hp, k_t10 hs_25, nN_le, nN_lt, nN_eq, nN_add, nN_mul, nN_lt0, nN_ge0, nN_gt0, nN_le0, nN_eq0, nN_eq1, nN_neN, pIn_n, pIx_n, eq_self, Nat.reduceLT, Bool.false_eq_true, Nat.add_zero, Nat.zero_add, Nat.reduceAdd, Nat.reduceMul, Nat.reduceSub, Nat.zero_le, Nat.reduceLeDiff, Nat.reduceEqDiff, Nat.le_refl, not_false_eq_true, not_true_eq_false, false_implies, true_implies, forall_const, true_and, and_true, if_true, if_false, implies_true, and_self, ne_eq, false_and, and_false, or_false, false_or, true_or, or_true]
theorem c_most_n2 (c : CI M a ak img n b fl) (hw : Wf a) (hp : p < nP a) (hq : ¬ Ix (nP a) y) : mw (d + 8) 25 [.ref 0, .int (nN p), .int y] M Q = Q (.inr 1) (nx M) := by
  have k0 := c.sh.k0
  simp (disch := omega) only [m_25, q_aload0, q_aload0N, q_iload1, q_iload2, q_invv2, inv_1, q_get_r, pTag_1, pRf_s, q_invv1, q_iret, e_25_0, k_some, k_none, pRm_i, pRm_r, pRm_0, pF_1, pF_2, inv_s, k0, w_need2b c hw hp hq, k_t10 hs_25, nN_le, nN_lt, nN_eq, nN_add, nN_mul, nN_lt0, nN_ge0, nN_gt0, nN_le0, nN_eq0, nN_eq1, nN_neN, pIn_n, pIx_n, eq_self, Nat.reduceLT, Bool.false_eq_true, Nat.add_zero, Nat.zero_add, Nat.reduceAdd, Nat.reduceMul, Nat.reduceSub, Nat.zero_le, Nat.reduceLeDiff, Nat.reduceEqDiff, Nat.le_refl, not_false_eq_true, not_true_eq_false, false_implies, true_implies, forall_const, true_and, and_true, if_true, if_false, implies_true, and_self, ne_eq, false_and, and_false, or_false, false_or, true_or, or_true]
theorem c_most_n3 (c : CI M a ak img n b fl) (hw : Wf a) (hp : p < nP a) : mw (d + 8) 25 [.ref 0, .int (nN p), .int (nN p)] M Q = Q (.inr 0) (nx M) := by
  have k0 := c.sh.k0
  simp (disch := omega) only [m_25, q_aload0, q_aload0N, q_iload1, q_iload2, q_invv2, inv_1, q_get_r, pTag_1, pRf_s, q_invv1, q_iret, e_25_0, k_some, k_none, pRm_i, pRm_r, pRm_0, pF_1, pF_2, inv_s, k0, w_need2c c hw hp, k_t10 hs_25, nN_le, nN_lt, nN_eq, nN_add, nN_mul, nN_lt0, nN_ge0, nN_gt0, nN_le0, nN_eq0, nN_eq1, nN_neN, pIn_n, pIx_n, eq_self, Nat.reduceLT, Bool.false_eq_true, Nat.add_zero, Nat.zero_add, Nat.reduceAdd, Nat.reduceMul, Nat.reduceSub, Nat.zero_le, Nat.reduceLeDiff, Nat.reduceEqDiff, Nat.le_refl, not_false_eq_true, not_true_eq_false, false_implies, true_implies, forall_const, true_and, and_true, if_true, if_false, implies_true, and_self, ne_eq, false_and, and_false, or_false, false_or, true_or, or_true]
theorem c_cut_n1 (c : CI M a ak img n b fl) (hw : Wf a) (hp : ¬ Ix (nP a) x) : mw (d + 8) 26 [.ref 0, .int x, .int y] M Q = Q (.inr 1) (nx M) := by
  have k0 := c.sh.k0
  simp (disch := omega) only [m_26, q_aload0, q_aload0N, q_iload1, q_iload2, q_invv2, inv_1, q_get_r, pTag_1, pRf_s, q_invv1, q_pop_i, q_pop_r, q_get_i, q_iret, e_26_0, k_some, k_none, pRm_i, pRm_r, pRm_0, pF_1, pF_2, inv_s, k0, w_need2a c hw hp, k_t10 hs_26, nN_le, nN_lt, nN_eq, nN_add, nN_mul, nN_lt0, nN_ge0, nN_gt0, nN_le0, nN_eq0, nN_eq1, nN_neN, pIn_n, pIx_n, eq_self, Nat.reduceLT, Bool.false_eq_true, Nat.add_zero, Nat.zero_add, Nat.reduceAdd, Nat.reduceMul, Nat.reduceSub, Nat.zero_le, Nat.reduceLeDiff, Nat.reduceEqDiff, Nat.le_refl, not_false_eq_true, not_true_eq_false, false_implies, true_implies, forall_const, true_and, and_true, if_true, if_false, implies_true, and_self, ne_eq, false_and, and_false, or_false, false_or, true_or, or_true]
theorem c_cut_n2 (c : CI M a ak img n b fl) (hw : Wf a) (hp : p < nP a) (hq : ¬ Ix (nP a) y) : mw (d + 8) 26 [.ref 0, .int (nN p), .int y] M Q = Q (.inr 1) (nx M) := by
  have k0 := c.sh.k0
  simp (disch := omega) only [m_26, q_aload0, q_aload0N, q_iload1, q_iload2, q_invv2, inv_1, q_get_r, pTag_1, pRf_s, q_invv1, q_pop_i, q_pop_r, q_get_i, q_iret, e_26_0, k_some, k_none, pRm_i, pRm_r, pRm_0, pF_1, pF_2, inv_s, k0, w_need2b c hw hp hq, k_t10 hs_26, nN_le, nN_lt, nN_eq, nN_add, nN_mul, nN_lt0, nN_ge0, nN_gt0, nN_le0, nN_eq0, nN_eq1, nN_neN, pIn_n, pIx_n, eq_self, Nat.reduceLT, Bool.false_eq_true, Nat.add_zero, Nat.zero_add, Nat.reduceAdd, Nat.reduceMul, Nat.reduceSub, Nat.zero_le, Nat.reduceLeDiff, Nat.reduceEqDiff, Nat.le_refl, not_false_eq_true, not_true_eq_false, false_implies, true_implies, forall_const, true_and, and_true, if_true, if_false, implies_true, and_self, ne_eq, false_and, and_false, or_false, false_or, true_or, or_true]
theorem c_cut_n3 (c : CI M a ak img n b fl) (hw : Wf a) (hp : p < nP a) : mw (d + 8) 26 [.ref 0, .int (nN p), .int (nN p)] M Q = Q (.inr 0) (nx M) := by
  have k0 := c.sh.k0
  simp (disch := omega) only [m_26, q_aload0, q_aload0N, q_iload1, q_iload2, q_invv2, inv_1, q_get_r, pTag_1, pRf_s, q_invv1, q_pop_i, q_pop_r, q_get_i, q_iret, e_26_0, k_some, k_none, pRm_i, pRm_r, pRm_0, pF_1, pF_2, inv_s, k0, w_need2c c hw hp, k_t10 hs_26, nN_le, nN_lt, nN_eq, nN_add, nN_mul, nN_lt0, nN_ge0, nN_gt0, nN_le0, nN_eq0, nN_eq1, nN_neN, pIn_n, pIx_n, eq_self, Nat.reduceLT, Bool.false_eq_true, Nat.add_zero, Nat.zero_add, Nat.reduceAdd, Nat.reduceMul, Nat.reduceSub, Nat.zero_le, Nat.reduceLeDiff, Nat.reduceEqDiff, Nat.le_refl, not_false_eq_true, not_true_eq_false, false_implies, true_implies, forall_const, true_and, and_true, if_true, if_false, implies_true, and_self, ne_eq, false_and, and_false, or_false, false_or, true_or, or_true]
theorem XMf_go : ∀ h k, XMf u h k → h = u ∧ (k = 0 ∨ (7 ≤ k ∧ k ≠ 10)) ∨ h = u + 3 ∨ (u + 5 ≤ h) := by rintro h k ((z | ⟨z, z2⟩) | z) <;> omega
theorem XMf_U : ∀ h k, XMf u h k → XU u h k := by rintro h k ((z | ⟨z, z2⟩) | z) <;> exact ⟨by omega, by omega⟩
theorem k_most (m : MI M u a ak img n b fl) (hw : Wg a) (hp : p < nP a) (hq : q < nP a) (hne : p ≠ q) : mw (d + 75) 124 [.ref u, .int (nN p), .int (nN q)] M (fun o M' => KO M' u 0 (sMost a p q).1 o ∧ MI M' u a ak img n b fl ∧ Ag (XU u) M M') := by
  have s := m.mr.1
  have hm := m.mr
  simp (disch := omega) only [m_124, q_aload0, q_aload0N, q_iload1, q_iload2, q_invv2, inv_1, q_put_i, pTag_1, q_get_i, pRf_s, q_if_le, q_iconst, q_iret, e_124_0, e_124_1, L_0, k_some, k_none, pRm_i, pRm_r, pRm_0, pF_1, pF_2, inv_s, s.k0, gS_sI, two_0 hm hw.1 hp hq hne, gS_sI, gP_sI, gI_sI, Nat.add_left_cancel_iff, Nat.add_eq_left, Nat.left_eq_add, nN_le, nN_lt, nN_eq, nN_add, nN_mul, nN_lt0, nN_ge0, nN_gt0, nN_le0, nN_eq0, nN_eq1, nN_neN, pIn_n, pIx_n, eq_self, Nat.reduceLT, Bool.false_eq_true, Nat.add_zero, Nat.zero_add, Nat.reduceAdd, Nat.reduceMul, Nat.reduceSub, Nat.zero_le, Nat.reduceLeDiff, Nat.reduceEqDiff, Nat.le_refl, not_false_eq_true, not_true_eq_false, false_implies, true_implies, forall_const, true_and, and_true, if_true, if_false, implies_true, and_self, ne_eq, false_and, and_false, or_false, false_or, true_or, or_true]
  refine mw_mono (w_flowsM (d := d + 4) (f := 100000) (m.th (v := nN 0)).mr hw (cT_I hw.1) (fun i j hi hj => cT_at hw.1.p' hi hj) hp hq (fun z => hne z.symm) (cT_row hw.1 hp)) ?_
  rintro _ M1 ⟨rfl, -, -, A1⟩
  simp (disch := omega) only [q_aload0, q_aload0N, q_iload1, q_iload2, q_invv2, inv_1, q_put_i, pTag_1, q_get_i, pRf_s, q_if_le, q_iconst, q_iret, e_124_0, e_124_1, L_0, k_some, k_none, pRm_i, pRm_r, pRm_0, pF_1, pF_2, inv_s, eq_self, Nat.reduceLT, Bool.false_eq_true, Nat.add_zero, Nat.zero_add, Nat.reduceAdd, Nat.reduceMul, Nat.reduceSub, Nat.zero_le, Nat.reduceLeDiff, Nat.reduceEqDiff, Nat.le_refl, not_false_eq_true, not_true_eq_false, false_implies, true_implies, forall_const, true_and, and_true, if_true, if_false, implies_true, and_self, ne_eq, false_and, and_false, or_false, false_or, true_or, or_true]
  refine ⟨KO.th ?_ (fun _ => rfl), m.th.go A1 XMf_go, XU_0.trans (A1.mono XMf_U)⟩
  rw [A1.I (by rintro ((z | ⟨-, z⟩) | z) <;> omega), gI_sI, if_pos ⟨rfl, rfl⟩]
end CU
