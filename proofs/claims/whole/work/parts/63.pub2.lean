/-! THE CLASS'S FACE: calls -/
def Yc (M : pMem) (a' : Nat → Int32) (M' : pMem) : Prop := KF M M' ∧ Rep M' 3 a' ∧ TmR M' 3 a'
section PV
variable {d n : Nat} {a a' ak : Nat → Int32} {img : Bool} {b : Nat → Nat} {fl : Int32} {M M1 M2 M' : pMem} {Q : pOut → pMem → Prop} {x y z : Int32} {p q f g k dd : Nat} {fc : Bool}
theorem Yc.of (c : CI M a ak img n b fl) (A : Ag (XTw (gS M) (gP M) 3) M M') (R : Rep M' 3 a') (h2 : a' 2 = a 2) (hi : ∀ j, 940 ≤ j → a' j = a j) : Yc M a' M' :=
  ⟨KF.of c.sh A (by omega), R, (c.tm.agA (A.mono (XTw_XA (by omega)))).tab (by unfold nT; rw [h2]) (fun k _ => txt_hi hi)⟩
theorem Yc.ofC (c : CI M a ak img n b fl) (A : Ag (XC (gS M) (gP M) 3) M M') : Yc M a M' :=
  ⟨KF.ofC c.sh A (by omega), c.rep.ag A (fun h k h1 h2 h3 h4 => XC_low (by omega) h3 h4), c.tm.agA (A.mono fun h k z => XTw_XA (t := 3) (by omega) h k (XC_XTw h k z))⟩
theorem c_rich (c : CI M a ak img n b fl) (hw : Wf a) (hp : p < nP a) : mw (d + 6) 14 [.ref 0, .int (nN p)] M Q = Q (.inl (some (.int (sRich a (nN p))))) M := by
  obtain ⟨t, ht⟩ : ∃ t : Nat, t = 3 := ⟨3, rfl⟩
  have hr : Rep M t a := by rw [ht]; exact c.rep
  have hT : TmR M t a := by rw [ht]; exact c.tm
  have p1 : gP M 0 1 = some t := by rw [ht]; exact c.sh.p1
  have k0 := c.sh.k0
  have hp9 := hw.p'
  have hf9 := hw.f'
  simp (disch := omega) only [m_14, q_aload0, q_aload0N, q_iload1, q_invv1, inv_1, q_get_r, pTag_1, pRf_s, q_invs2_20, q_iret, e_14_0, k_some, k_none, pRm_i, pRm_r, pRm_0, pF_1, pF_2, inv_s, k0, p1, w_needP c hw, hr.sh.k1, hr.np, hr.sh.q0, hr.sh.q1, hr.sh.q2, hr.sh.q3, hr.sh.q4, w_atN hr.sh.k2, w_atN hr.sh.k3, w_atN hr.sh.k4, w_atN hr.sh.k5, w_atN hr.sh.k6, hr.lim, hr.tmp, hr.near, hr.rich, hr.debt, hr.sh.k0, hr.nt, hr.ne, hr.nr, hr.nx, hr.day, hr.law, hr.sh.p0, hr.sh.p1, hr.sh.p2, hr.sh.p3, hr.sh.p4, hr.sh.p5, hr.sh.p6, hr.sh.p7, hr.sh.p8, nN_le, nN_lt, nN_eq, nN_add, nN_mul, nN_lt0, nN_ge0, nN_gt0, nN_le0, nN_eq0, nN_eq1, nN_neN, pIn_n, pIx_n, eq_self, Nat.reduceLT, Bool.false_eq_true, Nat.add_zero, Nat.zero_add, Nat.reduceAdd, Nat.reduceMul, Nat.reduceSub, Nat.zero_le, Nat.reduceLeDiff, Nat.reduceEqDiff, Nat.le_refl, not_false_eq_true, not_true_eq_false, false_implies, true_implies, forall_const, true_and, and_true, if_true, if_false, implies_true, and_self, ne_eq, false_and, and_false, or_false, false_or, true_or, or_true]
theorem c_rich_n (c : CI M a ak img n b fl) (hw : Wf a) (hp : ¬ Ix (nP a) x) : mw (d + 6) 14 [.ref 0, .int x] M Q = Q (.inr 1) (nx M) := by
  have k0 := c.sh.k0
  simp (disch := omega) only [m_14, q_aload0, q_aload0N, q_iload1, q_invv1, inv_1, q_get_r, pTag_1, pRf_s, q_invs2_20, q_iret, e_14_0, k_some, k_none, pRm_i, pRm_r, pRm_0, pF_1, pF_2, inv_s, k0, w_needPn c hw hp, k_t10 hs_14, nN_le, nN_lt, nN_eq, nN_add, nN_mul, nN_lt0, nN_ge0, nN_gt0, nN_le0, nN_eq0, nN_eq1, nN_neN, pIn_n, pIx_n, eq_self, Nat.reduceLT, Bool.false_eq_true, Nat.add_zero, Nat.zero_add, Nat.reduceAdd, Nat.reduceMul, Nat.reduceSub, Nat.zero_le, Nat.reduceLeDiff, Nat.reduceEqDiff, Nat.le_refl, not_false_eq_true, not_true_eq_false, false_implies, true_implies, forall_const, true_and, and_true, if_true, if_false, implies_true, and_self, ne_eq, false_and, and_false, or_false, false_or, true_or, or_true]
theorem c_debt (c : CI M a ak img n b fl) (hw : Wf a) (hp : p < nP a) : mw (d + 6) 15 [.ref 0, .int (nN p)] M Q = Q (.inl (some (.int (sDebt a (nN p))))) M := by
  obtain ⟨t, ht⟩ : ∃ t : Nat, t = 3 := ⟨3, rfl⟩
  have hr : Rep M t a := by rw [ht]; exact c.rep
  have hT : TmR M t a := by rw [ht]; exact c.tm
  have p1 : gP M 0 1 = some t := by rw [ht]; exact c.sh.p1
  have k0 := c.sh.k0
  have hp9 := hw.p'
  have hf9 := hw.f'
  simp (disch := omega) only [m_15, q_aload0, q_aload0N, q_iload1, q_invv1, inv_1, q_get_r, pTag_1, pRf_s, q_invs2_20, q_iret, e_15_0, k_some, k_none, pRm_i, pRm_r, pRm_0, pF_1, pF_2, inv_s, k0, p1, w_needP c hw, hr.sh.k1, hr.np, hr.sh.q0, hr.sh.q1, hr.sh.q2, hr.sh.q3, hr.sh.q4, w_atN hr.sh.k2, w_atN hr.sh.k3, w_atN hr.sh.k4, w_atN hr.sh.k5, w_atN hr.sh.k6, hr.lim, hr.tmp, hr.near, hr.rich, hr.debt, hr.sh.k0, hr.nt, hr.ne, hr.nr, hr.nx, hr.day, hr.law, hr.sh.p0, hr.sh.p1, hr.sh.p2, hr.sh.p3, hr.sh.p4, hr.sh.p5, hr.sh.p6, hr.sh.p7, hr.sh.p8, nN_le, nN_lt, nN_eq, nN_add, nN_mul, nN_lt0, nN_ge0, nN_gt0, nN_le0, nN_eq0, nN_eq1, nN_neN, pIn_n, pIx_n, eq_self, Nat.reduceLT, Bool.false_eq_true, Nat.add_zero, Nat.zero_add, Nat.reduceAdd, Nat.reduceMul, Nat.reduceSub, Nat.zero_le, Nat.reduceLeDiff, Nat.reduceEqDiff, Nat.le_refl, not_false_eq_true, not_true_eq_false, false_implies, true_implies, forall_const, true_and, and_true, if_true, if_false, implies_true, and_self, ne_eq, false_and, and_false, or_false, false_or, true_or, or_true]
theorem c_debt_n (c : CI M a ak img n b fl) (hw : Wf a) (hp : ¬ Ix (nP a) x) : mw (d + 6) 15 [.ref 0, .int x] M Q = Q (.inr 1) (nx M) := by
  have k0 := c.sh.k0
  simp (disch := omega) only [m_15, q_aload0, q_aload0N, q_iload1, q_invv1, inv_1, q_get_r, pTag_1, pRf_s, q_invs2_20, q_iret, e_15_0, k_some, k_none, pRm_i, pRm_r, pRm_0, pF_1, pF_2, inv_s, k0, w_needPn c hw hp, k_t10 hs_15, nN_le, nN_lt, nN_eq, nN_add, nN_mul, nN_lt0, nN_ge0, nN_gt0, nN_le0, nN_eq0, nN_eq1, nN_neN, pIn_n, pIx_n, eq_self, Nat.reduceLT, Bool.false_eq_true, Nat.add_zero, Nat.zero_add, Nat.reduceAdd, Nat.reduceMul, Nat.reduceSub, Nat.zero_le, Nat.reduceLeDiff, Nat.reduceEqDiff, Nat.le_refl, not_false_eq_true, not_true_eq_false, false_implies, true_implies, forall_const, true_and, and_true, if_true, if_false, implies_true, and_self, ne_eq, false_and, and_false, or_false, false_or, true_or, or_true]
theorem c_owes (c : CI M a ak img n b fl) (hw : Wf a) (hp : p < nP a) (hq : q < nP a) : mw (d + 6) 16 [.ref 0, .int (nN p), .int (nN q)] M Q = Q (.inl (some (.int (sOwes a (nN p) (nN q))))) M := by
  obtain ⟨t, ht⟩ : ∃ t : Nat, t = 3 := ⟨3, rfl⟩
  have hr : Rep M t a := by rw [ht]; exact c.rep
  have hT : TmR M t a := by rw [ht]; exact c.tm
  have p1 : gP M 0 1 = some t := by rw [ht]; exact c.sh.p1
  have k0 := c.sh.k0
  have hp9 := hw.p'
  have hf9 := hw.f'
  simp (disch := omega) only [m_16, q_aload0, q_aload0N, q_iload1, q_invv1, inv_1, q_iload2, q_get_r, pTag_1, pRf_s, q_invv2, q_iret, e_16_0, k_some, k_none, pRm_i, pRm_r, pRm_0, pF_1, pF_2, inv_s, k0, p1, w_needP c hw, hr.sh.k0, hr.sh.k7, hr.sh.k0, hr.nt, hr.ne, hr.nr, hr.nx, hr.day, hr.law, hr.sh.p0, hr.sh.p1, hr.sh.p2, hr.sh.p3, hr.sh.p4, hr.sh.p5, hr.sh.p6, hr.sh.p7, hr.sh.p8, w_owed hr hw, nN_le, nN_lt, nN_eq, nN_add, nN_mul, nN_lt0, nN_ge0, nN_gt0, nN_le0, nN_eq0, nN_eq1, nN_neN, pIn_n, pIx_n, eq_self, Nat.reduceLT, Bool.false_eq_true, Nat.add_zero, Nat.zero_add, Nat.reduceAdd, Nat.reduceMul, Nat.reduceSub, Nat.zero_le, Nat.reduceLeDiff, Nat.reduceEqDiff, Nat.le_refl, not_false_eq_true, not_true_eq_false, false_implies, true_implies, forall_const, true_and, and_true, if_true, if_false, implies_true, and_self, ne_eq, false_and, and_false, or_false, false_or, true_or, or_true]
theorem c_owes_n1 (c : CI M a ak img n b fl) (hw : Wf a) (hp : ¬ Ix (nP a) x) : mw (d + 6) 16 [.ref 0, .int x, .int y] M Q = Q (.inr 1) (nx M) := by
  have k0 := c.sh.k0
  simp (disch := omega) only [m_16, q_aload0, q_aload0N, q_iload1, q_invv1, inv_1, q_iload2, q_get_r, pTag_1, pRf_s, q_invv2, q_iret, e_16_0, k_some, k_none, pRm_i, pRm_r, pRm_0, pF_1, pF_2, inv_s, k0, w_needPn c hw hp, k_t10 hs_16, nN_le, nN_lt, nN_eq, nN_add, nN_mul, nN_lt0, nN_ge0, nN_gt0, nN_le0, nN_eq0, nN_eq1, nN_neN, pIn_n, pIx_n, eq_self, Nat.reduceLT, Bool.false_eq_true, Nat.add_zero, Nat.zero_add, Nat.reduceAdd, Nat.reduceMul, Nat.reduceSub, Nat.zero_le, Nat.reduceLeDiff, Nat.reduceEqDiff, Nat.le_refl, not_false_eq_true, not_true_eq_false, false_implies, true_implies, forall_const, true_and, and_true, if_true, if_false, implies_true, and_self, ne_eq, false_and, and_false, or_false, false_or, true_or, or_true]
theorem c_owes_n2 (c : CI M a ak img n b fl) (hw : Wf a) (hp : p < nP a) (hq : ¬ Ix (nP a) y) : mw (d + 6) 16 [.ref 0, .int (nN p), .int y] M Q = Q (.inr 1) (nx M) := by
  have k0 := c.sh.k0
  simp (disch := omega) only [m_16, q_aload0, q_aload0N, q_iload1, q_invv1, inv_1, q_iload2, q_get_r, pTag_1, pRf_s, q_invv2, q_iret, e_16_0, k_some, k_none, pRm_i, pRm_r, pRm_0, pF_1, pF_2, inv_s, k0, w_needP c hw, w_needPn c hw hq, k_t10 hs_16, nN_le, nN_lt, nN_eq, nN_add, nN_mul, nN_lt0, nN_ge0, nN_gt0, nN_le0, nN_eq0, nN_eq1, nN_neN, pIn_n, pIx_n, eq_self, Nat.reduceLT, Bool.false_eq_true, Nat.add_zero, Nat.zero_add, Nat.reduceAdd, Nat.reduceMul, Nat.reduceSub, Nat.zero_le, Nat.reduceLeDiff, Nat.reduceEqDiff, Nat.le_refl, not_false_eq_true, not_true_eq_false, false_implies, true_implies, forall_const, true_and, and_true, if_true, if_false, implies_true, and_self, ne_eq, false_and, and_false, or_false, false_or, true_or, or_true]
theorem c_loss (c : CI M a ak img n b fl) (hw : Wf a) (hp : p < nP a) (hq : q < nP a) : mw (d + 6) 30 [.ref 0, .int (nN p), .int (nN q)] M Q = Q (.inl (some (.int (sLoss a (nN p) (nN q))))) M := by
  obtain ⟨t, ht⟩ : ∃ t : Nat, t = 3 := ⟨3, rfl⟩
  have hr : Rep M t a := by rw [ht]; exact c.rep
  have hT : TmR M t a := by rw [ht]; exact c.tm
  have p1 : gP M 0 1 = some t := by rw [ht]; exact c.sh.p1
  have k0 := c.sh.k0
  have hp9 := hw.p'
  have hf9 := hw.f'
  simp (disch := omega) only [m_30, q_aload0, q_aload0N, q_iload1, q_invv1, inv_1, q_iload2, q_get_r, pTag_1, pRf_s, q_invv2, q_iret, e_30_0, k_some, k_none, pRm_i, pRm_r, pRm_0, pF_1, pF_2, inv_s, k0, p1, w_needP c hw, hr.sh.k0, hr.sh.k7, hr.sh.k0, hr.nt, hr.ne, hr.nr, hr.nx, hr.day, hr.law, hr.sh.p0, hr.sh.p1, hr.sh.p2, hr.sh.p3, hr.sh.p4, hr.sh.p5, hr.sh.p6, hr.sh.p7, hr.sh.p8, w_lossOfC hr hw, nN_le, nN_lt, nN_eq, nN_add, nN_mul, nN_lt0, nN_ge0, nN_gt0, nN_le0, nN_eq0, nN_eq1, nN_neN, pIn_n, pIx_n, eq_self, Nat.reduceLT, Bool.false_eq_true, Nat.add_zero, Nat.zero_add, Nat.reduceAdd, Nat.reduceMul, Nat.reduceSub, Nat.zero_le, Nat.reduceLeDiff, Nat.reduceEqDiff, Nat.le_refl, not_false_eq_true, not_true_eq_false, false_implies, true_implies, forall_const, true_and, and_true, if_true, if_false, implies_true, and_self, ne_eq, false_and, and_false, or_false, false_or, true_or, or_true]
theorem c_loss_n1 (c : CI M a ak img n b fl) (hw : Wf a) (hp : ¬ Ix (nP a) x) : mw (d + 6) 30 [.ref 0, .int x, .int y] M Q = Q (.inr 1) (nx M) := by
  have k0 := c.sh.k0
  simp (disch := omega) only [m_30, q_aload0, q_aload0N, q_iload1, q_invv1, inv_1, q_iload2, q_get_r, pTag_1, pRf_s, q_invv2, q_iret, e_30_0, k_some, k_none, pRm_i, pRm_r, pRm_0, pF_1, pF_2, inv_s, k0, w_needPn c hw hp, k_t10 hs_30, nN_le, nN_lt, nN_eq, nN_add, nN_mul, nN_lt0, nN_ge0, nN_gt0, nN_le0, nN_eq0, nN_eq1, nN_neN, pIn_n, pIx_n, eq_self, Nat.reduceLT, Bool.false_eq_true, Nat.add_zero, Nat.zero_add, Nat.reduceAdd, Nat.reduceMul, Nat.reduceSub, Nat.zero_le, Nat.reduceLeDiff, Nat.reduceEqDiff, Nat.le_refl, not_false_eq_true, not_true_eq_false, false_implies, true_implies, forall_const, true_and, and_true, if_true, if_false, implies_true, and_self, ne_eq, false_and, and_false, or_false, false_or, true_or, or_true]
theorem c_loss_n2 (c : CI M a ak img n b fl) (hw : Wf a) (hp : p < nP a) (hq : ¬ Ix (nP a) y) : mw (d + 6) 30 [.ref 0, .int (nN p), .int y] M Q = Q (.inr 1) (nx M) := by
  have k0 := c.sh.k0
  simp (disch := omega) only [m_30, q_aload0, q_aload0N, q_iload1, q_invv1, inv_1, q_iload2, q_get_r, pTag_1, pRf_s, q_invv2, q_iret, e_30_0, k_some, k_none, pRm_i, pRm_r, pRm_0, pF_1, pF_2, inv_s, k0, w_needP c hw, w_needPn c hw hq, k_t10 hs_30, nN_le, nN_lt, nN_eq, nN_add, nN_mul, nN_lt0, nN_ge0, nN_gt0, nN_le0, nN_eq0, nN_eq1, nN_neN, pIn_n, pIx_n, eq_self, Nat.reduceLT, Bool.false_eq_true, Nat.add_zero, Nat.zero_add, Nat.reduceAdd, Nat.reduceMul, Nat.reduceSub, Nat.zero_le, Nat.reduceLeDiff, Nat.reduceEqDiff, Nat.le_refl, not_false_eq_true, not_true_eq_false, false_implies, true_implies, forall_const, true_and, and_true, if_true, if_false, implies_true, and_self, ne_eq, false_and, and_false, or_false, false_or, true_or, or_true]
theorem c_takes (c : CI M a ak img n b fl) (hw : Wf a) (hp : p < nP a) (hf : f < nF a) : mw (d + 8) 13 [.ref 0, .int (nN p), .int (nN f)] M (fun o M' => o = .inl (some (.int (bI (sTakeF a p f = true)))) ∧ Yc M a M') := by
  obtain ⟨t, ht⟩ : ∃ t : Nat, t = 3 := ⟨3, rfl⟩
  have hr : Rep M t a := by rw [ht]; exact c.rep
  have hT : TmR M t a := by rw [ht]; exact c.tm
  have p1 : gP M 0 1 = some t := by rw [ht]; exact c.sh.p1
  have k0 := c.sh.k0
  have hp9 := hw.p'
  have hf9 := hw.f'
  simp (disch := omega) only [m_13, q_aload0, q_aload0N, q_iload1, q_invv1, inv_1, q_iload2, q_get_r, pTag_1, pRf_s, q_invv2, q_zret, e_13_0, k_some, k_none, pRm_i, pRm_r, pRm_0, pF_1, pF_2, inv_s, k0, p1, w_needP c hw, w_needF c hw, hr.sh.k0, hr.nt, hr.ne, hr.nr, hr.nx, hr.day, hr.law, hr.sh.p0, hr.sh.p1, hr.sh.p2, hr.sh.p3, hr.sh.p4, hr.sh.p5, hr.sh.p6, hr.sh.p7, hr.sh.p8, nN_le, nN_lt, nN_eq, nN_add, nN_mul, nN_lt0, nN_ge0, nN_gt0, nN_le0, nN_eq0, nN_eq1, nN_neN, pIn_n, pIx_n, eq_self, Nat.reduceLT, Bool.false_eq_true, Nat.add_zero, Nat.zero_add, Nat.reduceAdd, Nat.reduceMul, Nat.reduceSub, Nat.zero_le, Nat.reduceLeDiff, Nat.reduceEqDiff, Nat.le_refl, not_false_eq_true, not_true_eq_false, false_implies, true_implies, forall_const, true_and, and_true, if_true, if_false, implies_true, and_self, ne_eq, false_and, and_false, or_false, false_or, true_or, or_true]
  refine mw_mono (w_take hr hw hT (by omega) hp hf) ?_
  rintro _ M1 ⟨rfl, A1⟩
  simp only [q_aload0, q_aload0N, q_iload1, q_invv1, inv_1, q_iload2, q_get_r, pTag_1, pRf_s, q_invv2, q_zret, e_13_0, k_some, k_none, pRm_i, pRm_r, pRm_0, pF_1, pF_2, inv_s, bI_z, eq_self, Nat.reduceLT, Bool.false_eq_true, Nat.add_zero, Nat.zero_add, Nat.reduceAdd, Nat.reduceMul, Nat.reduceSub, Nat.zero_le, Nat.reduceLeDiff, Nat.reduceEqDiff, Nat.le_refl, not_false_eq_true, not_true_eq_false, false_implies, true_implies, forall_const, true_and, and_true, if_true, if_false, implies_true, and_self, ne_eq, false_and, and_false, or_false, false_or, true_or, or_true]
  rw [ht] at A1
  exact Yc.ofC c A1
theorem c_takes_n1 (c : CI M a ak img n b fl) (hw : Wf a) (hp : ¬ Ix (nP a) x) : mw (d + 6) 13 [.ref 0, .int x, .int y] M Q = Q (.inr 1) (nx M) := by
  have k0 := c.sh.k0
  simp (disch := omega) only [m_13, q_aload0, q_aload0N, q_iload1, q_invv1, inv_1, q_iload2, q_get_r, pTag_1, pRf_s, q_invv2, q_zret, e_13_0, k_some, k_none, pRm_i, pRm_r, pRm_0, pF_1, pF_2, inv_s, k0, w_needPn c hw hp, k_t10 hs_13, nN_le, nN_lt, nN_eq, nN_add, nN_mul, nN_lt0, nN_ge0, nN_gt0, nN_le0, nN_eq0, nN_eq1, nN_neN, pIn_n, pIx_n, eq_self, Nat.reduceLT, Bool.false_eq_true, Nat.add_zero, Nat.zero_add, Nat.reduceAdd, Nat.reduceMul, Nat.reduceSub, Nat.zero_le, Nat.reduceLeDiff, Nat.reduceEqDiff, Nat.le_refl, not_false_eq_true, not_true_eq_false, false_implies, true_implies, forall_const, true_and, and_true, if_true, if_false, implies_true, and_self, ne_eq, false_and, and_false, or_false, false_or, true_or, or_true]
theorem c_takes_n2 (c : CI M a ak img n b fl) (hw : Wf a) (hp : p < nP a) (hq : ¬ Ix (nF a) y) : mw (d + 6) 13 [.ref 0, .int (nN p), .int y] M Q = Q (.inr 1) (nx M) := by
  have k0 := c.sh.k0
  simp (disch := omega) only [m_13, q_aload0, q_aload0N, q_iload1, q_invv1, inv_1, q_iload2, q_get_r, pTag_1, pRf_s, q_invv2, q_zret, e_13_0, k_some, k_none, pRm_i, pRm_r, pRm_0, pF_1, pF_2, inv_s, k0, w_needP c hw, w_needFn c hw hq, k_t10 hs_13, nN_le, nN_lt, nN_eq, nN_add, nN_mul, nN_lt0, nN_ge0, nN_gt0, nN_le0, nN_eq0, nN_eq1, nN_neN, pIn_n, pIx_n, eq_self, Nat.reduceLT, Bool.false_eq_true, Nat.add_zero, Nat.zero_add, Nat.reduceAdd, Nat.reduceMul, Nat.reduceSub, Nat.zero_le, Nat.reduceLeDiff, Nat.reduceEqDiff, Nat.le_refl, not_false_eq_true, not_true_eq_false, false_implies, true_implies, forall_const, true_and, and_true, if_true, if_false, implies_true, and_self, ne_eq, false_and, and_false, or_false, false_or, true_or, or_true]
theorem c_pays (c : CI M a ak img n b fl) (hw : Wf a) (hp : p < nP a) (hq : q < nP a) (hne : p ≠ q) (h1 : 1 ≤ g) (h2 : g ≤ 99) : mw (d + 12) 17 [.ref 0, .int (nN p), .int (nN q), .int (nN g)] M (fun o M' => o = .inl (some (.int (oI (sPays a p q g)))) ∧ Yc M a M') := by
  obtain ⟨t, ht⟩ : ∃ t : Nat, t = 3 := ⟨3, rfl⟩
  have hr : Rep M t a := by rw [ht]; exact c.rep
  have hT : TmR M t a := by rw [ht]; exact c.tm
  have p1 : gP M 0 1 = some t := by rw [ht]; exact c.sh.p1
  have k0 := c.sh.k0
  have hp9 := hw.p'
  have hf9 := hw.f'
  simp (disch := omega) only [m_17, q_aload0, q_aload0N, q_iload1, q_iload2, q_invv2, inv_1, q_iload3, q_invs1_20, q_get_r, pTag_1, pRf_s, q_invv3, q_iret, e_17_0, k_some, k_none, pRm_i, pRm_r, pRm_0, pF_1, pF_2, inv_s, k0, p1, w_need2 c hw, w_needW, hr.sh.k0, hr.nt, hr.ne, hr.nr, hr.nx, hr.day, hr.law, hr.sh.p0, hr.sh.p1, hr.sh.p2, hr.sh.p3, hr.sh.p4, hr.sh.p5, hr.sh.p6, hr.sh.p7, hr.sh.p8, nN_le, nN_lt, nN_eq, nN_add, nN_mul, nN_lt0, nN_ge0, nN_gt0, nN_le0, nN_eq0, nN_eq1, nN_neN, pIn_n, pIx_n, eq_self, Nat.reduceLT, Bool.false_eq_true, Nat.add_zero, Nat.zero_add, Nat.reduceAdd, Nat.reduceMul, Nat.reduceSub, Nat.zero_le, Nat.reduceLeDiff, Nat.reduceEqDiff, Nat.le_refl, not_false_eq_true, not_true_eq_false, false_implies, true_implies, forall_const, true_and, and_true, if_true, if_false, implies_true, and_self, ne_eq, false_and, and_false, or_false, false_or, true_or, or_true]
  refine mw_mono (w_favToPay hr hw hT (by omega) hp hq (by omega)) ?_
  rintro _ M1 ⟨rfl, A1⟩
  simp only [q_aload0, q_aload0N, q_iload1, q_iload2, q_invv2, inv_1, q_iload3, q_invs1_20, q_get_r, pTag_1, pRf_s, q_invv3, q_iret, e_17_0, k_some, k_none, pRm_i, pRm_r, pRm_0, pF_1, pF_2, inv_s, eq_self, Nat.reduceLT, Bool.false_eq_true, Nat.add_zero, Nat.zero_add, Nat.reduceAdd, Nat.reduceMul, Nat.reduceSub, Nat.zero_le, Nat.reduceLeDiff, Nat.reduceEqDiff, Nat.le_refl, not_false_eq_true, not_true_eq_false, false_implies, true_implies, forall_const, true_and, and_true, if_true, if_false, implies_true, and_self, ne_eq, false_and, and_false, or_false, false_or, true_or, or_true]
  rw [ht] at A1
  exact Yc.ofC c A1
theorem c_pays_n1 (c : CI M a ak img n b fl) (hw : Wf a) (hp : ¬ Ix (nP a) x) : mw (d + 8) 17 [.ref 0, .int x, .int y, .int z] M Q = Q (.inr 1) (nx M) := by
  have k0 := c.sh.k0
  simp (disch := omega) only [m_17, q_aload0, q_aload0N, q_iload1, q_iload2, q_invv2, inv_1, q_iload3, q_invs1_20, q_get_r, pTag_1, pRf_s, q_invv3, q_iret, e_17_0, k_some, k_none, pRm_i, pRm_r, pRm_0, pF_1, pF_2, inv_s, k0, w_need2a c hw hp, k_t10 hs_17, nN_le, nN_lt, nN_eq, nN_add, nN_mul, nN_lt0, nN_ge0, nN_gt0, nN_le0, nN_eq0, nN_eq1, nN_neN, pIn_n, pIx_n, eq_self, Nat.reduceLT, Bool.false_eq_true, Nat.add_zero, Nat.zero_add, Nat.reduceAdd, Nat.reduceMul, Nat.reduceSub, Nat.zero_le, Nat.reduceLeDiff, Nat.reduceEqDiff, Nat.le_refl, not_false_eq_true, not_true_eq_false, false_implies, true_implies, forall_const, true_and, and_true, if_true, if_false, implies_true, and_self, ne_eq, false_and, and_false, or_false, false_or, true_or, or_true]
theorem c_pays_n2 (c : CI M a ak img n b fl) (hw : Wf a) (hp : p < nP a) (hq : ¬ Ix (nP a) y) : mw (d + 8) 17 [.ref 0, .int (nN p), .int y, .int z] M Q = Q (.inr 1) (nx M) := by
  have k0 := c.sh.k0
  simp (disch := omega) only [m_17, q_aload0, q_aload0N, q_iload1, q_iload2, q_invv2, inv_1, q_iload3, q_invs1_20, q_get_r, pTag_1, pRf_s, q_invv3, q_iret, e_17_0, k_some, k_none, pRm_i, pRm_r, pRm_0, pF_1, pF_2, inv_s, k0, w_need2b c hw hp hq, k_t10 hs_17, nN_le, nN_lt, nN_eq, nN_add, nN_mul, nN_lt0, nN_ge0, nN_gt0, nN_le0, nN_eq0, nN_eq1, nN_neN, pIn_n, pIx_n, eq_self, Nat.reduceLT, Bool.false_eq_true, Nat.add_zero, Nat.zero_add, Nat.reduceAdd, Nat.reduceMul, Nat.reduceSub, Nat.zero_le, Nat.reduceLeDiff, Nat.reduceEqDiff, Nat.le_refl, not_false_eq_true, not_true_eq_false, false_implies, true_implies, forall_const, true_and, and_true, if_true, if_false, implies_true, and_self, ne_eq, false_and, and_false, or_false, false_or, true_or, or_true]
theorem c_pays_n3 (c : CI M a ak img n b fl) (hw : Wf a) (hp : p < nP a) : mw (d + 8) 17 [.ref 0, .int (nN p), .int (nN p), .int z] M Q = Q (.inr 0) (nx M) := by
  have k0 := c.sh.k0
  simp (disch := omega) only [m_17, q_aload0, q_aload0N, q_iload1, q_iload2, q_invv2, inv_1, q_iload3, q_invs1_20, q_get_r, pTag_1, pRf_s, q_invv3, q_iret, e_17_0, k_some, k_none, pRm_i, pRm_r, pRm_0, pF_1, pF_2, inv_s, k0, w_need2c c hw hp, k_t10 hs_17, nN_le, nN_lt, nN_eq, nN_add, nN_mul, nN_lt0, nN_ge0, nN_gt0, nN_le0, nN_eq0, nN_eq1, nN_neN, pIn_n, pIx_n, eq_self, Nat.reduceLT, Bool.false_eq_true, Nat.add_zero, Nat.zero_add, Nat.reduceAdd, Nat.reduceMul, Nat.reduceSub, Nat.zero_le, Nat.reduceLeDiff, Nat.reduceEqDiff, Nat.le_refl, not_false_eq_true, not_true_eq_false, false_implies, true_implies, forall_const, true_and, and_true, if_true, if_false, implies_true, and_self, ne_eq, false_and, and_false, or_false, false_or, true_or, or_true]
theorem c_pays_n4 (c : CI M a ak img n b fl) (hw : Wf a) (hp : p < nP a) (hq : q < nP a) (hne : p ≠ q) (hz : ¬ Wh z) : mw (d + 8) 17 [.ref 0, .int (nN p), .int (nN q), .int z] M Q = Q (.inr 0) (nx M) := by
  have k0 := c.sh.k0
  simp (disch := omega) only [m_17, q_aload0, q_aload0N, q_iload1, q_iload2, q_invv2, inv_1, q_iload3, q_invs1_20, q_get_r, pTag_1, pRf_s, q_invv3, q_iret, e_17_0, k_some, k_none, pRm_i, pRm_r, pRm_0, pF_1, pF_2, inv_s, k0, w_need2 c hw hp hq hne, w_needWn hz, k_t20 hs_17, nN_le, nN_lt, nN_eq, nN_add, nN_mul, nN_lt0, nN_ge0, nN_gt0, nN_le0, nN_eq0, nN_eq1, nN_neN, pIn_n, pIx_n, eq_self, Nat.reduceLT, Bool.false_eq_true, Nat.add_zero, Nat.zero_add, Nat.reduceAdd, Nat.reduceMul, Nat.reduceSub, Nat.zero_le, Nat.reduceLeDiff, Nat.reduceEqDiff, Nat.le_refl, not_false_eq_true, not_true_eq_false, false_implies, true_implies, forall_const, true_and, and_true, if_true, if_false, implies_true, and_self, ne_eq, false_and, and_false, or_false, false_or, true_or, or_true]
theorem c_can (c : CI M a ak img n b fl) (hw : Wf a) (hd : DyO a) (hf : f < nE a) : mw (d + 13) 18 [.ref 0, .int (nN f)] M (fun o M' => o = .inl (some (.int (bI (sMetK a f = true)))) ∧ Yc M a M') := by
  obtain ⟨t, ht⟩ : ∃ t : Nat, t = 3 := ⟨3, rfl⟩
  have hr : Rep M t a := by rw [ht]; exact c.rep
  have hT : TmR M t a := by rw [ht]; exact c.tm
  have p1 : gP M 0 1 = some t := by rw [ht]; exact c.sh.p1
  have k0 := c.sh.k0
  have hp9 := hw.p'
  have hf9 := hw.f'
  simp (disch := omega) only [m_18, q_aload0, q_aload0N, q_iload1, q_invv1, inv_1, q_get_r, pTag_1, pRf_s, q_zret, e_18_0, k_some, k_none, pRm_i, pRm_r, pRm_0, pF_1, pF_2, inv_s, k0, p1, w_needN c hw, hr.sh.k0, hr.nt, hr.ne, hr.nr, hr.nx, hr.day, hr.law, hr.sh.p0, hr.sh.p1, hr.sh.p2, hr.sh.p3, hr.sh.p4, hr.sh.p5, hr.sh.p6, hr.sh.p7, hr.sh.p8, nN_le, nN_lt, nN_eq, nN_add, nN_mul, nN_lt0, nN_ge0, nN_gt0, nN_le0, nN_eq0, nN_eq1, nN_neN, pIn_n, pIx_n, eq_self, Nat.reduceLT, Bool.false_eq_true, Nat.add_zero, Nat.zero_add, Nat.reduceAdd, Nat.reduceMul, Nat.reduceSub, Nat.zero_le, Nat.reduceLeDiff, Nat.reduceEqDiff, Nat.le_refl, not_false_eq_true, not_true_eq_false, false_implies, true_implies, forall_const, true_and, and_true, if_true, if_false, implies_true, and_self, ne_eq, false_and, and_false, or_false, false_or, true_or, or_true]
  refine mw_mono (w_couldMeet hr hw hT hd (by omega) hf) ?_
  rintro _ M1 ⟨rfl, A1⟩
  simp only [q_aload0, q_aload0N, q_iload1, q_invv1, inv_1, q_get_r, pTag_1, pRf_s, q_zret, e_18_0, k_some, k_none, pRm_i, pRm_r, pRm_0, pF_1, pF_2, inv_s, bI_z, eq_self, Nat.reduceLT, Bool.false_eq_true, Nat.add_zero, Nat.zero_add, Nat.reduceAdd, Nat.reduceMul, Nat.reduceSub, Nat.zero_le, Nat.reduceLeDiff, Nat.reduceEqDiff, Nat.le_refl, not_false_eq_true, not_true_eq_false, false_implies, true_implies, forall_const, true_and, and_true, if_true, if_false, implies_true, and_self, ne_eq, false_and, and_false, or_false, false_or, true_or, or_true]
  rw [ht] at A1
  exact Yc.ofC c A1
theorem c_can_n (c : CI M a ak img n b fl) (hw : Wf a) (hp : ¬ Ix (nE a) x) : mw (d + 6) 18 [.ref 0, .int x] M Q = Q (.inr 1) (nx M) := by
  have k0 := c.sh.k0
  simp (disch := omega) only [m_18, q_aload0, q_aload0N, q_iload1, q_invv1, inv_1, q_get_r, pTag_1, pRf_s, q_zret, e_18_0, k_some, k_none, pRm_i, pRm_r, pRm_0, pF_1, pF_2, inv_s, k0, w_needNn c hw hp, k_t10 hs_18, nN_le, nN_lt, nN_eq, nN_add, nN_mul, nN_lt0, nN_ge0, nN_gt0, nN_le0, nN_eq0, nN_eq1, nN_neN, pIn_n, pIx_n, eq_self, Nat.reduceLT, Bool.false_eq_true, Nat.add_zero, Nat.zero_add, Nat.reduceAdd, Nat.reduceMul, Nat.reduceSub, Nat.zero_le, Nat.reduceLeDiff, Nat.reduceEqDiff, Nat.le_refl, not_false_eq_true, not_true_eq_false, false_implies, true_implies, forall_const, true_and, and_true, if_true, if_false, implies_true, and_self, ne_eq, false_and, and_false, or_false, false_or, true_or, or_true]
theorem c_port (c : CI M a ak img n b fl) (hw : Wf a) (hp : p < nP a) (hq : q < nP a) (hne : p ≠ q) : mw (d + 12) 24 [.ref 0, .int (nN p), .int (nN q)] M (fun o M' => o = .inl (some (.int (sPort a p q))) ∧ Yc M a M') := by
  obtain ⟨t, ht⟩ : ∃ t : Nat, t = 3 := ⟨3, rfl⟩
  have hr : Rep M t a := by rw [ht]; exact c.rep
  have hT : TmR M t a := by rw [ht]; exact c.tm
  have p1 : gP M 0 1 = some t := by rw [ht]; exact c.sh.p1
  have k0 := c.sh.k0
  have hp9 := hw.p'
  have hf9 := hw.f'
  simp (disch := omega) only [m_24, q_aload0, q_aload0N, q_iload1, q_iload2, q_invv2, inv_1, q_get_r, pTag_1, pRf_s, q_iret, e_24_0, k_some, k_none, pRm_i, pRm_r, pRm_0, pF_1, pF_2, inv_s, k0, p1, w_need2 c hw, hr.sh.k0, hr.nt, hr.ne, hr.nr, hr.nx, hr.day, hr.law, hr.sh.p0, hr.sh.p1, hr.sh.p2, hr.sh.p3, hr.sh.p4, hr.sh.p5, hr.sh.p6, hr.sh.p7, hr.sh.p8, nN_le, nN_lt, nN_eq, nN_add, nN_mul, nN_lt0, nN_ge0, nN_gt0, nN_le0, nN_eq0, nN_eq1, nN_neN, pIn_n, pIx_n, eq_self, Nat.reduceLT, Bool.false_eq_true, Nat.add_zero, Nat.zero_add, Nat.reduceAdd, Nat.reduceMul, Nat.reduceSub, Nat.zero_le, Nat.reduceLeDiff, Nat.reduceEqDiff, Nat.le_refl, not_false_eq_true, not_true_eq_false, false_implies, true_implies, forall_const, true_and, and_true, if_true, if_false, implies_true, and_self, ne_eq, false_and, and_false, or_false, false_or, true_or, or_true]
  refine mw_mono (w_portBetween hr hw hT (by omega) hp hq) ?_
  rintro _ M1 ⟨rfl, A1⟩
  simp only [q_aload0, q_aload0N, q_iload1, q_iload2, q_invv2, inv_1, q_get_r, pTag_1, pRf_s, q_iret, e_24_0, k_some, k_none, pRm_i, pRm_r, pRm_0, pF_1, pF_2, inv_s, eq_self, Nat.reduceLT, Bool.false_eq_true, Nat.add_zero, Nat.zero_add, Nat.reduceAdd, Nat.reduceMul, Nat.reduceSub, Nat.zero_le, Nat.reduceLeDiff, Nat.reduceEqDiff, Nat.le_refl, not_false_eq_true, not_true_eq_false, false_implies, true_implies, forall_const, true_and, and_true, if_true, if_false, implies_true, and_self, ne_eq, false_and, and_false, or_false, false_or, true_or, or_true]
  rw [ht] at A1
  exact Yc.ofC c A1
theorem c_port_n1 (c : CI M a ak img n b fl) (hw : Wf a) (hp : ¬ Ix (nP a) x) : mw (d + 8) 24 [.ref 0, .int x, .int y] M Q = Q (.inr 1) (nx M) := by
  have k0 := c.sh.k0
  simp (disch := omega) only [m_24, q_aload0, q_aload0N, q_iload1, q_iload2, q_invv2, inv_1, q_get_r, pTag_1, pRf_s, q_iret, e_24_0, k_some, k_none, pRm_i, pRm_r, pRm_0, pF_1, pF_2, inv_s, k0, w_need2a c hw hp, k_t10 hs_24, nN_le, nN_lt, nN_eq, nN_add, nN_mul, nN_lt0, nN_ge0, nN_gt0, nN_le0, nN_eq0, nN_eq1, nN_neN, pIn_n, pIx_n, eq_self, Nat.reduceLT, Bool.false_eq_true, Nat.add_zero, Nat.zero_add, Nat.reduceAdd, Nat.reduceMul, Nat.reduceSub, Nat.zero_le, Nat.reduceLeDiff, Nat.reduceEqDiff, Nat.le_refl, not_false_eq_true, not_true_eq_false, false_implies, true_implies, forall_const, true_and, and_true, if_true, if_false, implies_true, and_self, ne_eq, false_and, and_false, or_false, false_or, true_or, or_true]
theorem c_port_n2 (c : CI M a ak img n b fl) (hw : Wf a) (hp : p < nP a) (hq : ¬ Ix (nP a) y) : mw (d + 8) 24 [.ref 0, .int (nN p), .int y] M Q = Q (.inr 1) (nx M) := by
  have k0 := c.sh.k0
  simp (disch := omega) only [m_24, q_aload0, q_aload0N, q_iload1, q_iload2, q_invv2, inv_1, q_get_r, pTag_1, pRf_s, q_iret, e_24_0, k_some, k_none, pRm_i, pRm_r, pRm_0, pF_1, pF_2, inv_s, k0, w_need2b c hw hp hq, k_t10 hs_24, nN_le, nN_lt, nN_eq, nN_add, nN_mul, nN_lt0, nN_ge0, nN_gt0, nN_le0, nN_eq0, nN_eq1, nN_neN, pIn_n, pIx_n, eq_self, Nat.reduceLT, Bool.false_eq_true, Nat.add_zero, Nat.zero_add, Nat.reduceAdd, Nat.reduceMul, Nat.reduceSub, Nat.zero_le, Nat.reduceLeDiff, Nat.reduceEqDiff, Nat.le_refl, not_false_eq_true, not_true_eq_false, false_implies, true_implies, forall_const, true_and, and_true, if_true, if_false, implies_true, and_self, ne_eq, false_and, and_false, or_false, false_or, true_or, or_true]
theorem c_port_n3 (c : CI M a ak img n b fl) (hw : Wf a) (hp : p < nP a) : mw (d + 8) 24 [.ref 0, .int (nN p), .int (nN p)] M Q = Q (.inr 0) (nx M) := by
  have k0 := c.sh.k0
  simp (disch := omega) only [m_24, q_aload0, q_aload0N, q_iload1, q_iload2, q_invv2, inv_1, q_get_r, pTag_1, pRf_s, q_iret, e_24_0, k_some, k_none, pRm_i, pRm_r, pRm_0, pF_1, pF_2, inv_s, k0, w_need2c c hw hp, k_t10 hs_24, nN_le, nN_lt, nN_eq, nN_add, nN_mul, nN_lt0, nN_ge0, nN_gt0, nN_le0, nN_eq0, nN_eq1, nN_neN, pIn_n, pIx_n, eq_self, Nat.reduceLT, Bool.false_eq_true, Nat.add_zero, Nat.zero_add, Nat.reduceAdd, Nat.reduceMul, Nat.reduceSub, Nat.zero_le, Nat.reduceLeDiff, Nat.reduceEqDiff, Nat.le_refl, not_false_eq_true, not_true_eq_false, false_implies, true_implies, forall_const, true_and, and_true, if_true, if_false, implies_true, and_self, ne_eq, false_and, and_false, or_false, false_or, true_or, or_true]
theorem c_forgive (c : CI M a ak img n b fl) (hw : Wf a) : mw (d + 8) 23 [.ref 0, .int x] M (fun o M' => o = .inl (some (.int (sLets a x).2)) ∧ Yc M (sLets a x).1 M') := by
  obtain ⟨t, ht⟩ : ∃ t : Nat, t = 3 := ⟨3, rfl⟩
  have hr : Rep M t a := by rw [ht]; exact c.rep
  have hT : TmR M t a := by rw [ht]; exact c.tm
  have p1 : gP M 0 1 = some t := by rw [ht]; exact c.sh.p1
  have k0 := c.sh.k0
  have hp9 := hw.p'
  have hf9 := hw.f'
  simp (disch := omega) only [m_23, q_aload0, q_aload0N, q_get_r, pTag_1, pRf_s, q_iload1, q_invv1, inv_1, q_iret, e_23_0, k_some, k_none, pRm_i, pRm_r, pRm_0, pF_1, pF_2, inv_s, k0, p1, hr.sh.k0, hr.nt, hr.ne, hr.nr, hr.nx, hr.day, hr.law, hr.sh.p0, hr.sh.p1, hr.sh.p2, hr.sh.p3, hr.sh.p4, hr.sh.p5, hr.sh.p6, hr.sh.p7, hr.sh.p8, nN_le, nN_lt, nN_eq, nN_add, nN_mul, nN_lt0, nN_ge0, nN_gt0, nN_le0, nN_eq0, nN_eq1, nN_neN, pIn_n, pIx_n, eq_self, Nat.reduceLT, Bool.false_eq_true, Nat.add_zero, Nat.zero_add, Nat.reduceAdd, Nat.reduceMul, Nat.reduceSub, Nat.zero_le, Nat.reduceLeDiff, Nat.reduceEqDiff, Nat.le_refl, not_false_eq_true, not_true_eq_false, false_implies, true_implies, forall_const, true_and, and_true, if_true, if_false, implies_true, and_self, ne_eq, false_and, and_false, or_false, false_or, true_or, or_true]
  refine mw_mono (w_letGo hr hw) ?_
  rintro _ M1 ⟨rfl, R1, A1⟩
  simp only [q_aload0, q_aload0N, q_get_r, pTag_1, pRf_s, q_iload1, q_invv1, inv_1, q_iret, e_23_0, k_some, k_none, pRm_i, pRm_r, pRm_0, pF_1, pF_2, inv_s, eq_self, Nat.reduceLT, Bool.false_eq_true, Nat.add_zero, Nat.zero_add, Nat.reduceAdd, Nat.reduceMul, Nat.reduceSub, Nat.zero_le, Nat.reduceLeDiff, Nat.reduceEqDiff, Nat.le_refl, not_false_eq_true, not_true_eq_false, false_implies, true_implies, forall_const, true_and, and_true, if_true, if_false, implies_true, and_self, ne_eq, false_and, and_false, or_false, false_or, true_or, or_true]
  rw [ht] at A1 R1
  exact Yc.of c A1 R1 ((sLets_ok hw).2.1 2 (by omega)) (sLets_ok hw).2.2
theorem c_days (c : CI M a ak img n b fl) (hw : Wf a) (h1 : 1 ≤ g) (h2 : g ≤ 99) : mw (d + 8) 10 [.ref 0, .int (nN g)] M (fun o M' => o = .inl (some (.int (sDays a (nN g)).2)) ∧ Yc M (sDays a (nN g)).1 M') := by
  obtain ⟨t, ht⟩ : ∃ t : Nat, t = 3 := ⟨3, rfl⟩
  have hr : Rep M t a := by rw [ht]; exact c.rep
  have hT : TmR M t a := by rw [ht]; exact c.tm
  have p1 : gP M 0 1 = some t := by rw [ht]; exact c.sh.p1
  have k0 := c.sh.k0
  have hp9 := hw.p'
  have hf9 := hw.f'
  have e1 : ¬ g < 1 := by omega
  simp (disch := omega) only [m_10, q_iload1, q_iconst, q_ic_lt, q_bipush, q_ic_le, q_nop, q_thr, q_aload0, q_aload0N, q_get_r, pTag_1, pRf_s, q_invv1, inv_1, q_iret, e_10_0, e_10_1, e_10_2, L_1, L_99, k_some, k_none, pRm_i, pRm_r, pRm_0, pF_1, pF_2, inv_s, k0, p1, e1, h2, hr.sh.k0, hr.nt, hr.ne, hr.nr, hr.nx, hr.day, hr.law, hr.sh.p0, hr.sh.p1, hr.sh.p2, hr.sh.p3, hr.sh.p4, hr.sh.p5, hr.sh.p6, hr.sh.p7, hr.sh.p8, nN_le, nN_lt, nN_eq, nN_add, nN_mul, nN_lt0, nN_ge0, nN_gt0, nN_le0, nN_eq0, nN_eq1, nN_neN, pIn_n, pIx_n, eq_self, Nat.reduceLT, Bool.false_eq_true, Nat.add_zero, Nat.zero_add, Nat.reduceAdd, Nat.reduceMul, Nat.reduceSub, Nat.zero_le, Nat.reduceLeDiff, Nat.reduceEqDiff, Nat.le_refl, not_false_eq_true, not_true_eq_false, false_implies, true_implies, forall_const, true_and, and_true, if_true, if_false, implies_true, and_self, ne_eq, false_and, and_false, or_false, false_or, true_or, or_true]
  refine mw_mono (w_daysPass hr hw) ?_
  rintro _ M1 ⟨rfl, R1, A1⟩
  simp only [q_iload1, q_iconst, q_ic_lt, q_bipush, q_ic_le, q_nop, q_thr, q_aload0, q_aload0N, q_get_r, pTag_1, pRf_s, q_invv1, inv_1, q_iret, e_10_0, e_10_1, e_10_2, L_1, L_99, k_some, k_none, pRm_i, pRm_r, pRm_0, pF_1, pF_2, inv_s, eq_self, Nat.reduceLT, Bool.false_eq_true, Nat.add_zero, Nat.zero_add, Nat.reduceAdd, Nat.reduceMul, Nat.reduceSub, Nat.zero_le, Nat.reduceLeDiff, Nat.reduceEqDiff, Nat.le_refl, not_false_eq_true, not_true_eq_false, false_implies, true_implies, forall_const, true_and, and_true, if_true, if_false, implies_true, and_self, ne_eq, false_and, and_false, or_false, false_or, true_or, or_true]
  rw [ht] at A1 R1
  have G := (sDays_ok (n := nN g) hw).2
  exact Yc.of c A1 R1 ((G.1 2 (by omega)).trans (if_neg (by omega))) (fun j hj => (G.2 j hj).trans (if_neg (by omega)))
theorem c_days_n (h : ¬ Wh x) : mw (d + 1) 10 [.ref 0, .int x] M Q = Q (.inr 0) (nx M) := by
  rw [← Wh_eq] at h
  by_cases h1 : x < nN 1
  · simp (disch := omega) only [m_10, q_iload1, q_iconst, q_ic_lt, q_bipush, q_ic_le, q_nop, q_thr, q_aload0, q_aload0N, q_get_r, pTag_1, pRf_s, q_invv1, inv_1, q_iret, e_10_0, e_10_1, e_10_2, L_1, L_99, k_some, k_none, pRm_i, pRm_r, pRm_0, pF_1, pF_2, inv_s, h1, nN_le, nN_lt, nN_eq, nN_add, nN_mul, nN_lt0, nN_ge0, nN_gt0, nN_le0, nN_eq0, nN_eq1, nN_neN, pIn_n, pIx_n, eq_self, Nat.reduceLT, Bool.false_eq_true, Nat.add_zero, Nat.zero_add, Nat.reduceAdd, Nat.reduceMul, Nat.reduceSub, Nat.zero_le, Nat.reduceLeDiff, Nat.reduceEqDiff, Nat.le_refl, not_false_eq_true, not_true_eq_false, false_implies, true_implies, forall_const, true_and, and_true, if_true, if_false, implies_true, and_self, ne_eq, false_and, and_false, or_false, false_or, true_or, or_true]
  · have h2 : ¬ x ≤ nN 99 := fun z => h ⟨Int32.not_lt.mp h1, z⟩
    simp (disch := omega) only [m_10, q_iload1, q_iconst, q_ic_lt, q_bipush, q_ic_le, q_nop, q_thr, q_aload0, q_aload0N, q_get_r, pTag_1, pRf_s, q_invv1, inv_1, q_iret, e_10_0, e_10_1, e_10_2, L_1, L_99, k_some, k_none, pRm_i, pRm_r, pRm_0, pF_1, pF_2, inv_s, h1, h2, nN_le, nN_lt, nN_eq, nN_add, nN_mul, nN_lt0, nN_ge0, nN_gt0, nN_le0, nN_eq0, nN_eq1, nN_neN, pIn_n, pIx_n, eq_self, Nat.reduceLT, Bool.false_eq_true, Nat.add_zero, Nat.zero_add, Nat.reduceAdd, Nat.reduceMul, Nat.reduceSub, Nat.zero_le, Nat.reduceLeDiff, Nat.reduceEqDiff, Nat.le_refl, not_false_eq_true, not_true_eq_false, false_implies, true_implies, forall_const, true_and, and_true, if_true, if_false, implies_true, and_self, ne_eq, false_and, and_false, or_false, false_or, true_or, or_true]
theorem c_call (c : CI M a ak img n b fl) (hw : Wf a) (hf : f < nF a) : mw (d + 8) 9 [.ref 0, .int (nN f)] M (fun o M' => if fa a f 2 = iN (-1) then o = .inl (some (.int (iN (-1)))) ∧ Yc M a M' else o = .inl (some (.int (sWorth (fa a f 1) (fa a f 3)))) ∧ Yc M (sGone a f) M') := by
  obtain ⟨t, ht⟩ : ∃ t : Nat, t = 3 := ⟨3, rfl⟩
  have hr : Rep M t a := by rw [ht]; exact c.rep
  have hT : TmR M t a := by rw [ht]; exact c.tm
  have p1 : gP M 0 1 = some t := by rw [ht]; exact c.sh.p1
  have k0 := c.sh.k0
  have hp9 := hw.p'
  have hf9 := hw.f'
  simp (disch := omega) only [m_9, q_aload0, q_aload0N, q_iload1, q_invv1, inv_1, q_get_r, pTag_1, pRf_s, q_iret, e_9_0, k_some, k_none, pRm_i, pRm_r, pRm_0, pF_1, pF_2, inv_s, k0, p1, w_needF c hw, hr.sh.k0, hr.nt, hr.ne, hr.nr, hr.nx, hr.day, hr.law, hr.sh.p0, hr.sh.p1, hr.sh.p2, hr.sh.p3, hr.sh.p4, hr.sh.p5, hr.sh.p6, hr.sh.p7, hr.sh.p8, nN_le, nN_lt, nN_eq, nN_add, nN_mul, nN_lt0, nN_ge0, nN_gt0, nN_le0, nN_eq0, nN_eq1, nN_neN, pIn_n, pIx_n, eq_self, Nat.reduceLT, Bool.false_eq_true, Nat.add_zero, Nat.zero_add, Nat.reduceAdd, Nat.reduceMul, Nat.reduceSub, Nat.zero_le, Nat.reduceLeDiff, Nat.reduceEqDiff, Nat.le_refl, not_false_eq_true, not_true_eq_false, false_implies, true_implies, forall_const, true_and, and_true, if_true, if_false, implies_true, and_self, ne_eq, false_and, and_false, or_false, false_or, true_or, or_true]
  refine mw_mono (w_callIn hr hw hf) ?_
  rintro o M1 h
  by_cases e : fa a f 2 = iN (-1)
  · rw [if_pos e] at h
    obtain ⟨rfl, R1, A1⟩ := h
    simp only [q_aload0, q_aload0N, q_iload1, q_invv1, inv_1, q_get_r, pTag_1, pRf_s, q_iret, e_9_0, k_some, k_none, pRm_i, pRm_r, pRm_0, pF_1, pF_2, inv_s, e, eq_self, Nat.reduceLT, Bool.false_eq_true, Nat.add_zero, Nat.zero_add, Nat.reduceAdd, Nat.reduceMul, Nat.reduceSub, Nat.zero_le, Nat.reduceLeDiff, Nat.reduceEqDiff, Nat.le_refl, not_false_eq_true, not_true_eq_false, false_implies, true_implies, forall_const, true_and, and_true, if_true, if_false, implies_true, and_self, ne_eq, false_and, and_false, or_false, false_or, true_or, or_true]
    rw [ht] at A1 R1
    exact Yc.of c A1 R1 rfl (fun _ _ => rfl)
  · rw [if_neg e] at h
    obtain ⟨rfl, R1, A1⟩ := h
    simp only [q_aload0, q_aload0N, q_iload1, q_invv1, inv_1, q_get_r, pTag_1, pRf_s, q_iret, e_9_0, k_some, k_none, pRm_i, pRm_r, pRm_0, pF_1, pF_2, inv_s, e, eq_self, Nat.reduceLT, Bool.false_eq_true, Nat.add_zero, Nat.zero_add, Nat.reduceAdd, Nat.reduceMul, Nat.reduceSub, Nat.zero_le, Nat.reduceLeDiff, Nat.reduceEqDiff, Nat.le_refl, not_false_eq_true, not_true_eq_false, false_implies, true_implies, forall_const, true_and, and_true, if_true, if_false, implies_true, and_self, ne_eq, false_and, and_false, or_false, false_or, true_or, or_true]
    rw [ht] at A1 R1
    exact Yc.of c A1 R1 (sGone_lo (by omega)) (fun j hj => sGone_hi hj (by omega))
theorem c_call_n (c : CI M a ak img n b fl) (hw : Wf a) (hp : ¬ Ix (nF a) x) : mw (d + 6) 9 [.ref 0, .int x] M Q = Q (.inr 1) (nx M) := by
  have k0 := c.sh.k0
  simp (disch := omega) only [m_9, q_aload0, q_aload0N, q_iload1, q_invv1, inv_1, q_get_r, pTag_1, pRf_s, q_iret, e_9_0, k_some, k_none, pRm_i, pRm_r, pRm_0, pF_1, pF_2, inv_s, k0, w_needFn c hw hp, k_t10 hs_9, nN_le, nN_lt, nN_eq, nN_add, nN_mul, nN_lt0, nN_ge0, nN_gt0, nN_le0, nN_eq0, nN_eq1, nN_neN, pIn_n, pIx_n, eq_self, Nat.reduceLT, Bool.false_eq_true, Nat.add_zero, Nat.zero_add, Nat.reduceAdd, Nat.reduceMul, Nat.reduceSub, Nat.zero_le, Nat.reduceLeDiff, Nat.reduceEqDiff, Nat.le_refl, not_false_eq_true, not_true_eq_false, false_implies, true_implies, forall_const, true_and, and_true, if_true, if_false, implies_true, and_self, ne_eq, false_and, and_false, or_false, false_or, true_or, or_true]
theorem c_pass (c : CI M a ak img n b fl) (hw : Wf a) (hf : f < nF a) (hp : p < nP a) (hne : ¬ fa a f 2 = nN p) : mw (d + 11) 8 [.ref 0, .int (nN f), .int (nN p)] M (fun o M' => if sCanP a f p = true then o = .inl (some (.int (sPassV a f p))) ∧ Yc M (sPassA a f p) M' else o = .inl (some (.int (iN (-1)))) ∧ Yc M a M') := by
  obtain ⟨t, ht⟩ : ∃ t : Nat, t = 3 := ⟨3, rfl⟩
  have hr : Rep M t a := by rw [ht]; exact c.rep
  have hT : TmR M t a := by rw [ht]; exact c.tm
  have p1 : gP M 0 1 = some t := by rw [ht]; exact c.sh.p1
  have k0 := c.sh.k0
  have hp9 := hw.p'
  have hf9 := hw.f'
  simp (disch := omega) only [m_8, q_aload0, q_aload0N, q_iload1, q_invv1, inv_1, q_iload2, q_get_r, pTag_1, pRf_s, q_invs2_20, q_ic_ne, q_thr, q_invv2, q_iret, e_8_0, e_8_1, k_some, k_none, pRm_i, pRm_r, pRm_0, pF_1, pF_2, inv_s, k0, p1, w_needF c hw, w_needP c hw, hne, hr.sh.k7, hr.nf, hr.sh.r0, hr.sh.r1, hr.sh.r2, hr.sh.r3, hr.sh.r4, hr.sh.r5, hr.sh.r6, w_atN hr.sh.k8, w_atN hr.sh.k9, w_atN hr.sh.k10, w_atN hr.sh.k11, w_atN hr.sh.k12, w_atN hr.sh.k13, w_atN hr.sh.k14, hr.g, hr.h, hr.am, hr.hd, hr.en, hr.fc, hr.sh.k0, hr.nt, hr.ne, hr.nr, hr.nx, hr.day, hr.law, hr.sh.p0, hr.sh.p1, hr.sh.p2, hr.sh.p3, hr.sh.p4, hr.sh.p5, hr.sh.p6, hr.sh.p7, hr.sh.p8, nN_le, nN_lt, nN_eq, nN_add, nN_mul, nN_lt0, nN_ge0, nN_gt0, nN_le0, nN_eq0, nN_eq1, nN_neN, pIn_n, pIx_n, eq_self, Nat.reduceLT, Bool.false_eq_true, Nat.add_zero, Nat.zero_add, Nat.reduceAdd, Nat.reduceMul, Nat.reduceSub, Nat.zero_le, Nat.reduceLeDiff, Nat.reduceEqDiff, Nat.le_refl, not_false_eq_true, not_true_eq_false, false_implies, true_implies, forall_const, true_and, and_true, if_true, if_false, implies_true, and_self, ne_eq, false_and, and_false, or_false, false_or, true_or, or_true]
  refine mw_mono (w_pass hr hw hT (by omega) hf hp hne) ?_
  rintro o M1 h
  by_cases e : sCanP a f p = true
  · rw [if_pos e] at h
    obtain ⟨rfl, R1, A1⟩ := h
    simp only [q_aload0, q_aload0N, q_iload1, q_invv1, inv_1, q_iload2, q_get_r, pTag_1, pRf_s, q_invs2_20, q_ic_ne, q_thr, q_invv2, q_iret, e_8_0, e_8_1, k_some, k_none, pRm_i, pRm_r, pRm_0, pF_1, pF_2, inv_s, e, eq_self, Nat.reduceLT, Bool.false_eq_true, Nat.add_zero, Nat.zero_add, Nat.reduceAdd, Nat.reduceMul, Nat.reduceSub, Nat.zero_le, Nat.reduceLeDiff, Nat.reduceEqDiff, Nat.le_refl, not_false_eq_true, not_true_eq_false, false_implies, true_implies, forall_const, true_and, and_true, if_true, if_false, implies_true, and_self, ne_eq, false_and, and_false, or_false, false_or, true_or, or_true]
    rw [ht] at A1 R1
    have := (hw.fD f hf).1
    exact Yc.of c A1 R1 (sPassA_lo (by omega)) (fun j hj => sPassA_hi hj (by omega) (by omega))
  · rw [if_neg e] at h
    obtain ⟨rfl, R1, A1⟩ := h
    simp only [q_aload0, q_aload0N, q_iload1, q_invv1, inv_1, q_iload2, q_get_r, pTag_1, pRf_s, q_invs2_20, q_ic_ne, q_thr, q_invv2, q_iret, e_8_0, e_8_1, k_some, k_none, pRm_i, pRm_r, pRm_0, pF_1, pF_2, inv_s, e, eq_self, Nat.reduceLT, Bool.false_eq_true, Nat.add_zero, Nat.zero_add, Nat.reduceAdd, Nat.reduceMul, Nat.reduceSub, Nat.zero_le, Nat.reduceLeDiff, Nat.reduceEqDiff, Nat.le_refl, not_false_eq_true, not_true_eq_false, false_implies, true_implies, forall_const, true_and, and_true, if_true, if_false, implies_true, and_self, ne_eq, false_and, and_false, or_false, false_or, true_or, or_true]
    rw [ht] at A1 R1
    exact Yc.of c A1 R1 rfl (fun _ _ => rfl)
theorem c_pass_n1 (c : CI M a ak img n b fl) (hw : Wf a) (hp : ¬ Ix (nF a) x) : mw (d + 6) 8 [.ref 0, .int x, .int y] M Q = Q (.inr 1) (nx M) := by
  have k0 := c.sh.k0
  simp (disch := omega) only [m_8, q_aload0, q_aload0N, q_iload1, q_invv1, inv_1, q_iload2, q_get_r, pTag_1, pRf_s, q_invs2_20, q_ic_ne, q_thr, q_invv2, q_iret, e_8_0, e_8_1, k_some, k_none, pRm_i, pRm_r, pRm_0, pF_1, pF_2, inv_s, k0, w_needFn c hw hp, k_t10 hs_8, nN_le, nN_lt, nN_eq, nN_add, nN_mul, nN_lt0, nN_ge0, nN_gt0, nN_le0, nN_eq0, nN_eq1, nN_neN, pIn_n, pIx_n, eq_self, Nat.reduceLT, Bool.false_eq_true, Nat.add_zero, Nat.zero_add, Nat.reduceAdd, Nat.reduceMul, Nat.reduceSub, Nat.zero_le, Nat.reduceLeDiff, Nat.reduceEqDiff, Nat.le_refl, not_false_eq_true, not_true_eq_false, false_implies, true_implies, forall_const, true_and, and_true, if_true, if_false, implies_true, and_self, ne_eq, false_and, and_false, or_false, false_or, true_or, or_true]
theorem c_pass_n2 (c : CI M a ak img n b fl) (hw : Wf a) (hf : f < nF a) (hp : ¬ Ix (nP a) y) : mw (d + 6) 8 [.ref 0, .int (nN f), .int y] M Q = Q (.inr 1) (nx M) := by
  have k0 := c.sh.k0
  simp (disch := omega) only [m_8, q_aload0, q_aload0N, q_iload1, q_invv1, inv_1, q_iload2, q_get_r, pTag_1, pRf_s, q_invs2_20, q_ic_ne, q_thr, q_invv2, q_iret, e_8_0, e_8_1, k_some, k_none, pRm_i, pRm_r, pRm_0, pF_1, pF_2, inv_s, k0, w_needF c hw, w_needPn c hw hp, k_t10 hs_8, nN_le, nN_lt, nN_eq, nN_add, nN_mul, nN_lt0, nN_ge0, nN_gt0, nN_le0, nN_eq0, nN_eq1, nN_neN, pIn_n, pIx_n, eq_self, Nat.reduceLT, Bool.false_eq_true, Nat.add_zero, Nat.zero_add, Nat.reduceAdd, Nat.reduceMul, Nat.reduceSub, Nat.zero_le, Nat.reduceLeDiff, Nat.reduceEqDiff, Nat.le_refl, not_false_eq_true, not_true_eq_false, false_implies, true_implies, forall_const, true_and, and_true, if_true, if_false, implies_true, and_self, ne_eq, false_and, and_false, or_false, false_or, true_or, or_true]
theorem c_pass_n3 (c : CI M a ak img n b fl) (hw : Wf a) (hf : f < nF a) (hp : p < nP a) (he : fa a f 2 = nN p) : mw (d + 6) 8 [.ref 0, .int (nN f), .int (nN p)] M Q = Q (.inr 0) (nx M) := by
  obtain ⟨t, ht⟩ : ∃ t : Nat, t = 3 := ⟨3, rfl⟩
  have hr : Rep M t a := by rw [ht]; exact c.rep
  have hT : TmR M t a := by rw [ht]; exact c.tm
  have p1 : gP M 0 1 = some t := by rw [ht]; exact c.sh.p1
  have k0 := c.sh.k0
  have hp9 := hw.p'
  have hf9 := hw.f'
  simp (disch := omega) only [m_8, q_aload0, q_aload0N, q_iload1, q_invv1, inv_1, q_iload2, q_get_r, pTag_1, pRf_s, q_invs2_20, q_ic_ne, q_thr, q_invv2, q_iret, e_8_0, e_8_1, k_some, k_none, pRm_i, pRm_r, pRm_0, pF_1, pF_2, inv_s, k0, p1, w_needF c hw, w_needP c hw, he, hr.sh.k7, hr.nf, hr.sh.r0, hr.sh.r1, hr.sh.r2, hr.sh.r3, hr.sh.r4, hr.sh.r5, hr.sh.r6, w_atN hr.sh.k8, w_atN hr.sh.k9, w_atN hr.sh.k10, w_atN hr.sh.k11, w_atN hr.sh.k12, w_atN hr.sh.k13, w_atN hr.sh.k14, hr.g, hr.h, hr.am, hr.hd, hr.en, hr.fc, hr.sh.k0, hr.nt, hr.ne, hr.nr, hr.nx, hr.day, hr.law, hr.sh.p0, hr.sh.p1, hr.sh.p2, hr.sh.p3, hr.sh.p4, hr.sh.p5, hr.sh.p6, hr.sh.p7, hr.sh.p8, nN_le, nN_lt, nN_eq, nN_add, nN_mul, nN_lt0, nN_ge0, nN_gt0, nN_le0, nN_eq0, nN_eq1, nN_neN, pIn_n, pIx_n, eq_self, Nat.reduceLT, Bool.false_eq_true, Nat.add_zero, Nat.zero_add, Nat.reduceAdd, Nat.reduceMul, Nat.reduceSub, Nat.zero_le, Nat.reduceLeDiff, Nat.reduceEqDiff, Nat.le_refl, not_false_eq_true, not_true_eq_false, false_implies, true_implies, forall_const, true_and, and_true, if_true, if_false, implies_true, and_self, ne_eq, false_and, and_false, or_false, false_or, true_or, or_true]
theorem c_give (c : CI M a ak img n b fl) (hw : Wf a) (hd : DyO a) (hp : p < nP a) (hq : q < nP a) (hne : p ≠ q) (h1 : 1 ≤ g) (h2 : g ≤ 99) (hdd : dd < 100) : mw (d + 11) 7 [.ref 0, .int (nN p), .int (nN q), .int (nN g), .int (nN dd), .int (bI (fc = true))] M (fun o M' => if sCanGive a p q g dd fc = true then o = .inl (some (.int (nN (nF a)))) ∧ Yc M (gTail a p q g dd fc) M' else o = .inl (some (.int (iN (-1)))) ∧ Yc M a M') := by
  obtain ⟨t, ht⟩ : ∃ t : Nat, t = 3 := ⟨3, rfl⟩
  have hr : Rep M t a := by rw [ht]; exact c.rep
  have hT : TmR M t a := by rw [ht]; exact c.tm
  have p1 : gP M 0 1 = some t := by rw [ht]; exact c.sh.p1
  have k0 := c.sh.k0
  have hp9 := hw.p'
  have hf9 := hw.f'
  have e9 : dd ≤ 99 := by omega
  simp (disch := omega) only [m_7, q_aload0, q_aload0N, q_iload1, q_iload2, q_invv2, inv_1, q_iload3, q_invs1_20, q_iload4, q_if_lt, q_bipush, q_ic_le, q_nop, q_thr, q_get_r, pTag_1, pRf_s, q_iload5, q_invv5, q_iret, e_7_0, e_7_1, e_7_2, L_99, k_some, k_none, pRm_i, pRm_r, pRm_0, pF_1, pF_2, inv_s, k0, p1, w_need2 c hw, w_needW, e9, hr.sh.k0, hr.nt, hr.ne, hr.nr, hr.nx, hr.day, hr.law, hr.sh.p0, hr.sh.p1, hr.sh.p2, hr.sh.p3, hr.sh.p4, hr.sh.p5, hr.sh.p6, hr.sh.p7, hr.sh.p8, nN_le, nN_lt, nN_eq, nN_add, nN_mul, nN_lt0, nN_ge0, nN_gt0, nN_le0, nN_eq0, nN_eq1, nN_neN, pIn_n, pIx_n, eq_self, Nat.reduceLT, Bool.false_eq_true, Nat.add_zero, Nat.zero_add, Nat.reduceAdd, Nat.reduceMul, Nat.reduceSub, Nat.zero_le, Nat.reduceLeDiff, Nat.reduceEqDiff, Nat.le_refl, not_false_eq_true, not_true_eq_false, false_implies, true_implies, forall_const, true_and, and_true, if_true, if_false, implies_true, and_self, ne_eq, false_and, and_false, or_false, false_or, true_or, or_true]
  refine mw_mono (w_give hr hw hT hd (by omega) hp hq h1 h2 hdd hne) ?_
  rintro o M1 h
  by_cases e : sCanGive a p q g dd fc = true
  · rw [if_pos e] at h
    obtain ⟨rfl, R1, A1⟩ := h
    simp only [q_aload0, q_aload0N, q_iload1, q_iload2, q_invv2, inv_1, q_iload3, q_invs1_20, q_iload4, q_if_lt, q_bipush, q_ic_le, q_nop, q_thr, q_get_r, pTag_1, pRf_s, q_iload5, q_invv5, q_iret, e_7_0, e_7_1, e_7_2, L_99, k_some, k_none, pRm_i, pRm_r, pRm_0, pF_1, pF_2, inv_s, e, eq_self, Nat.reduceLT, Bool.false_eq_true, Nat.add_zero, Nat.zero_add, Nat.reduceAdd, Nat.reduceMul, Nat.reduceSub, Nat.zero_le, Nat.reduceLeDiff, Nat.reduceEqDiff, Nat.le_refl, not_false_eq_true, not_true_eq_false, false_implies, true_implies, forall_const, true_and, and_true, if_true, if_false, implies_true, and_self, ne_eq, false_and, and_false, or_false, false_or, true_or, or_true]
    rw [ht] at A1 R1
    exact Yc.of c A1 R1 (sGive_lo (by omega) (by omega)) (fun j hj => sGive_hi hj (sCan_lt e))
  · rw [if_neg e] at h
    obtain ⟨rfl, R1, A1⟩ := h
    simp only [q_aload0, q_aload0N, q_iload1, q_iload2, q_invv2, inv_1, q_iload3, q_invs1_20, q_iload4, q_if_lt, q_bipush, q_ic_le, q_nop, q_thr, q_get_r, pTag_1, pRf_s, q_iload5, q_invv5, q_iret, e_7_0, e_7_1, e_7_2, L_99, k_some, k_none, pRm_i, pRm_r, pRm_0, pF_1, pF_2, inv_s, e, eq_self, Nat.reduceLT, Bool.false_eq_true, Nat.add_zero, Nat.zero_add, Nat.reduceAdd, Nat.reduceMul, Nat.reduceSub, Nat.zero_le, Nat.reduceLeDiff, Nat.reduceEqDiff, Nat.le_refl, not_false_eq_true, not_true_eq_false, false_implies, true_implies, forall_const, true_and, and_true, if_true, if_false, implies_true, and_self, ne_eq, false_and, and_false, or_false, false_or, true_or, or_true]
    rw [ht] at A1 R1
    exact Yc.of c A1 R1 rfl (fun _ _ => rfl)
theorem c_give_n1 {v w : Int32} (c : CI M a ak img n b fl) (hw : Wf a) (hp : ¬ Ix (nP a) x) : mw (d + 8) 7 [.ref 0, .int x, .int y, .int z, .int v, .int w] M Q = Q (.inr 1) (nx M) := by
  have k0 := c.sh.k0
  simp (disch := omega) only [m_7, q_aload0, q_aload0N, q_iload1, q_iload2, q_invv2, inv_1, q_iload3, q_invs1_20, q_iload4, q_if_lt, q_bipush, q_ic_le, q_nop, q_thr, q_get_r, pTag_1, pRf_s, q_iload5, q_invv5, q_iret, e_7_0, e_7_1, e_7_2, L_99, k_some, k_none, pRm_i, pRm_r, pRm_0, pF_1, pF_2, inv_s, k0, w_need2a c hw hp, k_t10 hs_7, nN_le, nN_lt, nN_eq, nN_add, nN_mul, nN_lt0, nN_ge0, nN_gt0, nN_le0, nN_eq0, nN_eq1, nN_neN, pIn_n, pIx_n, eq_self, Nat.reduceLT, Bool.false_eq_true, Nat.add_zero, Nat.zero_add, Nat.reduceAdd, Nat.reduceMul, Nat.reduceSub, Nat.zero_le, Nat.reduceLeDiff, Nat.reduceEqDiff, Nat.le_refl, not_false_eq_true, not_true_eq_false, false_implies, true_implies, forall_const, true_and, and_true, if_true, if_false, implies_true, and_self, ne_eq, false_and, and_false, or_false, false_or, true_or, or_true]
theorem c_give_n2 {v w : Int32} (c : CI M a ak img n b fl) (hw : Wf a) (hp : p < nP a) (hq : ¬ Ix (nP a) y) : mw (d + 8) 7 [.ref 0, .int (nN p), .int y, .int z, .int v, .int w] M Q = Q (.inr 1) (nx M) := by
  have k0 := c.sh.k0
  simp (disch := omega) only [m_7, q_aload0, q_aload0N, q_iload1, q_iload2, q_invv2, inv_1, q_iload3, q_invs1_20, q_iload4, q_if_lt, q_bipush, q_ic_le, q_nop, q_thr, q_get_r, pTag_1, pRf_s, q_iload5, q_invv5, q_iret, e_7_0, e_7_1, e_7_2, L_99, k_some, k_none, pRm_i, pRm_r, pRm_0, pF_1, pF_2, inv_s, k0, w_need2b c hw hp hq, k_t10 hs_7, nN_le, nN_lt, nN_eq, nN_add, nN_mul, nN_lt0, nN_ge0, nN_gt0, nN_le0, nN_eq0, nN_eq1, nN_neN, pIn_n, pIx_n, eq_self, Nat.reduceLT, Bool.false_eq_true, Nat.add_zero, Nat.zero_add, Nat.reduceAdd, Nat.reduceMul, Nat.reduceSub, Nat.zero_le, Nat.reduceLeDiff, Nat.reduceEqDiff, Nat.le_refl, not_false_eq_true, not_true_eq_false, false_implies, true_implies, forall_const, true_and, and_true, if_true, if_false, implies_true, and_self, ne_eq, false_and, and_false, or_false, false_or, true_or, or_true]
theorem c_give_n3 {v w : Int32} (c : CI M a ak img n b fl) (hw : Wf a) (hp : p < nP a) : mw (d + 8) 7 [.ref 0, .int (nN p), .int (nN p), .int z, .int v, .int w] M Q = Q (.inr 0) (nx M) := by
  have k0 := c.sh.k0
  simp (disch := omega) only [m_7, q_aload0, q_aload0N, q_iload1, q_iload2, q_invv2, inv_1, q_iload3, q_invs1_20, q_iload4, q_if_lt, q_bipush, q_ic_le, q_nop, q_thr, q_get_r, pTag_1, pRf_s, q_iload5, q_invv5, q_iret, e_7_0, e_7_1, e_7_2, L_99, k_some, k_none, pRm_i, pRm_r, pRm_0, pF_1, pF_2, inv_s, k0, w_need2c c hw hp, k_t10 hs_7, nN_le, nN_lt, nN_eq, nN_add, nN_mul, nN_lt0, nN_ge0, nN_gt0, nN_le0, nN_eq0, nN_eq1, nN_neN, pIn_n, pIx_n, eq_self, Nat.reduceLT, Bool.false_eq_true, Nat.add_zero, Nat.zero_add, Nat.reduceAdd, Nat.reduceMul, Nat.reduceSub, Nat.zero_le, Nat.reduceLeDiff, Nat.reduceEqDiff, Nat.le_refl, not_false_eq_true, not_true_eq_false, false_implies, true_implies, forall_const, true_and, and_true, if_true, if_false, implies_true, and_self, ne_eq, false_and, and_false, or_false, false_or, true_or, or_true]
theorem c_give_n4 {v w : Int32} (c : CI M a ak img n b fl) (hw : Wf a) (hp : p < nP a) (hq : q < nP a) (hne : p ≠ q) (hz : ¬ Wh z) : mw (d + 8) 7 [.ref 0, .int (nN p), .int (nN q), .int z, .int v, .int w] M Q = Q (.inr 0) (nx M) := by
  have k0 := c.sh.k0
  simp (disch := omega) only [m_7, q_aload0, q_aload0N, q_iload1, q_iload2, q_invv2, inv_1, q_iload3, q_invs1_20, q_iload4, q_if_lt, q_bipush, q_ic_le, q_nop, q_thr, q_get_r, pTag_1, pRf_s, q_iload5, q_invv5, q_iret, e_7_0, e_7_1, e_7_2, L_99, k_some, k_none, pRm_i, pRm_r, pRm_0, pF_1, pF_2, inv_s, k0, w_need2 c hw hp hq hne, w_needWn hz, k_t20 hs_7, nN_le, nN_lt, nN_eq, nN_add, nN_mul, nN_lt0, nN_ge0, nN_gt0, nN_le0, nN_eq0, nN_eq1, nN_neN, pIn_n, pIx_n, eq_self, Nat.reduceLT, Bool.false_eq_true, Nat.add_zero, Nat.zero_add, Nat.reduceAdd, Nat.reduceMul, Nat.reduceSub, Nat.zero_le, Nat.reduceLeDiff, Nat.reduceEqDiff, Nat.le_refl, not_false_eq_true, not_true_eq_false, false_implies, true_implies, forall_const, true_and, and_true, if_true, if_false, implies_true, and_self, ne_eq, false_and, and_false, or_false, false_or, true_or, or_true]
theorem c_give_n5 {v w : Int32} (c : CI M a ak img n b fl) (hw : Wf a) (hp : p < nP a) (hq : q < nP a) (hne : p ≠ q) (h1 : 1 ≤ g) (h2 : g ≤ 99) (hv : ¬ (0 ≤ v ∧ v ≤ nN 99)) : mw (d + 8) 7 [.ref 0, .int (nN p), .int (nN q), .int (nN g), .int v, .int w] M Q = Q (.inr 0) (nx M) := by
  have k0 := c.sh.k0
  by_cases e : v < 0
  · simp (disch := omega) only [m_7, q_aload0, q_aload0N, q_iload1, q_iload2, q_invv2, inv_1, q_iload3, q_invs1_20, q_iload4, q_if_lt, q_bipush, q_ic_le, q_nop, q_thr, q_get_r, pTag_1, pRf_s, q_iload5, q_invv5, q_iret, e_7_0, e_7_1, e_7_2, L_99, k_some, k_none, pRm_i, pRm_r, pRm_0, pF_1, pF_2, inv_s, k0, w_need2 c hw hp hq hne, w_needW, e, nN_le, nN_lt, nN_eq, nN_add, nN_mul, nN_lt0, nN_ge0, nN_gt0, nN_le0, nN_eq0, nN_eq1, nN_neN, pIn_n, pIx_n, eq_self, Nat.reduceLT, Bool.false_eq_true, Nat.add_zero, Nat.zero_add, Nat.reduceAdd, Nat.reduceMul, Nat.reduceSub, Nat.zero_le, Nat.reduceLeDiff, Nat.reduceEqDiff, Nat.le_refl, not_false_eq_true, not_true_eq_false, false_implies, true_implies, forall_const, true_and, and_true, if_true, if_false, implies_true, and_self, ne_eq, false_and, and_false, or_false, false_or, true_or, or_true]
  · have e2 : ¬ v ≤ nN 99 := fun z => hv ⟨Int32.not_lt.mp e, z⟩
    simp (disch := omega) only [m_7, q_aload0, q_aload0N, q_iload1, q_iload2, q_invv2, inv_1, q_iload3, q_invs1_20, q_iload4, q_if_lt, q_bipush, q_ic_le, q_nop, q_thr, q_get_r, pTag_1, pRf_s, q_iload5, q_invv5, q_iret, e_7_0, e_7_1, e_7_2, L_99, k_some, k_none, pRm_i, pRm_r, pRm_0, pF_1, pF_2, inv_s, k0, w_need2 c hw hp hq hne, w_needW, e, e2, nN_le, nN_lt, nN_eq, nN_add, nN_mul, nN_lt0, nN_ge0, nN_gt0, nN_le0, nN_eq0, nN_eq1, nN_neN, pIn_n, pIx_n, eq_self, Nat.reduceLT, Bool.false_eq_true, Nat.add_zero, Nat.zero_add, Nat.reduceAdd, Nat.reduceMul, Nat.reduceSub, Nat.zero_le, Nat.reduceLeDiff, Nat.reduceEqDiff, Nat.le_refl, not_false_eq_true, not_true_eq_false, false_implies, true_implies, forall_const, true_and, and_true, if_true, if_false, implies_true, and_self, ne_eq, false_and, and_false, or_false, false_or, true_or, or_true]
theorem c_meet (c : CI M a ak img n b fl) (hw : Wf a) (hd : DyO a) (hf : f < nE a) : mw (d + 14) 19 [.ref 0, .int (nN f)] M (fun o M' => o = .inl (some (.int (sSet a (eN a f 0) (eN a f 1) (eN a f 2)).2)) ∧ Yc M (sSet a (eN a f 0) (eN a f 1) (eN a f 2)).1 M') := by
  obtain ⟨t, ht⟩ : ∃ t : Nat, t = 3 := ⟨3, rfl⟩
  have hr : Rep M t a := by rw [ht]; exact c.rep
  have hT : TmR M t a := by rw [ht]; exact c.tm
  have p1 : gP M 0 1 = some t := by rw [ht]; exact c.sh.p1
  have k0 := c.sh.k0
  have hp9 := hw.p'
  have hf9 := hw.f'
  have hn' := hw.n'
  obtain ⟨⟨h1, h2, h3, h4, h5⟩, h6, h7, h8⟩ := eN_ok hw hf
  have g1 := hr.nb f hf
  have g2 := hr.no f hf
  have g3 := hr.nw f hf
  rw [h6] at g1
  rw [h7] at g2
  rw [h8] at g3
  simp (disch := omega) only [m_19, q_aload0, q_aload0N, q_iload1, q_invv1, inv_1, q_get_r, pTag_1, pRf_s, q_invs2_20, q_invv3, q_iret, e_19_0, k_some, k_none, pRm_i, pRm_r, pRm_0, pF_1, pF_2, inv_s, k0, p1, w_needN c hw, hr.sh.k0, hr.nt, hr.ne, hr.nr, hr.nx, hr.day, hr.law, hr.sh.p0, hr.sh.p1, hr.sh.p2, hr.sh.p3, hr.sh.p4, hr.sh.p5, hr.sh.p6, hr.sh.p7, hr.sh.p8, w_atN hr.sh.k17, w_atN hr.sh.k18, w_atN hr.sh.k19, g1, g2, g3, nN_le, nN_lt, nN_eq, nN_add, nN_mul, nN_lt0, nN_ge0, nN_gt0, nN_le0, nN_eq0, nN_eq1, nN_neN, pIn_n, pIx_n, eq_self, Nat.reduceLT, Bool.false_eq_true, Nat.add_zero, Nat.zero_add, Nat.reduceAdd, Nat.reduceMul, Nat.reduceSub, Nat.zero_le, Nat.reduceLeDiff, Nat.reduceEqDiff, Nat.le_refl, not_false_eq_true, not_true_eq_false, false_implies, true_implies, forall_const, true_and, and_true, if_true, if_false, implies_true, and_self, ne_eq, false_and, and_false, or_false, false_or, true_or, or_true]
  refine mw_mono (w_settle hr hw hT hd (by omega) h1 h2 h4 h5 h3) ?_
  rintro _ M1 ⟨rfl, R1, A1⟩
  simp only [q_aload0, q_aload0N, q_iload1, q_invv1, inv_1, q_get_r, pTag_1, pRf_s, q_invs2_20, q_invv3, q_iret, e_19_0, k_some, k_none, pRm_i, pRm_r, pRm_0, pF_1, pF_2, inv_s, eq_self, Nat.reduceLT, Bool.false_eq_true, Nat.add_zero, Nat.zero_add, Nat.reduceAdd, Nat.reduceMul, Nat.reduceSub, Nat.zero_le, Nat.reduceLeDiff, Nat.reduceEqDiff, Nat.le_refl, not_false_eq_true, not_true_eq_false, false_implies, true_implies, forall_const, true_and, and_true, if_true, if_false, implies_true, and_self, ne_eq, false_and, and_false, or_false, false_or, true_or, or_true]
  rw [ht] at A1 R1
  refine Yc.of c A1 R1 ?_ ?_
  · unfold sSet
    split
    · exact sCome_lo (by omega)
    · split
      · show gTail a _ _ _ 0 false 2 = a 2
        exact sGive_lo (by omega) (by omega)
      · rfl
  · intro j hj
    unfold sSet
    split
    · rename_i f9 hf9
      have := sPays_ok hf9
      have := (hw.fD f9 this.1).1
      exact sCome_hi hj (by omega) (by omega)
    · split
      · rename_i h9
        exact sGive_hi hj (sCan_lt h9)
      · rfl
theorem c_meet_n (c : CI M a ak img n b fl) (hw : Wf a) (hp : ¬ Ix (nE a) x) : mw (d + 6) 19 [.ref 0, .int x] M Q = Q (.inr 1) (nx M) := by
  have k0 := c.sh.k0
  simp (disch := omega) only [m_19, q_aload0, q_aload0N, q_iload1, q_invv1, inv_1, q_get_r, pTag_1, pRf_s, q_invs2_20, q_invv3, q_iret, e_19_0, k_some, k_none, pRm_i, pRm_r, pRm_0, pF_1, pF_2, inv_s, k0, w_needNn c hw hp, k_t10 hs_19, nN_le, nN_lt, nN_eq, nN_add, nN_mul, nN_lt0, nN_ge0, nN_gt0, nN_le0, nN_eq0, nN_eq1, nN_neN, pIn_n, pIx_n, eq_self, Nat.reduceLT, Bool.false_eq_true, Nat.add_zero, Nat.zero_add, Nat.reduceAdd, Nat.reduceMul, Nat.reduceSub, Nat.zero_le, Nat.reduceLeDiff, Nat.reduceEqDiff, Nat.le_refl, not_false_eq_true, not_true_eq_false, false_implies, true_implies, forall_const, true_and, and_true, if_true, if_false, implies_true, and_self, ne_eq, false_and, and_false, or_false, false_or, true_or, or_true]
end PV
