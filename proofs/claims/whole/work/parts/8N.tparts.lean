/-! THE CLASS READS LINES OF THE TOWN: the parts behind a verb -/
def XP (h k : Nat) : Prop := h = 69 ∧ 6 ≤ k ∧ k ≠ 10 ∧ k ≠ 11
/-- where the parts lie -/
def FdA (M : pMem) (v : Nat) (l : List Nat) : Prop :=
  if v = 1000 ∨ v = 1002 ∨ v = 1006 then gI M 69 15 = nN (l.getD 0 0)
  else if v = 1001 then gI M 69 13 = nN (l.getD 0 0) ∧ gI M 69 14 = nN (l.getD 1 0)
  else if v = 1003 then gI M 69 13 = nN (l.getD 0 0) ∧ gI M 69 14 = nN (l.getD 1 0) ∧ gI M 69 15 = nN (l.getD 2 0) ∧ gI M 69 16 = nN (l.getD 3 0) ∧ gI M 69 17 = nN (l.getD 4 0)
  else if v = 1004 then gI M 69 12 = nN (l.getD 0 0) ∧ gI M 69 13 = nN (l.getD 1 0)
  else if v = 1005 then gI M 69 12 = nN (l.getD 0 0)
  else gI M 69 13 = nN (l.getD 0 0) ∧ gI M 69 14 = nN (l.getD 1 0) ∧ gI M 69 15 = nN (l.getD 2 0)
/-- how the reading of parts ends -/
def TnP (t n : Nat) (b : Nat → Nat) (a : Nat → Int32) (v : Nat) (r : pAg) (o : pOut) (M' : pMem) : Prop := match r with
  | .inl e => o = .inl (some (.int (nN 0))) ∧ gI M' 69 9 = nN e
  | .inr s => o = .inl (some (.int (nN 1))) ∧ TnS M' t n b s.1 a ∧ FdA M' v s.2
section TPt
variable {d t n u q m c s p x y v k K lo f : Nat} {a a' ak : Nat → Int32} {b b' : Nat → Nat} {M M1 M2 M3 M' : pMem} {Q : pOut → pMem → Prop} {hi : Int32}
theorem XF_P (hf : 12 ≤ f) : ∀ h k, XF9 f h k → XP h k := fun h k z => ⟨z.1, by have := z.2; omega, by have := z.2; omega, by have := z.2; omega⟩
theorem RdY_P : ∀ h k, RdY 69 h k → XP h k := fun h k z => ⟨z.1, by have := z.2; omega, by have := z.2; omega, by have := z.2; omega⟩
theorem nm99 : ∀ v, v ≤ 3001 → ((nN v ≤ nN 99) = (v < 100)) := fun v hv => by rw [nN_le (by omega) (by omega)]; exact propext ⟨fun h => by omega, fun h => by omega⟩
theorem nm999 : ∀ v, v ≤ 3001 → ((nN v ≤ nN 999) = (v < 1000)) := fun v hv => by rw [nN_le (by omega) (by omega)]; exact propext ⟨fun h => by omega, fun h => by omega⟩
theorem nm10 : ∀ v, v ≤ 3001 → ((nN v ≤ nN 10) = (v < 11)) := fun v hv => by rw [nN_le (by omega) (by omega)]; exact propext ⟨fun h => by omega, fun h => by omega⟩
theorem sw244_1000 (hk : (gS M 69).1 = 10) (hv : gI M 69 11 = nN 1000) : mw (d + 1) 244 [.ref 69] M Q = bw d 244 1 ([some (.ref 69)], [], M) Q := by
  simp (disch := omega) only [m_244, q_aload0, q_aload0N, q_get_i, pTag_1, pRf_s, q_table, q_iconst, q_sipush, q_invv2, inv_1, q_zret, q_invv0, q_if_eq, q_goto, q_nop, q_bipush, q_invv1, e_244_0, L_0, L_1, L_10, L_99, L_999, L_1008, L_1009, k_some, k_none, pRm_i, pRm_r, pRm_0, pF_1, pF_2, inv_s, hk, hv, nN_toInt, eq_self, Nat.reduceLT, Bool.false_eq_true, Nat.add_zero, Nat.zero_add, Nat.reduceAdd, Nat.reduceMul, Nat.reduceSub, Nat.zero_le, Nat.reduceLeDiff, Nat.reduceEqDiff, Nat.le_refl, not_false_eq_true, not_true_eq_false, false_implies, true_implies, forall_const, true_and, and_true, if_true, if_false, implies_true, and_self, ne_eq, false_and, and_false, or_false, false_or, true_or, or_true]
  simp [swt]
theorem sw244_1001 (hk : (gS M 69).1 = 10) (hv : gI M 69 11 = nN 1001) : mw (d + 1) 244 [.ref 69] M Q = bw d 244 2 ([some (.ref 69)], [], M) Q := by
  simp (disch := omega) only [m_244, q_aload0, q_aload0N, q_get_i, pTag_1, pRf_s, q_table, q_iconst, q_sipush, q_invv2, inv_1, q_zret, q_invv0, q_if_eq, q_goto, q_nop, q_bipush, q_invv1, e_244_0, L_0, L_1, L_10, L_99, L_999, L_1008, L_1009, k_some, k_none, pRm_i, pRm_r, pRm_0, pF_1, pF_2, inv_s, hk, hv, nN_toInt, eq_self, Nat.reduceLT, Bool.false_eq_true, Nat.add_zero, Nat.zero_add, Nat.reduceAdd, Nat.reduceMul, Nat.reduceSub, Nat.zero_le, Nat.reduceLeDiff, Nat.reduceEqDiff, Nat.le_refl, not_false_eq_true, not_true_eq_false, false_implies, true_implies, forall_const, true_and, and_true, if_true, if_false, implies_true, and_self, ne_eq, false_and, and_false, or_false, false_or, true_or, or_true]
  simp [swt]
theorem sw244_1002 (hk : (gS M 69).1 = 10) (hv : gI M 69 11 = nN 1002) : mw (d + 1) 244 [.ref 69] M Q = bw d 244 5 ([some (.ref 69)], [], M) Q := by
  simp (disch := omega) only [m_244, q_aload0, q_aload0N, q_get_i, pTag_1, pRf_s, q_table, q_iconst, q_sipush, q_invv2, inv_1, q_zret, q_invv0, q_if_eq, q_goto, q_nop, q_bipush, q_invv1, e_244_0, L_0, L_1, L_10, L_99, L_999, L_1008, L_1009, k_some, k_none, pRm_i, pRm_r, pRm_0, pF_1, pF_2, inv_s, hk, hv, nN_toInt, eq_self, Nat.reduceLT, Bool.false_eq_true, Nat.add_zero, Nat.zero_add, Nat.reduceAdd, Nat.reduceMul, Nat.reduceSub, Nat.zero_le, Nat.reduceLeDiff, Nat.reduceEqDiff, Nat.le_refl, not_false_eq_true, not_true_eq_false, false_implies, true_implies, forall_const, true_and, and_true, if_true, if_false, implies_true, and_self, ne_eq, false_and, and_false, or_false, false_or, true_or, or_true]
  simp [swt]
theorem sw244_1003 (hk : (gS M 69).1 = 10) (hv : gI M 69 11 = nN 1003) : mw (d + 1) 244 [.ref 69] M Q = bw d 244 6 ([some (.ref 69)], [], M) Q := by
  simp (disch := omega) only [m_244, q_aload0, q_aload0N, q_get_i, pTag_1, pRf_s, q_table, q_iconst, q_sipush, q_invv2, inv_1, q_zret, q_invv0, q_if_eq, q_goto, q_nop, q_bipush, q_invv1, e_244_0, L_0, L_1, L_10, L_99, L_999, L_1008, L_1009, k_some, k_none, pRm_i, pRm_r, pRm_0, pF_1, pF_2, inv_s, hk, hv, nN_toInt, eq_self, Nat.reduceLT, Bool.false_eq_true, Nat.add_zero, Nat.zero_add, Nat.reduceAdd, Nat.reduceMul, Nat.reduceSub, Nat.zero_le, Nat.reduceLeDiff, Nat.reduceEqDiff, Nat.le_refl, not_false_eq_true, not_true_eq_false, false_implies, true_implies, forall_const, true_and, and_true, if_true, if_false, implies_true, and_self, ne_eq, false_and, and_false, or_false, false_or, true_or, or_true]
  simp [swt]
theorem sw244_1004 (hk : (gS M 69).1 = 10) (hv : gI M 69 11 = nN 1004) : mw (d + 1) 244 [.ref 69] M Q = bw d 244 7 ([some (.ref 69)], [], M) Q := by
  simp (disch := omega) only [m_244, q_aload0, q_aload0N, q_get_i, pTag_1, pRf_s, q_table, q_iconst, q_sipush, q_invv2, inv_1, q_zret, q_invv0, q_if_eq, q_goto, q_nop, q_bipush, q_invv1, e_244_0, L_0, L_1, L_10, L_99, L_999, L_1008, L_1009, k_some, k_none, pRm_i, pRm_r, pRm_0, pF_1, pF_2, inv_s, hk, hv, nN_toInt, eq_self, Nat.reduceLT, Bool.false_eq_true, Nat.add_zero, Nat.zero_add, Nat.reduceAdd, Nat.reduceMul, Nat.reduceSub, Nat.zero_le, Nat.reduceLeDiff, Nat.reduceEqDiff, Nat.le_refl, not_false_eq_true, not_true_eq_false, false_implies, true_implies, forall_const, true_and, and_true, if_true, if_false, implies_true, and_self, ne_eq, false_and, and_false, or_false, false_or, true_or, or_true]
  simp [swt]
theorem sw244_1005 (hk : (gS M 69).1 = 10) (hv : gI M 69 11 = nN 1005) : mw (d + 1) 244 [.ref 69] M Q = bw d 244 10 ([some (.ref 69)], [], M) Q := by
  simp (disch := omega) only [m_244, q_aload0, q_aload0N, q_get_i, pTag_1, pRf_s, q_table, q_iconst, q_sipush, q_invv2, inv_1, q_zret, q_invv0, q_if_eq, q_goto, q_nop, q_bipush, q_invv1, e_244_0, L_0, L_1, L_10, L_99, L_999, L_1008, L_1009, k_some, k_none, pRm_i, pRm_r, pRm_0, pF_1, pF_2, inv_s, hk, hv, nN_toInt, eq_self, Nat.reduceLT, Bool.false_eq_true, Nat.add_zero, Nat.zero_add, Nat.reduceAdd, Nat.reduceMul, Nat.reduceSub, Nat.zero_le, Nat.reduceLeDiff, Nat.reduceEqDiff, Nat.le_refl, not_false_eq_true, not_true_eq_false, false_implies, true_implies, forall_const, true_and, and_true, if_true, if_false, implies_true, and_self, ne_eq, false_and, and_false, or_false, false_or, true_or, or_true]
  simp [swt]
theorem sw244_1006 (hk : (gS M 69).1 = 10) (hv : gI M 69 11 = nN 1006) : mw (d + 1) 244 [.ref 69] M Q = bw d 244 11 ([some (.ref 69)], [], M) Q := by
  simp (disch := omega) only [m_244, q_aload0, q_aload0N, q_get_i, pTag_1, pRf_s, q_table, q_iconst, q_sipush, q_invv2, inv_1, q_zret, q_invv0, q_if_eq, q_goto, q_nop, q_bipush, q_invv1, e_244_0, L_0, L_1, L_10, L_99, L_999, L_1008, L_1009, k_some, k_none, pRm_i, pRm_r, pRm_0, pF_1, pF_2, inv_s, hk, hv, nN_toInt, eq_self, Nat.reduceLT, Bool.false_eq_true, Nat.add_zero, Nat.zero_add, Nat.reduceAdd, Nat.reduceMul, Nat.reduceSub, Nat.zero_le, Nat.reduceLeDiff, Nat.reduceEqDiff, Nat.le_refl, not_false_eq_true, not_true_eq_false, false_implies, true_implies, forall_const, true_and, and_true, if_true, if_false, implies_true, and_self, ne_eq, false_and, and_false, or_false, false_or, true_or, or_true]
  simp [swt]
theorem sw244_1007 (hk : (gS M 69).1 = 10) (hv : gI M 69 11 = nN 1007) : mw (d + 1) 244 [.ref 69] M Q = bw d 244 12 ([some (.ref 69)], [], M) Q := by
  simp (disch := omega) only [m_244, q_aload0, q_aload0N, q_get_i, pTag_1, pRf_s, q_table, q_iconst, q_sipush, q_invv2, inv_1, q_zret, q_invv0, q_if_eq, q_goto, q_nop, q_bipush, q_invv1, e_244_0, L_0, L_1, L_10, L_99, L_999, L_1008, L_1009, k_some, k_none, pRm_i, pRm_r, pRm_0, pF_1, pF_2, inv_s, hk, hv, nN_toInt, eq_self, Nat.reduceLT, Bool.false_eq_true, Nat.add_zero, Nat.zero_add, Nat.reduceAdd, Nat.reduceMul, Nat.reduceSub, Nat.zero_le, Nat.reduceLeDiff, Nat.reduceEqDiff, Nat.le_refl, not_false_eq_true, not_true_eq_false, false_implies, true_implies, forall_const, true_and, and_true, if_true, if_false, implies_true, and_self, ne_eq, false_and, and_false, or_false, false_or, true_or, or_true]
  simp [swt]
theorem p_1000 (h : TnS M t n b q a) (hw : Wf a) (hv : gI M 69 11 = nN 1000) : mw (d + 5) 244 [.ref 69] M (fun o M' => TnP t n b a 1000 (pAr (th uW n b) (nx9 n b) (nP a) (nF a) 1000 q) o M' ∧ Ag XP M M') := by
  have hp' := hw.p'
  have hf' := hw.f'
  have hn := h.rc.n9
  have k0 := h.k
  have z0 := h.ht
  rw [show pAr (th uW n b) (nx9 n b) (nP a) (nF a) 1000 q = (pnm (th uW n b) (nx9 n b) 0 1000 q fun x q => .inr (q, [x])) from rfl]
  rw [sw244_1000 k0 hv, e_244_1]
  simp (disch := omega) only [q_aload0, q_aload0N, q_get_i, pTag_1, pRf_s, q_table, q_iconst, q_sipush, q_invv2, inv_1, q_zret, q_invv0, q_if_eq, q_goto, q_nop, q_bipush, q_invv1, L_0, L_1, L_10, L_99, L_999, L_1008, L_1009, k_some, k_none, pRm_i, pRm_r, pRm_0, pF_1, pF_2, inv_s, k0, pF_2, nN_le, nN_lt, nN_eq, nN_add, nN_mul, nN_lt0, nN_ge0, nN_gt0, nN_le0, nN_eq0, nN_eq1, nN_neN, pIn_n, pIx_n, eq_self, Nat.reduceLT, Bool.false_eq_true, Nat.add_zero, Nat.zero_add, Nat.reduceAdd, Nat.reduceMul, Nat.reduceSub, Nat.zero_le, Nat.reduceLeDiff, Nat.reduceEqDiff, Nat.le_refl, not_false_eq_true, not_true_eq_false, false_implies, true_implies, forall_const, true_and, and_true, if_true, if_false, implies_true, and_self, ne_eq, false_and, and_false, or_false, false_or, true_or, or_true]
  refine mw_mono (t_amount (lo := 0) (c := 1000) h (by omega) nm999 (by omega)) ?_
  rintro o M1 ⟨h1, A1⟩
  have B1 : Ag XP M M1 := (A1.mono (XF_P (by omega)))
  have k1 : (gS M1 69).1 = 10 := by rw [A1.S]; exact k0
  by_cases z1 : 0 ≤ th uW n b (q) ∧ th uW n b (q) < 1000
  rotate_left
  · simp only [pnm, if_neg z1] at h1 ⊢
    obtain ⟨rfl, f1⟩ := h1
    simp (disch := omega) only [q_aload0, q_aload0N, q_get_i, pTag_1, pRf_s, q_table, q_iconst, q_sipush, q_invv2, inv_1, q_zret, q_invv0, q_if_eq, q_goto, q_nop, q_bipush, q_invv1, L_0, L_1, L_10, L_99, L_999, L_1008, L_1009, k_some, k_none, pRm_i, pRm_r, pRm_0, pF_1, pF_2, inv_s, zb_0, nN_le, nN_lt, nN_eq, nN_add, nN_mul, nN_lt0, nN_ge0, nN_gt0, nN_le0, nN_eq0, nN_eq1, nN_neN, pIn_n, pIx_n, eq_self, Nat.reduceLT, Bool.false_eq_true, Nat.add_zero, Nat.zero_add, Nat.reduceAdd, Nat.reduceMul, Nat.reduceSub, Nat.zero_le, Nat.reduceLeDiff, Nat.reduceEqDiff, Nat.le_refl, not_false_eq_true, not_true_eq_false, false_implies, true_implies, forall_const, true_and, and_true, if_true, if_false, implies_true, and_self, ne_eq, false_and, and_false, or_false, false_or, true_or, or_true]
    exact ⟨⟨rfl, f1⟩, B1⟩
  simp only [pnm, if_pos z1] at h1 ⊢
  obtain ⟨rfl, T1, w1⟩ := h1
  have v1 : gI M1 69 15 = nN (th uW n b (q)) := w1
  simp (disch := omega) only [q_aload0, q_aload0N, q_get_i, pTag_1, pRf_s, q_table, q_iconst, q_sipush, q_invv2, inv_1, q_zret, q_invv0, q_if_eq, q_goto, q_nop, q_bipush, q_invv1, L_0, L_1, L_10, L_99, L_999, L_1008, L_1009, k_some, k_none, pRm_i, pRm_r, pRm_0, pF_1, pF_2, inv_s, zb_1, nN_le, nN_lt, nN_eq, nN_add, nN_mul, nN_lt0, nN_ge0, nN_gt0, nN_le0, nN_eq0, nN_eq1, nN_neN, pIn_n, pIx_n, eq_self, Nat.reduceLT, Bool.false_eq_true, Nat.add_zero, Nat.zero_add, Nat.reduceAdd, Nat.reduceMul, Nat.reduceSub, Nat.zero_le, Nat.reduceLeDiff, Nat.reduceEqDiff, Nat.le_refl, not_false_eq_true, not_true_eq_false, false_implies, true_implies, forall_const, true_and, and_true, if_true, if_false, implies_true, and_self, ne_eq, false_and, and_false, or_false, false_or, true_or, or_true]
  exact ⟨⟨rfl, T1, v1⟩, B1⟩
theorem p_1001 (h : TnS M t n b q a) (hw : Wf a) (hv : gI M 69 11 = nN 1001) : mw (d + 5) 244 [.ref 69] M (fun o M' => TnP t n b a 1001 (pAr (th uW n b) (nx9 n b) (nP a) (nF a) 1001 q) o M' ∧ Ag XP M M') := by
  have hp' := hw.p'
  have hf' := hw.f'
  have hn := h.rc.n9
  have k0 := h.k
  have z0 := h.ht
  rw [show pAr (th uW n b) (nx9 n b) (nP a) (nF a) 1001 q = (pnm (th uW n b) (nx9 n b) 0 (nP a) q fun x q => psec (th uW n b) (nx9 n b) (nP a) x q fun y q => .inr (q, [x, y])) from rfl]
  rw [sw244_1001 k0 hv, e_244_2]
  simp (disch := omega) only [q_aload0, q_aload0N, q_get_i, pTag_1, pRf_s, q_table, q_iconst, q_sipush, q_invv2, inv_1, q_zret, q_invv0, q_if_eq, q_goto, q_nop, q_bipush, q_invv1, e_244_3, e_244_4, L_0, L_1, L_10, L_99, L_999, L_1008, L_1009, k_some, k_none, pRm_i, pRm_r, pRm_0, pF_1, pF_2, inv_s, k0, pF_2, nN_le, nN_lt, nN_eq, nN_add, nN_mul, nN_lt0, nN_ge0, nN_gt0, nN_le0, nN_eq0, nN_eq1, nN_neN, pIn_n, pIx_n, eq_self, Nat.reduceLT, Bool.false_eq_true, Nat.add_zero, Nat.zero_add, Nat.reduceAdd, Nat.reduceMul, Nat.reduceSub, Nat.zero_le, Nat.reduceLeDiff, Nat.reduceEqDiff, Nat.le_refl, not_false_eq_true, not_true_eq_false, false_implies, true_implies, forall_const, true_and, and_true, if_true, if_false, implies_true, and_self, ne_eq, false_and, and_false, or_false, false_or, true_or, or_true]
  refine mw_mono (t_first h hw) ?_
  rintro o M1 ⟨h1, A1⟩
  have B1 : Ag XP M M1 := (A1.mono (XF_P (by omega)))
  have k1 : (gS M1 69).1 = 10 := by rw [A1.S]; exact k0
  by_cases z1 : 0 ≤ th uW n b (q) ∧ th uW n b (q) < nP a
  rotate_left
  · simp only [pnm, if_neg z1] at h1 ⊢
    obtain ⟨rfl, f1⟩ := h1
    simp (disch := omega) only [q_aload0, q_aload0N, q_get_i, pTag_1, pRf_s, q_table, q_iconst, q_sipush, q_invv2, inv_1, q_zret, q_invv0, q_if_eq, q_goto, q_nop, q_bipush, q_invv1, e_244_3, e_244_4, L_0, L_1, L_10, L_99, L_999, L_1008, L_1009, k_some, k_none, pRm_i, pRm_r, pRm_0, pF_1, pF_2, inv_s, zb_0, nN_le, nN_lt, nN_eq, nN_add, nN_mul, nN_lt0, nN_ge0, nN_gt0, nN_le0, nN_eq0, nN_eq1, nN_neN, pIn_n, pIx_n, eq_self, Nat.reduceLT, Bool.false_eq_true, Nat.add_zero, Nat.zero_add, Nat.reduceAdd, Nat.reduceMul, Nat.reduceSub, Nat.zero_le, Nat.reduceLeDiff, Nat.reduceEqDiff, Nat.le_refl, not_false_eq_true, not_true_eq_false, false_implies, true_implies, forall_const, true_and, and_true, if_true, if_false, implies_true, and_self, ne_eq, false_and, and_false, or_false, false_or, true_or, or_true]
    exact ⟨⟨rfl, f1⟩, B1⟩
  simp only [pnm, if_pos z1] at h1 ⊢
  obtain ⟨rfl, T1, w1⟩ := h1
  have v1 : gI M1 69 13 = nN (th uW n b (q)) := w1
  simp (disch := omega) only [q_aload0, q_aload0N, q_get_i, pTag_1, pRf_s, q_table, q_iconst, q_sipush, q_invv2, inv_1, q_zret, q_invv0, q_if_eq, q_goto, q_nop, q_bipush, q_invv1, e_244_3, e_244_4, L_0, L_1, L_10, L_99, L_999, L_1008, L_1009, k_some, k_none, pRm_i, pRm_r, pRm_0, pF_1, pF_2, inv_s, k1, pF_2, nN_le, nN_lt, nN_eq, nN_add, nN_mul, nN_lt0, nN_ge0, nN_gt0, nN_le0, nN_eq0, nN_eq1, nN_neN, pIn_n, pIx_n, eq_self, Nat.reduceLT, Bool.false_eq_true, Nat.add_zero, Nat.zero_add, Nat.reduceAdd, Nat.reduceMul, Nat.reduceSub, Nat.zero_le, Nat.reduceLeDiff, Nat.reduceEqDiff, Nat.le_refl, not_false_eq_true, not_true_eq_false, false_implies, true_implies, forall_const, true_and, and_true, if_true, if_false, implies_true, and_self, ne_eq, false_and, and_false, or_false, false_or, true_or, or_true]
  refine mw_mono (t_second (w := th uW n b q) T1 hw v1 (by have := T1.rc.tl q; omega)) ?_
  rintro o M2 ⟨h2, A2⟩
  have B2 : Ag XP M M2 := B1.trans (A2.mono (XF_P (by omega)))
  have k2 : (gS M2 69).1 = 10 := by rw [A2.S]; exact k1
  by_cases y2 : th uW n b (nx9 n b q) = th uW n b q
  · simp only [psec, if_pos y2] at h2 ⊢
    obtain ⟨rfl, f2⟩ := h2
    simp (disch := omega) only [q_aload0, q_aload0N, q_get_i, pTag_1, pRf_s, q_table, q_iconst, q_sipush, q_invv2, inv_1, q_zret, q_invv0, q_if_eq, q_goto, q_nop, q_bipush, q_invv1, e_244_3, e_244_4, L_0, L_1, L_10, L_99, L_999, L_1008, L_1009, k_some, k_none, pRm_i, pRm_r, pRm_0, pF_1, pF_2, inv_s, zb_0, nN_le, nN_lt, nN_eq, nN_add, nN_mul, nN_lt0, nN_ge0, nN_gt0, nN_le0, nN_eq0, nN_eq1, nN_neN, pIn_n, pIx_n, eq_self, Nat.reduceLT, Bool.false_eq_true, Nat.add_zero, Nat.zero_add, Nat.reduceAdd, Nat.reduceMul, Nat.reduceSub, Nat.zero_le, Nat.reduceLeDiff, Nat.reduceEqDiff, Nat.le_refl, not_false_eq_true, not_true_eq_false, false_implies, true_implies, forall_const, true_and, and_true, if_true, if_false, implies_true, and_self, ne_eq, false_and, and_false, or_false, false_or, true_or, or_true]
    exact ⟨⟨rfl, f2⟩, B2⟩
  simp only [psec, if_neg y2] at h2 ⊢
  by_cases z2 : 0 ≤ th uW n b (nx9 n b q) ∧ th uW n b (nx9 n b q) < nP a
  rotate_left
  · simp only [pnm, if_neg z2] at h2 ⊢
    obtain ⟨rfl, f2⟩ := h2
    simp (disch := omega) only [q_aload0, q_aload0N, q_get_i, pTag_1, pRf_s, q_table, q_iconst, q_sipush, q_invv2, inv_1, q_zret, q_invv0, q_if_eq, q_goto, q_nop, q_bipush, q_invv1, e_244_3, e_244_4, L_0, L_1, L_10, L_99, L_999, L_1008, L_1009, k_some, k_none, pRm_i, pRm_r, pRm_0, pF_1, pF_2, inv_s, zb_0, nN_le, nN_lt, nN_eq, nN_add, nN_mul, nN_lt0, nN_ge0, nN_gt0, nN_le0, nN_eq0, nN_eq1, nN_neN, pIn_n, pIx_n, eq_self, Nat.reduceLT, Bool.false_eq_true, Nat.add_zero, Nat.zero_add, Nat.reduceAdd, Nat.reduceMul, Nat.reduceSub, Nat.zero_le, Nat.reduceLeDiff, Nat.reduceEqDiff, Nat.le_refl, not_false_eq_true, not_true_eq_false, false_implies, true_implies, forall_const, true_and, and_true, if_true, if_false, implies_true, and_self, ne_eq, false_and, and_false, or_false, false_or, true_or, or_true]
    exact ⟨⟨rfl, f2⟩, B2⟩
  simp only [pnm, if_pos z2] at h2 ⊢
  obtain ⟨rfl, T2, w2⟩ := h2
  have v1_2 : gI M2 69 13 = nN (th uW n b (q)) := by rw [A2.I (by rintro ⟨-, z⟩; omega)]; exact v1
  have v2 : gI M2 69 14 = nN (th uW n b (nx9 n b q)) := w2
  simp (disch := omega) only [q_aload0, q_aload0N, q_get_i, pTag_1, pRf_s, q_table, q_iconst, q_sipush, q_invv2, inv_1, q_zret, q_invv0, q_if_eq, q_goto, q_nop, q_bipush, q_invv1, e_244_3, e_244_4, L_0, L_1, L_10, L_99, L_999, L_1008, L_1009, k_some, k_none, pRm_i, pRm_r, pRm_0, pF_1, pF_2, inv_s, zb_1, nN_le, nN_lt, nN_eq, nN_add, nN_mul, nN_lt0, nN_ge0, nN_gt0, nN_le0, nN_eq0, nN_eq1, nN_neN, pIn_n, pIx_n, eq_self, Nat.reduceLT, Bool.false_eq_true, Nat.add_zero, Nat.zero_add, Nat.reduceAdd, Nat.reduceMul, Nat.reduceSub, Nat.zero_le, Nat.reduceLeDiff, Nat.reduceEqDiff, Nat.le_refl, not_false_eq_true, not_true_eq_false, false_implies, true_implies, forall_const, true_and, and_true, if_true, if_false, implies_true, and_self, ne_eq, false_and, and_false, or_false, false_or, true_or, or_true]
  exact ⟨⟨rfl, T2, ⟨v1_2, v2⟩⟩, B2⟩
theorem p_1002 (h : TnS M t n b q a) (hw : Wf a) (hv : gI M 69 11 = nN 1002) : mw (d + 5) 244 [.ref 69] M (fun o M' => TnP t n b a 1002 (pAr (th uW n b) (nx9 n b) (nP a) (nF a) 1002 q) o M' ∧ Ag XP M M') := by
  have hp' := hw.p'
  have hf' := hw.f'
  have hn := h.rc.n9
  have k0 := h.k
  have z0 := h.ht
  rw [show pAr (th uW n b) (nx9 n b) (nP a) (nF a) 1002 q = (pnm (th uW n b) (nx9 n b) 0 11 q fun x q => .inr (q, [x])) from rfl]
  rw [sw244_1002 k0 hv, e_244_5]
  simp (disch := omega) only [q_aload0, q_aload0N, q_get_i, pTag_1, pRf_s, q_table, q_iconst, q_sipush, q_invv2, inv_1, q_zret, q_invv0, q_if_eq, q_goto, q_nop, q_bipush, q_invv1, L_0, L_1, L_10, L_99, L_999, L_1008, L_1009, k_some, k_none, pRm_i, pRm_r, pRm_0, pF_1, pF_2, inv_s, k0, pF_2, nN_le, nN_lt, nN_eq, nN_add, nN_mul, nN_lt0, nN_ge0, nN_gt0, nN_le0, nN_eq0, nN_eq1, nN_neN, pIn_n, pIx_n, eq_self, Nat.reduceLT, Bool.false_eq_true, Nat.add_zero, Nat.zero_add, Nat.reduceAdd, Nat.reduceMul, Nat.reduceSub, Nat.zero_le, Nat.reduceLeDiff, Nat.reduceEqDiff, Nat.le_refl, not_false_eq_true, not_true_eq_false, false_implies, true_implies, forall_const, true_and, and_true, if_true, if_false, implies_true, and_self, ne_eq, false_and, and_false, or_false, false_or, true_or, or_true]
  refine mw_mono (t_amount (lo := 0) (c := 11) h (by omega) nm10 (by omega)) ?_
  rintro o M1 ⟨h1, A1⟩
  have B1 : Ag XP M M1 := (A1.mono (XF_P (by omega)))
  have k1 : (gS M1 69).1 = 10 := by rw [A1.S]; exact k0
  by_cases z1 : 0 ≤ th uW n b (q) ∧ th uW n b (q) < 11
  rotate_left
  · simp only [pnm, if_neg z1] at h1 ⊢
    obtain ⟨rfl, f1⟩ := h1
    simp (disch := omega) only [q_aload0, q_aload0N, q_get_i, pTag_1, pRf_s, q_table, q_iconst, q_sipush, q_invv2, inv_1, q_zret, q_invv0, q_if_eq, q_goto, q_nop, q_bipush, q_invv1, L_0, L_1, L_10, L_99, L_999, L_1008, L_1009, k_some, k_none, pRm_i, pRm_r, pRm_0, pF_1, pF_2, inv_s, zb_0, nN_le, nN_lt, nN_eq, nN_add, nN_mul, nN_lt0, nN_ge0, nN_gt0, nN_le0, nN_eq0, nN_eq1, nN_neN, pIn_n, pIx_n, eq_self, Nat.reduceLT, Bool.false_eq_true, Nat.add_zero, Nat.zero_add, Nat.reduceAdd, Nat.reduceMul, Nat.reduceSub, Nat.zero_le, Nat.reduceLeDiff, Nat.reduceEqDiff, Nat.le_refl, not_false_eq_true, not_true_eq_false, false_implies, true_implies, forall_const, true_and, and_true, if_true, if_false, implies_true, and_self, ne_eq, false_and, and_false, or_false, false_or, true_or, or_true]
    exact ⟨⟨rfl, f1⟩, B1⟩
  simp only [pnm, if_pos z1] at h1 ⊢
  obtain ⟨rfl, T1, w1⟩ := h1
  have v1 : gI M1 69 15 = nN (th uW n b (q)) := w1
  simp (disch := omega) only [q_aload0, q_aload0N, q_get_i, pTag_1, pRf_s, q_table, q_iconst, q_sipush, q_invv2, inv_1, q_zret, q_invv0, q_if_eq, q_goto, q_nop, q_bipush, q_invv1, L_0, L_1, L_10, L_99, L_999, L_1008, L_1009, k_some, k_none, pRm_i, pRm_r, pRm_0, pF_1, pF_2, inv_s, zb_1, nN_le, nN_lt, nN_eq, nN_add, nN_mul, nN_lt0, nN_ge0, nN_gt0, nN_le0, nN_eq0, nN_eq1, nN_neN, pIn_n, pIx_n, eq_self, Nat.reduceLT, Bool.false_eq_true, Nat.add_zero, Nat.zero_add, Nat.reduceAdd, Nat.reduceMul, Nat.reduceSub, Nat.zero_le, Nat.reduceLeDiff, Nat.reduceEqDiff, Nat.le_refl, not_false_eq_true, not_true_eq_false, false_implies, true_implies, forall_const, true_and, and_true, if_true, if_false, implies_true, and_self, ne_eq, false_and, and_false, or_false, false_or, true_or, or_true]
  exact ⟨⟨rfl, T1, v1⟩, B1⟩
theorem p_1004 (h : TnS M t n b q a) (hw : Wf a) (hv : gI M 69 11 = nN 1004) : mw (d + 5) 244 [.ref 69] M (fun o M' => TnP t n b a 1004 (pAr (th uW n b) (nx9 n b) (nP a) (nF a) 1004 q) o M' ∧ Ag XP M M') := by
  have hp' := hw.p'
  have hf' := hw.f'
  have hn := h.rc.n9
  have k0 := h.k
  have z0 := h.ht
  rw [show pAr (th uW n b) (nx9 n b) (nP a) (nF a) 1004 q = (pnm (th uW n b) (nx9 n b) 0 (nF a) q fun x q => pwd (th uW n b) (nx9 n b) 1008 q fun q => pnm (th uW n b) (nx9 n b) 0 (nP a) q fun y q => .inr (q, [x, y])) from rfl]
  rw [sw244_1004 k0 hv, e_244_7]
  simp (disch := omega) only [q_aload0, q_aload0N, q_get_i, pTag_1, pRf_s, q_table, q_iconst, q_sipush, q_invv2, inv_1, q_zret, q_invv0, q_if_eq, q_goto, q_nop, q_bipush, q_invv1, e_244_8, e_244_9, L_0, L_1, L_10, L_99, L_999, L_1008, L_1009, k_some, k_none, pRm_i, pRm_r, pRm_0, pF_1, pF_2, inv_s, k0, pF_2, nN_le, nN_lt, nN_eq, nN_add, nN_mul, nN_lt0, nN_ge0, nN_gt0, nN_le0, nN_eq0, nN_eq1, nN_neN, pIn_n, pIx_n, eq_self, Nat.reduceLT, Bool.false_eq_true, Nat.add_zero, Nat.zero_add, Nat.reduceAdd, Nat.reduceMul, Nat.reduceSub, Nat.zero_le, Nat.reduceLeDiff, Nat.reduceEqDiff, Nat.le_refl, not_false_eq_true, not_true_eq_false, false_implies, true_implies, forall_const, true_and, and_true, if_true, if_false, implies_true, and_self, ne_eq, false_and, and_false, or_false, false_or, true_or, or_true]
  refine mw_mono (t_favour h hw) ?_
  rintro o M1 ⟨h1, A1⟩
  have B1 : Ag XP M M1 := (A1.mono (XF_P (by omega)))
  have k1 : (gS M1 69).1 = 10 := by rw [A1.S]; exact k0
  by_cases z1 : 0 ≤ th uW n b (q) ∧ th uW n b (q) < nF a
  rotate_left
  · simp only [pnm, if_neg z1] at h1 ⊢
    obtain ⟨rfl, f1⟩ := h1
    simp (disch := omega) only [q_aload0, q_aload0N, q_get_i, pTag_1, pRf_s, q_table, q_iconst, q_sipush, q_invv2, inv_1, q_zret, q_invv0, q_if_eq, q_goto, q_nop, q_bipush, q_invv1, e_244_8, e_244_9, L_0, L_1, L_10, L_99, L_999, L_1008, L_1009, k_some, k_none, pRm_i, pRm_r, pRm_0, pF_1, pF_2, inv_s, zb_0, nN_le, nN_lt, nN_eq, nN_add, nN_mul, nN_lt0, nN_ge0, nN_gt0, nN_le0, nN_eq0, nN_eq1, nN_neN, pIn_n, pIx_n, eq_self, Nat.reduceLT, Bool.false_eq_true, Nat.add_zero, Nat.zero_add, Nat.reduceAdd, Nat.reduceMul, Nat.reduceSub, Nat.zero_le, Nat.reduceLeDiff, Nat.reduceEqDiff, Nat.le_refl, not_false_eq_true, not_true_eq_false, false_implies, true_implies, forall_const, true_and, and_true, if_true, if_false, implies_true, and_self, ne_eq, false_and, and_false, or_false, false_or, true_or, or_true]
    exact ⟨⟨rfl, f1⟩, B1⟩
  simp only [pnm, if_pos z1] at h1 ⊢
  obtain ⟨rfl, T1, w1⟩ := h1
  have v1 : gI M1 69 12 = nN (th uW n b (q)) := w1
  simp (disch := omega) only [q_aload0, q_aload0N, q_get_i, pTag_1, pRf_s, q_table, q_iconst, q_sipush, q_invv2, inv_1, q_zret, q_invv0, q_if_eq, q_goto, q_nop, q_bipush, q_invv1, e_244_8, e_244_9, L_0, L_1, L_10, L_99, L_999, L_1008, L_1009, k_some, k_none, pRm_i, pRm_r, pRm_0, pF_1, pF_2, inv_s, k1, pF_2, nN_le, nN_lt, nN_eq, nN_add, nN_mul, nN_lt0, nN_ge0, nN_gt0, nN_le0, nN_eq0, nN_eq1, nN_neN, pIn_n, pIx_n, eq_self, Nat.reduceLT, Bool.false_eq_true, Nat.add_zero, Nat.zero_add, Nat.reduceAdd, Nat.reduceMul, Nat.reduceSub, Nat.zero_le, Nat.reduceLeDiff, Nat.reduceEqDiff, Nat.le_refl, not_false_eq_true, not_true_eq_false, false_implies, true_implies, forall_const, true_and, and_true, if_true, if_false, implies_true, and_self, ne_eq, false_and, and_false, or_false, false_or, true_or, or_true]
  refine mw_mono (t_follows (c := 1008) T1 (by omega)) ?_
  rintro o M2 ⟨h2, A2⟩
  have B2 : Ag XP M M2 := B1.trans (A2.mono RdY_P)
  have k2 : (gS M2 69).1 = 10 := by rw [A2.S]; exact k1
  by_cases z2 : th uW n b (nx9 n b q) = 1008
  rotate_left
  · simp only [pnm, pwd, if_neg z2] at h2 ⊢
    obtain ⟨rfl, f2⟩ := h2
    simp (disch := omega) only [q_aload0, q_aload0N, q_get_i, pTag_1, pRf_s, q_table, q_iconst, q_sipush, q_invv2, inv_1, q_zret, q_invv0, q_if_eq, q_goto, q_nop, q_bipush, q_invv1, e_244_8, e_244_9, L_0, L_1, L_10, L_99, L_999, L_1008, L_1009, k_some, k_none, pRm_i, pRm_r, pRm_0, pF_1, pF_2, inv_s, zb_0, nN_le, nN_lt, nN_eq, nN_add, nN_mul, nN_lt0, nN_ge0, nN_gt0, nN_le0, nN_eq0, nN_eq1, nN_neN, pIn_n, pIx_n, eq_self, Nat.reduceLT, Bool.false_eq_true, Nat.add_zero, Nat.zero_add, Nat.reduceAdd, Nat.reduceMul, Nat.reduceSub, Nat.zero_le, Nat.reduceLeDiff, Nat.reduceEqDiff, Nat.le_refl, not_false_eq_true, not_true_eq_false, false_implies, true_implies, forall_const, true_and, and_true, if_true, if_false, implies_true, and_self, ne_eq, false_and, and_false, or_false, false_or, true_or, or_true]
    exact ⟨⟨rfl, f2⟩, B2⟩
  simp only [pnm, pwd, if_pos z2] at h2 ⊢
  obtain ⟨rfl, T2⟩ := h2
  have v1_2 : gI M2 69 12 = nN (th uW n b (q)) := by rw [A2.I (by rintro ⟨-, z⟩; omega)]; exact v1
  simp (disch := omega) only [q_aload0, q_aload0N, q_get_i, pTag_1, pRf_s, q_table, q_iconst, q_sipush, q_invv2, inv_1, q_zret, q_invv0, q_if_eq, q_goto, q_nop, q_bipush, q_invv1, e_244_8, e_244_9, L_0, L_1, L_10, L_99, L_999, L_1008, L_1009, k_some, k_none, pRm_i, pRm_r, pRm_0, pF_1, pF_2, inv_s, k2, pF_2, nN_le, nN_lt, nN_eq, nN_add, nN_mul, nN_lt0, nN_ge0, nN_gt0, nN_le0, nN_eq0, nN_eq1, nN_neN, pIn_n, pIx_n, eq_self, Nat.reduceLT, Bool.false_eq_true, Nat.add_zero, Nat.zero_add, Nat.reduceAdd, Nat.reduceMul, Nat.reduceSub, Nat.zero_le, Nat.reduceLeDiff, Nat.reduceEqDiff, Nat.le_refl, not_false_eq_true, not_true_eq_false, false_implies, true_implies, forall_const, true_and, and_true, if_true, if_false, implies_true, and_self, ne_eq, false_and, and_false, or_false, false_or, true_or, or_true]
  refine mw_mono (t_first T2 hw) ?_
  rintro o M3 ⟨h3, A3⟩
  have B3 : Ag XP M M3 := B2.trans (A3.mono (XF_P (by omega)))
  have k3 : (gS M3 69).1 = 10 := by rw [A3.S]; exact k2
  by_cases z3 : 0 ≤ th uW n b (nx9 n b (nx9 n b q)) ∧ th uW n b (nx9 n b (nx9 n b q)) < nP a
  rotate_left
  · simp only [pnm, if_neg z3] at h3 ⊢
    try simp only [show ¬ _ < _ from fun h => z3 ⟨Nat.zero_le _, h⟩, if_false]
    obtain ⟨rfl, f3⟩ := h3
    simp (disch := omega) only [q_aload0, q_aload0N, q_get_i, pTag_1, pRf_s, q_table, q_iconst, q_sipush, q_invv2, inv_1, q_zret, q_invv0, q_if_eq, q_goto, q_nop, q_bipush, q_invv1, e_244_8, e_244_9, L_0, L_1, L_10, L_99, L_999, L_1008, L_1009, k_some, k_none, pRm_i, pRm_r, pRm_0, pF_1, pF_2, inv_s, zb_0, nN_le, nN_lt, nN_eq, nN_add, nN_mul, nN_lt0, nN_ge0, nN_gt0, nN_le0, nN_eq0, nN_eq1, nN_neN, pIn_n, pIx_n, eq_self, Nat.reduceLT, Bool.false_eq_true, Nat.add_zero, Nat.zero_add, Nat.reduceAdd, Nat.reduceMul, Nat.reduceSub, Nat.zero_le, Nat.reduceLeDiff, Nat.reduceEqDiff, Nat.le_refl, not_false_eq_true, not_true_eq_false, false_implies, true_implies, forall_const, true_and, and_true, if_true, if_false, implies_true, and_self, ne_eq, false_and, and_false, or_false, false_or, true_or, or_true]
    exact ⟨⟨rfl, f3⟩, B3⟩
  simp only [pnm, if_pos z3] at h3 ⊢
  try simp only [z3.2, if_true]
  obtain ⟨rfl, T3, w3⟩ := h3
  have v1_3 : gI M3 69 12 = nN (th uW n b (q)) := by rw [A3.I (by rintro ⟨-, z⟩; omega)]; exact v1_2
  have v3 : gI M3 69 13 = nN (th uW n b (nx9 n b (nx9 n b q))) := w3
  simp (disch := omega) only [q_aload0, q_aload0N, q_get_i, pTag_1, pRf_s, q_table, q_iconst, q_sipush, q_invv2, inv_1, q_zret, q_invv0, q_if_eq, q_goto, q_nop, q_bipush, q_invv1, e_244_8, e_244_9, L_0, L_1, L_10, L_99, L_999, L_1008, L_1009, k_some, k_none, pRm_i, pRm_r, pRm_0, pF_1, pF_2, inv_s, zb_1, nN_le, nN_lt, nN_eq, nN_add, nN_mul, nN_lt0, nN_ge0, nN_gt0, nN_le0, nN_eq0, nN_eq1, nN_neN, pIn_n, pIx_n, eq_self, Nat.reduceLT, Bool.false_eq_true, Nat.add_zero, Nat.zero_add, Nat.reduceAdd, Nat.reduceMul, Nat.reduceSub, Nat.zero_le, Nat.reduceLeDiff, Nat.reduceEqDiff, Nat.le_refl, not_false_eq_true, not_true_eq_false, false_implies, true_implies, forall_const, true_and, and_true, if_true, if_false, implies_true, and_self, ne_eq, false_and, and_false, or_false, false_or, true_or, or_true]
  exact ⟨⟨rfl, T3, ⟨v1_3, v3⟩⟩, B3⟩
theorem p_1005 (h : TnS M t n b q a) (hw : Wf a) (hv : gI M 69 11 = nN 1005) : mw (d + 5) 244 [.ref 69] M (fun o M' => TnP t n b a 1005 (pAr (th uW n b) (nx9 n b) (nP a) (nF a) 1005 q) o M' ∧ Ag XP M M') := by
  have hp' := hw.p'
  have hf' := hw.f'
  have hn := h.rc.n9
  have k0 := h.k
  have z0 := h.ht
  rw [show pAr (th uW n b) (nx9 n b) (nP a) (nF a) 1005 q = (pnm (th uW n b) (nx9 n b) 0 (nF a) q fun x q => .inr (q, [x])) from rfl]
  rw [sw244_1005 k0 hv, e_244_10]
  simp (disch := omega) only [q_aload0, q_aload0N, q_get_i, pTag_1, pRf_s, q_table, q_iconst, q_sipush, q_invv2, inv_1, q_zret, q_invv0, q_if_eq, q_goto, q_nop, q_bipush, q_invv1, L_0, L_1, L_10, L_99, L_999, L_1008, L_1009, k_some, k_none, pRm_i, pRm_r, pRm_0, pF_1, pF_2, inv_s, k0, pF_2, nN_le, nN_lt, nN_eq, nN_add, nN_mul, nN_lt0, nN_ge0, nN_gt0, nN_le0, nN_eq0, nN_eq1, nN_neN, pIn_n, pIx_n, eq_self, Nat.reduceLT, Bool.false_eq_true, Nat.add_zero, Nat.zero_add, Nat.reduceAdd, Nat.reduceMul, Nat.reduceSub, Nat.zero_le, Nat.reduceLeDiff, Nat.reduceEqDiff, Nat.le_refl, not_false_eq_true, not_true_eq_false, false_implies, true_implies, forall_const, true_and, and_true, if_true, if_false, implies_true, and_self, ne_eq, false_and, and_false, or_false, false_or, true_or, or_true]
  refine mw_mono (t_favour h hw) ?_
  rintro o M1 ⟨h1, A1⟩
  have B1 : Ag XP M M1 := (A1.mono (XF_P (by omega)))
  have k1 : (gS M1 69).1 = 10 := by rw [A1.S]; exact k0
  by_cases z1 : 0 ≤ th uW n b (q) ∧ th uW n b (q) < nF a
  rotate_left
  · simp only [pnm, if_neg z1] at h1 ⊢
    obtain ⟨rfl, f1⟩ := h1
    simp (disch := omega) only [q_aload0, q_aload0N, q_get_i, pTag_1, pRf_s, q_table, q_iconst, q_sipush, q_invv2, inv_1, q_zret, q_invv0, q_if_eq, q_goto, q_nop, q_bipush, q_invv1, L_0, L_1, L_10, L_99, L_999, L_1008, L_1009, k_some, k_none, pRm_i, pRm_r, pRm_0, pF_1, pF_2, inv_s, zb_0, nN_le, nN_lt, nN_eq, nN_add, nN_mul, nN_lt0, nN_ge0, nN_gt0, nN_le0, nN_eq0, nN_eq1, nN_neN, pIn_n, pIx_n, eq_self, Nat.reduceLT, Bool.false_eq_true, Nat.add_zero, Nat.zero_add, Nat.reduceAdd, Nat.reduceMul, Nat.reduceSub, Nat.zero_le, Nat.reduceLeDiff, Nat.reduceEqDiff, Nat.le_refl, not_false_eq_true, not_true_eq_false, false_implies, true_implies, forall_const, true_and, and_true, if_true, if_false, implies_true, and_self, ne_eq, false_and, and_false, or_false, false_or, true_or, or_true]
    exact ⟨⟨rfl, f1⟩, B1⟩
  simp only [pnm, if_pos z1] at h1 ⊢
  obtain ⟨rfl, T1, w1⟩ := h1
  have v1 : gI M1 69 12 = nN (th uW n b (q)) := w1
  simp (disch := omega) only [q_aload0, q_aload0N, q_get_i, pTag_1, pRf_s, q_table, q_iconst, q_sipush, q_invv2, inv_1, q_zret, q_invv0, q_if_eq, q_goto, q_nop, q_bipush, q_invv1, L_0, L_1, L_10, L_99, L_999, L_1008, L_1009, k_some, k_none, pRm_i, pRm_r, pRm_0, pF_1, pF_2, inv_s, zb_1, nN_le, nN_lt, nN_eq, nN_add, nN_mul, nN_lt0, nN_ge0, nN_gt0, nN_le0, nN_eq0, nN_eq1, nN_neN, pIn_n, pIx_n, eq_self, Nat.reduceLT, Bool.false_eq_true, Nat.add_zero, Nat.zero_add, Nat.reduceAdd, Nat.reduceMul, Nat.reduceSub, Nat.zero_le, Nat.reduceLeDiff, Nat.reduceEqDiff, Nat.le_refl, not_false_eq_true, not_true_eq_false, false_implies, true_implies, forall_const, true_and, and_true, if_true, if_false, implies_true, and_self, ne_eq, false_and, and_false, or_false, false_or, true_or, or_true]
  exact ⟨⟨rfl, T1, v1⟩, B1⟩
theorem p_1006 (h : TnS M t n b q a) (hw : Wf a) (hv : gI M 69 11 = nN 1006) : mw (d + 5) 244 [.ref 69] M (fun o M' => TnP t n b a 1006 (pAr (th uW n b) (nx9 n b) (nP a) (nF a) 1006 q) o M' ∧ Ag XP M M') := by
  have hp' := hw.p'
  have hf' := hw.f'
  have hn := h.rc.n9
  have k0 := h.k
  have z0 := h.ht
  rw [show pAr (th uW n b) (nx9 n b) (nP a) (nF a) 1006 q = (pnm (th uW n b) (nx9 n b) 1 100 q fun x q => .inr (q, [x])) from rfl]
  rw [sw244_1006 k0 hv, e_244_11]
  simp (disch := omega) only [q_aload0, q_aload0N, q_get_i, pTag_1, pRf_s, q_table, q_iconst, q_sipush, q_invv2, inv_1, q_zret, q_invv0, q_if_eq, q_goto, q_nop, q_bipush, q_invv1, L_0, L_1, L_10, L_99, L_999, L_1008, L_1009, k_some, k_none, pRm_i, pRm_r, pRm_0, pF_1, pF_2, inv_s, k0, pF_2, nN_le, nN_lt, nN_eq, nN_add, nN_mul, nN_lt0, nN_ge0, nN_gt0, nN_le0, nN_eq0, nN_eq1, nN_neN, pIn_n, pIx_n, eq_self, Nat.reduceLT, Bool.false_eq_true, Nat.add_zero, Nat.zero_add, Nat.reduceAdd, Nat.reduceMul, Nat.reduceSub, Nat.zero_le, Nat.reduceLeDiff, Nat.reduceEqDiff, Nat.le_refl, not_false_eq_true, not_true_eq_false, false_implies, true_implies, forall_const, true_and, and_true, if_true, if_false, implies_true, and_self, ne_eq, false_and, and_false, or_false, false_or, true_or, or_true]
  refine mw_mono (t_amount (lo := 1) (c := 100) h (by omega) nm99 (by omega)) ?_
  rintro o M1 ⟨h1, A1⟩
  have B1 : Ag XP M M1 := (A1.mono (XF_P (by omega)))
  have k1 : (gS M1 69).1 = 10 := by rw [A1.S]; exact k0
  by_cases z1 : 1 ≤ th uW n b (q) ∧ th uW n b (q) < 100
  rotate_left
  · simp only [pnm, if_neg z1] at h1 ⊢
    obtain ⟨rfl, f1⟩ := h1
    simp (disch := omega) only [q_aload0, q_aload0N, q_get_i, pTag_1, pRf_s, q_table, q_iconst, q_sipush, q_invv2, inv_1, q_zret, q_invv0, q_if_eq, q_goto, q_nop, q_bipush, q_invv1, L_0, L_1, L_10, L_99, L_999, L_1008, L_1009, k_some, k_none, pRm_i, pRm_r, pRm_0, pF_1, pF_2, inv_s, zb_0, nN_le, nN_lt, nN_eq, nN_add, nN_mul, nN_lt0, nN_ge0, nN_gt0, nN_le0, nN_eq0, nN_eq1, nN_neN, pIn_n, pIx_n, eq_self, Nat.reduceLT, Bool.false_eq_true, Nat.add_zero, Nat.zero_add, Nat.reduceAdd, Nat.reduceMul, Nat.reduceSub, Nat.zero_le, Nat.reduceLeDiff, Nat.reduceEqDiff, Nat.le_refl, not_false_eq_true, not_true_eq_false, false_implies, true_implies, forall_const, true_and, and_true, if_true, if_false, implies_true, and_self, ne_eq, false_and, and_false, or_false, false_or, true_or, or_true]
    exact ⟨⟨rfl, f1⟩, B1⟩
  simp only [pnm, if_pos z1] at h1 ⊢
  obtain ⟨rfl, T1, w1⟩ := h1
  have v1 : gI M1 69 15 = nN (th uW n b (q)) := w1
  simp (disch := omega) only [q_aload0, q_aload0N, q_get_i, pTag_1, pRf_s, q_table, q_iconst, q_sipush, q_invv2, inv_1, q_zret, q_invv0, q_if_eq, q_goto, q_nop, q_bipush, q_invv1, L_0, L_1, L_10, L_99, L_999, L_1008, L_1009, k_some, k_none, pRm_i, pRm_r, pRm_0, pF_1, pF_2, inv_s, zb_1, nN_le, nN_lt, nN_eq, nN_add, nN_mul, nN_lt0, nN_ge0, nN_gt0, nN_le0, nN_eq0, nN_eq1, nN_neN, pIn_n, pIx_n, eq_self, Nat.reduceLT, Bool.false_eq_true, Nat.add_zero, Nat.zero_add, Nat.reduceAdd, Nat.reduceMul, Nat.reduceSub, Nat.zero_le, Nat.reduceLeDiff, Nat.reduceEqDiff, Nat.le_refl, not_false_eq_true, not_true_eq_false, false_implies, true_implies, forall_const, true_and, and_true, if_true, if_false, implies_true, and_self, ne_eq, false_and, and_false, or_false, false_or, true_or, or_true]
  exact ⟨⟨rfl, T1, v1⟩, B1⟩
theorem p_1007 (h : TnS M t n b q a) (hw : Wf a) (hv : gI M 69 11 = nN 1007) : mw (d + 5) 244 [.ref 69] M (fun o M' => TnP t n b a 1007 (pAr (th uW n b) (nx9 n b) (nP a) (nF a) 1007 q) o M' ∧ Ag XP M M') := by
  have hp' := hw.p'
  have hf' := hw.f'
  have hn := h.rc.n9
  have k0 := h.k
  have z0 := h.ht
  rw [show pAr (th uW n b) (nx9 n b) (nP a) (nF a) 1007 q = (pnm (th uW n b) (nx9 n b) 0 (nP a) q fun x q => pwd (th uW n b) (nx9 n b) 1009 q fun q => psec (th uW n b) (nx9 n b) (nP a) x q fun y q => pnm (th uW n b) (nx9 n b) 1 100 q fun n q => .inr (q, [x, y, n])) from rfl]
  rw [sw244_1007 k0 hv, e_244_12]
  simp (disch := omega) only [q_aload0, q_aload0N, q_get_i, pTag_1, pRf_s, q_table, q_iconst, q_sipush, q_invv2, inv_1, q_zret, q_invv0, q_if_eq, q_goto, q_nop, q_bipush, q_invv1, e_244_13, e_244_14, L_0, L_1, L_10, L_99, L_999, L_1008, L_1009, k_some, k_none, pRm_i, pRm_r, pRm_0, pF_1, pF_2, inv_s, k0, pF_2, nN_le, nN_lt, nN_eq, nN_add, nN_mul, nN_lt0, nN_ge0, nN_gt0, nN_le0, nN_eq0, nN_eq1, nN_neN, pIn_n, pIx_n, eq_self, Nat.reduceLT, Bool.false_eq_true, Nat.add_zero, Nat.zero_add, Nat.reduceAdd, Nat.reduceMul, Nat.reduceSub, Nat.zero_le, Nat.reduceLeDiff, Nat.reduceEqDiff, Nat.le_refl, not_false_eq_true, not_true_eq_false, false_implies, true_implies, forall_const, true_and, and_true, if_true, if_false, implies_true, and_self, ne_eq, false_and, and_false, or_false, false_or, true_or, or_true]
  refine mw_mono (t_first h hw) ?_
  rintro o M1 ⟨h1, A1⟩
  have B1 : Ag XP M M1 := (A1.mono (XF_P (by omega)))
  have k1 : (gS M1 69).1 = 10 := by rw [A1.S]; exact k0
  by_cases z1 : 0 ≤ th uW n b (q) ∧ th uW n b (q) < nP a
  rotate_left
  · simp only [pnm, if_neg z1] at h1 ⊢
    obtain ⟨rfl, f1⟩ := h1
    simp (disch := omega) only [q_aload0, q_aload0N, q_get_i, pTag_1, pRf_s, q_table, q_iconst, q_sipush, q_invv2, inv_1, q_zret, q_invv0, q_if_eq, q_goto, q_nop, q_bipush, q_invv1, e_244_13, e_244_14, L_0, L_1, L_10, L_99, L_999, L_1008, L_1009, k_some, k_none, pRm_i, pRm_r, pRm_0, pF_1, pF_2, inv_s, zb_0, nN_le, nN_lt, nN_eq, nN_add, nN_mul, nN_lt0, nN_ge0, nN_gt0, nN_le0, nN_eq0, nN_eq1, nN_neN, pIn_n, pIx_n, eq_self, Nat.reduceLT, Bool.false_eq_true, Nat.add_zero, Nat.zero_add, Nat.reduceAdd, Nat.reduceMul, Nat.reduceSub, Nat.zero_le, Nat.reduceLeDiff, Nat.reduceEqDiff, Nat.le_refl, not_false_eq_true, not_true_eq_false, false_implies, true_implies, forall_const, true_and, and_true, if_true, if_false, implies_true, and_self, ne_eq, false_and, and_false, or_false, false_or, true_or, or_true]
    exact ⟨⟨rfl, f1⟩, B1⟩
  simp only [pnm, if_pos z1] at h1 ⊢
  obtain ⟨rfl, T1, w1⟩ := h1
  have v1 : gI M1 69 13 = nN (th uW n b (q)) := w1
  simp (disch := omega) only [q_aload0, q_aload0N, q_get_i, pTag_1, pRf_s, q_table, q_iconst, q_sipush, q_invv2, inv_1, q_zret, q_invv0, q_if_eq, q_goto, q_nop, q_bipush, q_invv1, e_244_13, e_244_14, L_0, L_1, L_10, L_99, L_999, L_1008, L_1009, k_some, k_none, pRm_i, pRm_r, pRm_0, pF_1, pF_2, inv_s, k1, pF_2, nN_le, nN_lt, nN_eq, nN_add, nN_mul, nN_lt0, nN_ge0, nN_gt0, nN_le0, nN_eq0, nN_eq1, nN_neN, pIn_n, pIx_n, eq_self, Nat.reduceLT, Bool.false_eq_true, Nat.add_zero, Nat.zero_add, Nat.reduceAdd, Nat.reduceMul, Nat.reduceSub, Nat.zero_le, Nat.reduceLeDiff, Nat.reduceEqDiff, Nat.le_refl, not_false_eq_true, not_true_eq_false, false_implies, true_implies, forall_const, true_and, and_true, if_true, if_false, implies_true, and_self, ne_eq, false_and, and_false, or_false, false_or, true_or, or_true]
  refine mw_mono (t_follows (c := 1009) T1 (by omega)) ?_
  rintro o M2 ⟨h2, A2⟩
  have B2 : Ag XP M M2 := B1.trans (A2.mono RdY_P)
  have k2 : (gS M2 69).1 = 10 := by rw [A2.S]; exact k1
  by_cases z2 : th uW n b (nx9 n b q) = 1009
  rotate_left
  · simp only [pnm, pwd, if_neg z2] at h2 ⊢
    obtain ⟨rfl, f2⟩ := h2
    simp (disch := omega) only [q_aload0, q_aload0N, q_get_i, pTag_1, pRf_s, q_table, q_iconst, q_sipush, q_invv2, inv_1, q_zret, q_invv0, q_if_eq, q_goto, q_nop, q_bipush, q_invv1, e_244_13, e_244_14, L_0, L_1, L_10, L_99, L_999, L_1008, L_1009, k_some, k_none, pRm_i, pRm_r, pRm_0, pF_1, pF_2, inv_s, zb_0, nN_le, nN_lt, nN_eq, nN_add, nN_mul, nN_lt0, nN_ge0, nN_gt0, nN_le0, nN_eq0, nN_eq1, nN_neN, pIn_n, pIx_n, eq_self, Nat.reduceLT, Bool.false_eq_true, Nat.add_zero, Nat.zero_add, Nat.reduceAdd, Nat.reduceMul, Nat.reduceSub, Nat.zero_le, Nat.reduceLeDiff, Nat.reduceEqDiff, Nat.le_refl, not_false_eq_true, not_true_eq_false, false_implies, true_implies, forall_const, true_and, and_true, if_true, if_false, implies_true, and_self, ne_eq, false_and, and_false, or_false, false_or, true_or, or_true]
    exact ⟨⟨rfl, f2⟩, B2⟩
  simp only [pnm, pwd, if_pos z2] at h2 ⊢
  obtain ⟨rfl, T2⟩ := h2
  have v1_2 : gI M2 69 13 = nN (th uW n b (q)) := by rw [A2.I (by rintro ⟨-, z⟩; omega)]; exact v1
  simp (disch := omega) only [q_aload0, q_aload0N, q_get_i, pTag_1, pRf_s, q_table, q_iconst, q_sipush, q_invv2, inv_1, q_zret, q_invv0, q_if_eq, q_goto, q_nop, q_bipush, q_invv1, e_244_13, e_244_14, L_0, L_1, L_10, L_99, L_999, L_1008, L_1009, k_some, k_none, pRm_i, pRm_r, pRm_0, pF_1, pF_2, inv_s, k2, pF_2, nN_le, nN_lt, nN_eq, nN_add, nN_mul, nN_lt0, nN_ge0, nN_gt0, nN_le0, nN_eq0, nN_eq1, nN_neN, pIn_n, pIx_n, eq_self, Nat.reduceLT, Bool.false_eq_true, Nat.add_zero, Nat.zero_add, Nat.reduceAdd, Nat.reduceMul, Nat.reduceSub, Nat.zero_le, Nat.reduceLeDiff, Nat.reduceEqDiff, Nat.le_refl, not_false_eq_true, not_true_eq_false, false_implies, true_implies, forall_const, true_and, and_true, if_true, if_false, implies_true, and_self, ne_eq, false_and, and_false, or_false, false_or, true_or, or_true]
  refine mw_mono (t_second (w := th uW n b q) T2 hw v1_2 (by have := T1.rc.tl q; omega)) ?_
  rintro o M3 ⟨h3, A3⟩
  have B3 : Ag XP M M3 := B2.trans (A3.mono (XF_P (by omega)))
  have k3 : (gS M3 69).1 = 10 := by rw [A3.S]; exact k2
  by_cases y3 : th uW n b (nx9 n b (nx9 n b q)) = th uW n b q
  · simp only [psec, if_pos y3] at h3 ⊢
    obtain ⟨rfl, f3⟩ := h3
    simp (disch := omega) only [q_aload0, q_aload0N, q_get_i, pTag_1, pRf_s, q_table, q_iconst, q_sipush, q_invv2, inv_1, q_zret, q_invv0, q_if_eq, q_goto, q_nop, q_bipush, q_invv1, e_244_13, e_244_14, L_0, L_1, L_10, L_99, L_999, L_1008, L_1009, k_some, k_none, pRm_i, pRm_r, pRm_0, pF_1, pF_2, inv_s, zb_0, nN_le, nN_lt, nN_eq, nN_add, nN_mul, nN_lt0, nN_ge0, nN_gt0, nN_le0, nN_eq0, nN_eq1, nN_neN, pIn_n, pIx_n, eq_self, Nat.reduceLT, Bool.false_eq_true, Nat.add_zero, Nat.zero_add, Nat.reduceAdd, Nat.reduceMul, Nat.reduceSub, Nat.zero_le, Nat.reduceLeDiff, Nat.reduceEqDiff, Nat.le_refl, not_false_eq_true, not_true_eq_false, false_implies, true_implies, forall_const, true_and, and_true, if_true, if_false, implies_true, and_self, ne_eq, false_and, and_false, or_false, false_or, true_or, or_true]
    exact ⟨⟨rfl, f3⟩, B3⟩
  simp only [psec, if_neg y3] at h3 ⊢
  by_cases z3 : 0 ≤ th uW n b (nx9 n b (nx9 n b q)) ∧ th uW n b (nx9 n b (nx9 n b q)) < nP a
  rotate_left
  · simp only [pnm, if_neg z3] at h3 ⊢
    obtain ⟨rfl, f3⟩ := h3
    simp (disch := omega) only [q_aload0, q_aload0N, q_get_i, pTag_1, pRf_s, q_table, q_iconst, q_sipush, q_invv2, inv_1, q_zret, q_invv0, q_if_eq, q_goto, q_nop, q_bipush, q_invv1, e_244_13, e_244_14, L_0, L_1, L_10, L_99, L_999, L_1008, L_1009, k_some, k_none, pRm_i, pRm_r, pRm_0, pF_1, pF_2, inv_s, zb_0, nN_le, nN_lt, nN_eq, nN_add, nN_mul, nN_lt0, nN_ge0, nN_gt0, nN_le0, nN_eq0, nN_eq1, nN_neN, pIn_n, pIx_n, eq_self, Nat.reduceLT, Bool.false_eq_true, Nat.add_zero, Nat.zero_add, Nat.reduceAdd, Nat.reduceMul, Nat.reduceSub, Nat.zero_le, Nat.reduceLeDiff, Nat.reduceEqDiff, Nat.le_refl, not_false_eq_true, not_true_eq_false, false_implies, true_implies, forall_const, true_and, and_true, if_true, if_false, implies_true, and_self, ne_eq, false_and, and_false, or_false, false_or, true_or, or_true]
    exact ⟨⟨rfl, f3⟩, B3⟩
  simp only [pnm, if_pos z3] at h3 ⊢
  obtain ⟨rfl, T3, w3⟩ := h3
  have v1_3 : gI M3 69 13 = nN (th uW n b (q)) := by rw [A3.I (by rintro ⟨-, z⟩; omega)]; exact v1_2
  have v3 : gI M3 69 14 = nN (th uW n b (nx9 n b (nx9 n b q))) := w3
  simp (disch := omega) only [q_aload0, q_aload0N, q_get_i, pTag_1, pRf_s, q_table, q_iconst, q_sipush, q_invv2, inv_1, q_zret, q_invv0, q_if_eq, q_goto, q_nop, q_bipush, q_invv1, e_244_13, e_244_14, L_0, L_1, L_10, L_99, L_999, L_1008, L_1009, k_some, k_none, pRm_i, pRm_r, pRm_0, pF_1, pF_2, inv_s, k3, pF_2, nN_le, nN_lt, nN_eq, nN_add, nN_mul, nN_lt0, nN_ge0, nN_gt0, nN_le0, nN_eq0, nN_eq1, nN_neN, pIn_n, pIx_n, eq_self, Nat.reduceLT, Bool.false_eq_true, Nat.add_zero, Nat.zero_add, Nat.reduceAdd, Nat.reduceMul, Nat.reduceSub, Nat.zero_le, Nat.reduceLeDiff, Nat.reduceEqDiff, Nat.le_refl, not_false_eq_true, not_true_eq_false, false_implies, true_implies, forall_const, true_and, and_true, if_true, if_false, implies_true, and_self, ne_eq, false_and, and_false, or_false, false_or, true_or, or_true]
  refine mw_mono (t_amount (lo := 1) (c := 100) T3 (by omega) nm99 (by omega)) ?_
  rintro o M4 ⟨h4, A4⟩
  have B4 : Ag XP M M4 := B3.trans (A4.mono (XF_P (by omega)))
  have k4 : (gS M4 69).1 = 10 := by rw [A4.S]; exact k3
  by_cases z4 : 1 ≤ th uW n b (nx9 n b (nx9 n b (nx9 n b q))) ∧ th uW n b (nx9 n b (nx9 n b (nx9 n b q))) < 100
  rotate_left
  · simp only [pnm, if_neg z4] at h4 ⊢
    obtain ⟨rfl, f4⟩ := h4
    simp (disch := omega) only [q_aload0, q_aload0N, q_get_i, pTag_1, pRf_s, q_table, q_iconst, q_sipush, q_invv2, inv_1, q_zret, q_invv0, q_if_eq, q_goto, q_nop, q_bipush, q_invv1, e_244_13, e_244_14, L_0, L_1, L_10, L_99, L_999, L_1008, L_1009, k_some, k_none, pRm_i, pRm_r, pRm_0, pF_1, pF_2, inv_s, zb_0, nN_le, nN_lt, nN_eq, nN_add, nN_mul, nN_lt0, nN_ge0, nN_gt0, nN_le0, nN_eq0, nN_eq1, nN_neN, pIn_n, pIx_n, eq_self, Nat.reduceLT, Bool.false_eq_true, Nat.add_zero, Nat.zero_add, Nat.reduceAdd, Nat.reduceMul, Nat.reduceSub, Nat.zero_le, Nat.reduceLeDiff, Nat.reduceEqDiff, Nat.le_refl, not_false_eq_true, not_true_eq_false, false_implies, true_implies, forall_const, true_and, and_true, if_true, if_false, implies_true, and_self, ne_eq, false_and, and_false, or_false, false_or, true_or, or_true]
    exact ⟨⟨rfl, f4⟩, B4⟩
  simp only [pnm, if_pos z4] at h4 ⊢
  obtain ⟨rfl, T4, w4⟩ := h4
  have v1_4 : gI M4 69 13 = nN (th uW n b (q)) := by rw [A4.I (by rintro ⟨-, z⟩; omega)]; exact v1_3
  have v3_4 : gI M4 69 14 = nN (th uW n b (nx9 n b (nx9 n b q))) := by rw [A4.I (by rintro ⟨-, z⟩; omega)]; exact v3
  have v4 : gI M4 69 15 = nN (th uW n b (nx9 n b (nx9 n b (nx9 n b q)))) := w4
  simp (disch := omega) only [q_aload0, q_aload0N, q_get_i, pTag_1, pRf_s, q_table, q_iconst, q_sipush, q_invv2, inv_1, q_zret, q_invv0, q_if_eq, q_goto, q_nop, q_bipush, q_invv1, e_244_13, e_244_14, L_0, L_1, L_10, L_99, L_999, L_1008, L_1009, k_some, k_none, pRm_i, pRm_r, pRm_0, pF_1, pF_2, inv_s, zb_1, nN_le, nN_lt, nN_eq, nN_add, nN_mul, nN_lt0, nN_ge0, nN_gt0, nN_le0, nN_eq0, nN_eq1, nN_neN, pIn_n, pIx_n, eq_self, Nat.reduceLT, Bool.false_eq_true, Nat.add_zero, Nat.zero_add, Nat.reduceAdd, Nat.reduceMul, Nat.reduceSub, Nat.zero_le, Nat.reduceLeDiff, Nat.reduceEqDiff, Nat.le_refl, not_false_eq_true, not_true_eq_false, false_implies, true_implies, forall_const, true_and, and_true, if_true, if_false, implies_true, and_self, ne_eq, false_and, and_false, or_false, false_or, true_or, or_true]
  exact ⟨⟨rfl, T4, ⟨v1_4, v3_4, v4⟩⟩, B4⟩
theorem w_gift (h : TnS M t n b q a) (hw : Wf a) : mw (d + 4) 245 [.ref 69] M (fun o M' => TnP t n b a 1003 (pnm (th uW n b) (nx9 n b) 0 (nP a) q fun x q => pwd (th uW n b) (nx9 n b) 1008 q fun q => psec (th uW n b) (nx9 n b) (nP a) x q fun y q => pnm (th uW n b) (nx9 n b) 1 100 q fun n9 q => if th uW n b q = 1010 then pnm (th uW n b) (nx9 n b) 1 100 (nx9 n b q) fun dd q => pFc (th uW n b) (nx9 n b) x y n9 dd q else pFc (th uW n b) (nx9 n b) x y n9 0 q) o M' ∧ Ag XP M M') := by
  have hp' := hw.p'
  have hf' := hw.f'
  have hn := h.rc.n9
  have k0 := h.k
  -- who is it forced upon
  have fc : ∀ (M5 : pMem) (q5 x y n9 dd : Nat), TnS M5 t n b q5 a → gI M5 69 13 = nN x → gI M5 69 14 = nN y → gI M5 69 15 = nN n9 → gI M5 69 16 = nN dd → Ag XP M M5 → bw (d + 3) 245 4 ([some (.ref 69)], [], M5) (fun o M' => TnP t n b a 1003 (pFc (th uW n b) (nx9 n b) x y n9 dd q5) o M' ∧ Ag XP M M') := by
    intro M5 q5 x y n9 dd h5 e1 e2 e3 e4 A5
    have k5 := h5.k
    have htl := h5.rc.tl q5
    unfold pFc
    rw [e_245_4]
    by_cases c : th uW n b q5 = 1011
    · rw [if_pos c]
      have hq : q5 < n := (h5.rc.lt (by omega)).1
      have A6 : Ag (fun h k => h = 69 ∧ k = 17) M5 (sI M5 69 17 (nN 1)) := Ag.one ⟨rfl, rfl⟩
      have h6 := h5.sc A6 (fun h k z => ⟨z.1, by omega⟩)
      have k6 := h6.k
      have i6 : gI (sI M5 69 17 (nN 1)) 69 17 = nN 1 := by rw [gI_sI, if_pos ⟨rfl, rfl⟩]
      simp (disch := omega) only [q_aload0, q_aload0N, q_invv0, inv_1, q_if_eq, q_sipush, q_invv1, q_iconst, q_bipush, q_invv2, q_if_ne, q_nop, q_zret, q_put_i, pTag_1, q_get_i, pRf_s, q_ic_ne, q_goto, q_put_z, q_get_z, e_245_6, L_0, L_1, L_99, L_1008, L_1010, L_1011, k_some, k_none, pRm_i, pRm_r, pRm_0, pF_1, pF_2, inv_s, k5, k6, h5.rc.tg, c, i6, zb_1, nN_le, nN_lt, nN_eq, nN_add, nN_mul, nN_lt0, nN_ge0, nN_gt0, nN_le0, nN_eq0, nN_eq1, nN_neN, pIn_n, pIx_n, eq_self, Nat.reduceLT, Bool.false_eq_true, Nat.add_zero, Nat.zero_add, Nat.reduceAdd, Nat.reduceMul, Nat.reduceSub, Nat.zero_le, Nat.reduceLeDiff, Nat.reduceEqDiff, Nat.le_refl, not_false_eq_true, not_true_eq_false, false_implies, true_implies, forall_const, true_and, and_true, if_true, if_false, implies_true, and_self, ne_eq, false_and, and_false, or_false, false_or, true_or, or_true]
      refine mw_mono (t_step h6 hq) ?_
      rintro _ M7 ⟨rfl, h7, A7⟩
      simp (disch := omega) only [q_aload0, q_aload0N, q_invv0, inv_1, q_if_eq, q_sipush, q_invv1, q_iconst, q_bipush, q_invv2, q_if_ne, q_nop, q_zret, q_put_i, pTag_1, q_get_i, pRf_s, q_ic_ne, q_goto, q_put_z, q_get_z, e_245_7, L_0, L_1, L_99, L_1008, L_1010, L_1011, k_some, k_none, pRm_i, pRm_r, pRm_0, pF_1, pF_2, inv_s, zb_1, nN_le, nN_lt, nN_eq, nN_add, nN_mul, nN_lt0, nN_ge0, nN_gt0, nN_le0, nN_eq0, nN_eq1, nN_neN, pIn_n, pIx_n, eq_self, Nat.reduceLT, Bool.false_eq_true, Nat.add_zero, Nat.zero_add, Nat.reduceAdd, Nat.reduceMul, Nat.reduceSub, Nat.zero_le, Nat.reduceLeDiff, Nat.reduceEqDiff, Nat.le_refl, not_false_eq_true, not_true_eq_false, false_implies, true_implies, forall_const, true_and, and_true, if_true, if_false, implies_true, and_self, ne_eq, false_and, and_false, or_false, false_or, true_or, or_true]
      have g : ∀ k, 10 ≤ k → k ≠ 17 → gI M7 69 k = gI M5 69 k := fun k hk hk2 => by rw [A7.I (by rintro ⟨-, z⟩; omega), A6.I (by omega)]
      refine ⟨⟨rfl, h7, ?_, ?_, ?_, ?_, ?_⟩, (A5.trans (A6.mono fun h k z => ⟨z.1, by omega, by omega, by omega⟩)).trans (A7.mono RdY_P)⟩
      · rw [g _ (by omega) (by omega)]; exact e1
      · rw [g _ (by omega) (by omega)]; exact e2
      · rw [g _ (by omega) (by omega)]; exact e3
      · rw [g _ (by omega) (by omega)]; exact e4
      · rw [A7.I (by rintro ⟨-, z⟩; omega)]; exact i6
    · rw [if_neg c]
      have A6 : Ag (fun h k => h = 69 ∧ k = 17) M5 (sI M5 69 17 (nN 0)) := Ag.one ⟨rfl, rfl⟩
      have h6 := h5.sc A6 (fun h k z => ⟨z.1, by omega⟩)
      have k6 := h6.k
      have i6 : gI (sI M5 69 17 (nN 0)) 69 17 = nN 0 := by rw [gI_sI, if_pos ⟨rfl, rfl⟩]
      simp (disch := omega) only [q_aload0, q_aload0N, q_invv0, inv_1, q_if_eq, q_sipush, q_invv1, q_iconst, q_bipush, q_invv2, q_if_ne, q_nop, q_zret, q_put_i, pTag_1, q_get_i, pRf_s, q_ic_ne, q_goto, q_put_z, q_get_z, e_245_5, e_245_6, e_245_7, L_0, L_1, L_99, L_1008, L_1010, L_1011, k_some, k_none, pRm_i, pRm_r, pRm_0, pF_1, pF_2, inv_s, k5, k6, h5.rc.tg, c, i6, zb_0, zb_1, nN_le, nN_lt, nN_eq, nN_add, nN_mul, nN_lt0, nN_ge0, nN_gt0, nN_le0, nN_eq0, nN_eq1, nN_neN, pIn_n, pIx_n, eq_self, Nat.reduceLT, Bool.false_eq_true, Nat.add_zero, Nat.zero_add, Nat.reduceAdd, Nat.reduceMul, Nat.reduceSub, Nat.zero_le, Nat.reduceLeDiff, Nat.reduceEqDiff, Nat.le_refl, not_false_eq_true, not_true_eq_false, false_implies, true_implies, forall_const, true_and, and_true, if_true, if_false, implies_true, and_self, ne_eq, false_and, and_false, or_false, false_or, true_or, or_true]
      have g : ∀ k, k ≠ 17 → gI (sI M5 69 17 (nN 0)) 69 k = gI M5 69 k := fun k hk2 => A6.I (by omega)
      refine ⟨⟨rfl, h6, ?_, ?_, ?_, ?_, i6⟩, A5.trans (A6.mono fun h k z => ⟨z.1, by omega, by omega, by omega⟩)⟩
      · rw [g _ (by omega)]; exact e1
      · rw [g _ (by omega)]; exact e2
      · rw [g _ (by omega)]; exact e3
      · rw [g _ (by omega)]; exact e4
  simp (disch := omega) only [m_245, q_aload0, q_aload0N, q_invv0, inv_1, q_if_eq, q_sipush, q_invv1, q_iconst, q_bipush, q_invv2, q_if_ne, q_nop, q_zret, q_put_i, pTag_1, q_get_i, pRf_s, q_ic_ne, q_goto, q_put_z, q_get_z, L_0, L_1, L_99, L_1008, L_1010, L_1011, k_some, k_none, pRm_i, pRm_r, pRm_0, pF_1, pF_2, inv_s, k0, pF_2, eq_self, Nat.reduceLT, Bool.false_eq_true, Nat.add_zero, Nat.zero_add, Nat.reduceAdd, Nat.reduceMul, Nat.reduceSub, Nat.zero_le, Nat.reduceLeDiff, Nat.reduceEqDiff, Nat.le_refl, not_false_eq_true, not_true_eq_false, false_implies, true_implies, forall_const, true_and, and_true, if_true, if_false, implies_true, and_self, ne_eq, false_and, and_false, or_false, false_or, true_or, or_true]
  rw [e_245_0]
  simp (disch := omega) only [q_aload0, q_aload0N, q_invv0, inv_1, q_if_eq, q_sipush, q_invv1, q_iconst, q_bipush, q_invv2, q_if_ne, q_nop, q_zret, q_put_i, pTag_1, q_get_i, pRf_s, q_ic_ne, q_goto, q_put_z, q_get_z, L_0, L_1, L_99, L_1008, L_1010, L_1011, k_some, k_none, pRm_i, pRm_r, pRm_0, pF_1, pF_2, inv_s, k0, pF_2, eq_self, Nat.reduceLT, Bool.false_eq_true, Nat.add_zero, Nat.zero_add, Nat.reduceAdd, Nat.reduceMul, Nat.reduceSub, Nat.zero_le, Nat.reduceLeDiff, Nat.reduceEqDiff, Nat.le_refl, not_false_eq_true, not_true_eq_false, false_implies, true_implies, forall_const, true_and, and_true, if_true, if_false, implies_true, and_self, ne_eq, false_and, and_false, or_false, false_or, true_or, or_true]
  refine mw_mono (t_first h hw) ?_
  rintro o M1 ⟨h1, A1⟩
  have B1 : Ag XP M M1 := A1.mono (XF_P (by omega))
  have k1 : (gS M1 69).1 = 10 := by rw [A1.S]; exact k0
  by_cases z1 : 0 ≤ th uW n b (q) ∧ th uW n b (q) < nP a
  rotate_left
  · rw [pnm, if_neg z1] at h1 ⊢
    obtain ⟨rfl, f1⟩ := h1
    simp (disch := omega) only [q_aload0, q_aload0N, q_invv0, inv_1, q_if_eq, q_sipush, q_invv1, q_iconst, q_bipush, q_invv2, q_if_ne, q_nop, q_zret, q_put_i, pTag_1, q_get_i, pRf_s, q_ic_ne, q_goto, q_put_z, q_get_z, e_245_1, L_0, L_1, L_99, L_1008, L_1010, L_1011, k_some, k_none, pRm_i, pRm_r, pRm_0, pF_1, pF_2, inv_s, zb_0, nN_le, nN_lt, nN_eq, nN_add, nN_mul, nN_lt0, nN_ge0, nN_gt0, nN_le0, nN_eq0, nN_eq1, nN_neN, pIn_n, pIx_n, eq_self, Nat.reduceLT, Bool.false_eq_true, Nat.add_zero, Nat.zero_add, Nat.reduceAdd, Nat.reduceMul, Nat.reduceSub, Nat.zero_le, Nat.reduceLeDiff, Nat.reduceEqDiff, Nat.le_refl, not_false_eq_true, not_true_eq_false, false_implies, true_implies, forall_const, true_and, and_true, if_true, if_false, implies_true, and_self, ne_eq, false_and, and_false, or_false, false_or, true_or, or_true]
    exact ⟨⟨rfl, f1⟩, B1⟩
  rw [pnm, if_pos z1] at h1 ⊢
  obtain ⟨rfl, T1, v1⟩ := h1
  simp (disch := omega) only [q_aload0, q_aload0N, q_invv0, inv_1, q_if_eq, q_sipush, q_invv1, q_iconst, q_bipush, q_invv2, q_if_ne, q_nop, q_zret, q_put_i, pTag_1, q_get_i, pRf_s, q_ic_ne, q_goto, q_put_z, q_get_z, L_0, L_1, L_99, L_1008, L_1010, L_1011, k_some, k_none, pRm_i, pRm_r, pRm_0, pF_1, pF_2, inv_s, k1, pF_2, nN_le, nN_lt, nN_eq, nN_add, nN_mul, nN_lt0, nN_ge0, nN_gt0, nN_le0, nN_eq0, nN_eq1, nN_neN, pIn_n, pIx_n, eq_self, Nat.reduceLT, Bool.false_eq_true, Nat.add_zero, Nat.zero_add, Nat.reduceAdd, Nat.reduceMul, Nat.reduceSub, Nat.zero_le, Nat.reduceLeDiff, Nat.reduceEqDiff, Nat.le_refl, not_false_eq_true, not_true_eq_false, false_implies, true_implies, forall_const, true_and, and_true, if_true, if_false, implies_true, and_self, ne_eq, false_and, and_false, or_false, false_or, true_or, or_true]
  refine mw_mono (t_follows (c := 1008) T1 (by omega)) ?_
  rintro o M2 ⟨h2, A2⟩
  have B2 : Ag XP M M2 := B1.trans (A2.mono RdY_P)
  have k2 : (gS M2 69).1 = 10 := by rw [A2.S]; exact k1
  by_cases z2 : th uW n b (nx9 n b q) = 1008
  rotate_left
  · rw [pwd, if_neg z2]
    rw [if_neg z2] at h2
    obtain ⟨rfl, f2⟩ := h2
    simp (disch := omega) only [q_aload0, q_aload0N, q_invv0, inv_1, q_if_eq, q_sipush, q_invv1, q_iconst, q_bipush, q_invv2, q_if_ne, q_nop, q_zret, q_put_i, pTag_1, q_get_i, pRf_s, q_ic_ne, q_goto, q_put_z, q_get_z, e_245_1, L_0, L_1, L_99, L_1008, L_1010, L_1011, k_some, k_none, pRm_i, pRm_r, pRm_0, pF_1, pF_2, inv_s, zb_0, nN_le, nN_lt, nN_eq, nN_add, nN_mul, nN_lt0, nN_ge0, nN_gt0, nN_le0, nN_eq0, nN_eq1, nN_neN, pIn_n, pIx_n, eq_self, Nat.reduceLT, Bool.false_eq_true, Nat.add_zero, Nat.zero_add, Nat.reduceAdd, Nat.reduceMul, Nat.reduceSub, Nat.zero_le, Nat.reduceLeDiff, Nat.reduceEqDiff, Nat.le_refl, not_false_eq_true, not_true_eq_false, false_implies, true_implies, forall_const, true_and, and_true, if_true, if_false, implies_true, and_self, ne_eq, false_and, and_false, or_false, false_or, true_or, or_true]
    exact ⟨⟨rfl, f2⟩, B2⟩
  rw [pwd, if_pos z2]
  rw [if_pos z2] at h2
  obtain ⟨rfl, T2⟩ := h2
  have v1_2 : gI M2 69 13 = nN (th uW n b (q)) := by rw [A2.I (by rintro ⟨-, z⟩; omega)]; exact v1
  simp (disch := omega) only [q_aload0, q_aload0N, q_invv0, inv_1, q_if_eq, q_sipush, q_invv1, q_iconst, q_bipush, q_invv2, q_if_ne, q_nop, q_zret, q_put_i, pTag_1, q_get_i, pRf_s, q_ic_ne, q_goto, q_put_z, q_get_z, L_0, L_1, L_99, L_1008, L_1010, L_1011, k_some, k_none, pRm_i, pRm_r, pRm_0, pF_1, pF_2, inv_s, k2, pF_2, nN_le, nN_lt, nN_eq, nN_add, nN_mul, nN_lt0, nN_ge0, nN_gt0, nN_le0, nN_eq0, nN_eq1, nN_neN, pIn_n, pIx_n, eq_self, Nat.reduceLT, Bool.false_eq_true, Nat.add_zero, Nat.zero_add, Nat.reduceAdd, Nat.reduceMul, Nat.reduceSub, Nat.zero_le, Nat.reduceLeDiff, Nat.reduceEqDiff, Nat.le_refl, not_false_eq_true, not_true_eq_false, false_implies, true_implies, forall_const, true_and, and_true, if_true, if_false, implies_true, and_self, ne_eq, false_and, and_false, or_false, false_or, true_or, or_true]
  refine mw_mono (t_second (w := th uW n b q) T2 hw v1_2 (by have := T1.rc.tl q; omega)) ?_
  rintro o M3 ⟨h3, A3⟩
  have B3 : Ag XP M M3 := B2.trans (A3.mono (XF_P (by omega)))
  have k3 : (gS M3 69).1 = 10 := by rw [A3.S]; exact k2
  by_cases y3 : th uW n b (nx9 n b (nx9 n b q)) = th uW n b q
  · rw [psec, if_pos y3] at h3 ⊢
    obtain ⟨rfl, f3⟩ := h3
    simp (disch := omega) only [q_aload0, q_aload0N, q_invv0, inv_1, q_if_eq, q_sipush, q_invv1, q_iconst, q_bipush, q_invv2, q_if_ne, q_nop, q_zret, q_put_i, pTag_1, q_get_i, pRf_s, q_ic_ne, q_goto, q_put_z, q_get_z, e_245_1, L_0, L_1, L_99, L_1008, L_1010, L_1011, k_some, k_none, pRm_i, pRm_r, pRm_0, pF_1, pF_2, inv_s, zb_0, nN_le, nN_lt, nN_eq, nN_add, nN_mul, nN_lt0, nN_ge0, nN_gt0, nN_le0, nN_eq0, nN_eq1, nN_neN, pIn_n, pIx_n, eq_self, Nat.reduceLT, Bool.false_eq_true, Nat.add_zero, Nat.zero_add, Nat.reduceAdd, Nat.reduceMul, Nat.reduceSub, Nat.zero_le, Nat.reduceLeDiff, Nat.reduceEqDiff, Nat.le_refl, not_false_eq_true, not_true_eq_false, false_implies, true_implies, forall_const, true_and, and_true, if_true, if_false, implies_true, and_self, ne_eq, false_and, and_false, or_false, false_or, true_or, or_true]
    exact ⟨⟨rfl, f3⟩, B3⟩
  rw [psec, if_neg y3] at h3 ⊢
  by_cases z3 : 0 ≤ th uW n b (nx9 n b (nx9 n b q)) ∧ th uW n b (nx9 n b (nx9 n b q)) < nP a
  rotate_left
  · rw [pnm, if_neg z3] at h3 ⊢
    obtain ⟨rfl, f3⟩ := h3
    simp (disch := omega) only [q_aload0, q_aload0N, q_invv0, inv_1, q_if_eq, q_sipush, q_invv1, q_iconst, q_bipush, q_invv2, q_if_ne, q_nop, q_zret, q_put_i, pTag_1, q_get_i, pRf_s, q_ic_ne, q_goto, q_put_z, q_get_z, e_245_1, L_0, L_1, L_99, L_1008, L_1010, L_1011, k_some, k_none, pRm_i, pRm_r, pRm_0, pF_1, pF_2, inv_s, zb_0, nN_le, nN_lt, nN_eq, nN_add, nN_mul, nN_lt0, nN_ge0, nN_gt0, nN_le0, nN_eq0, nN_eq1, nN_neN, pIn_n, pIx_n, eq_self, Nat.reduceLT, Bool.false_eq_true, Nat.add_zero, Nat.zero_add, Nat.reduceAdd, Nat.reduceMul, Nat.reduceSub, Nat.zero_le, Nat.reduceLeDiff, Nat.reduceEqDiff, Nat.le_refl, not_false_eq_true, not_true_eq_false, false_implies, true_implies, forall_const, true_and, and_true, if_true, if_false, implies_true, and_self, ne_eq, false_and, and_false, or_false, false_or, true_or, or_true]
    exact ⟨⟨rfl, f3⟩, B3⟩
  rw [pnm, if_pos z3] at h3 ⊢
  obtain ⟨rfl, T3, v3⟩ := h3
  have v1_3 : gI M3 69 13 = nN (th uW n b (q)) := by rw [A3.I (by rintro ⟨-, z⟩; omega)]; exact v1_2
  simp (disch := omega) only [q_aload0, q_aload0N, q_invv0, inv_1, q_if_eq, q_sipush, q_invv1, q_iconst, q_bipush, q_invv2, q_if_ne, q_nop, q_zret, q_put_i, pTag_1, q_get_i, pRf_s, q_ic_ne, q_goto, q_put_z, q_get_z, L_0, L_1, L_99, L_1008, L_1010, L_1011, k_some, k_none, pRm_i, pRm_r, pRm_0, pF_1, pF_2, inv_s, k3, pF_2, nN_le, nN_lt, nN_eq, nN_add, nN_mul, nN_lt0, nN_ge0, nN_gt0, nN_le0, nN_eq0, nN_eq1, nN_neN, pIn_n, pIx_n, eq_self, Nat.reduceLT, Bool.false_eq_true, Nat.add_zero, Nat.zero_add, Nat.reduceAdd, Nat.reduceMul, Nat.reduceSub, Nat.zero_le, Nat.reduceLeDiff, Nat.reduceEqDiff, Nat.le_refl, not_false_eq_true, not_true_eq_false, false_implies, true_implies, forall_const, true_and, and_true, if_true, if_false, implies_true, and_self, ne_eq, false_and, and_false, or_false, false_or, true_or, or_true]
  refine mw_mono (t_amount (lo := 1) (c := 100) T3 (by omega) nm99 (by omega)) ?_
  rintro o M4 ⟨h4, A4⟩
  have B4 : Ag XP M M4 := B3.trans (A4.mono (XF_P (by omega)))
  have k4 : (gS M4 69).1 = 10 := by rw [A4.S]; exact k3
  by_cases z4 : 1 ≤ th uW n b (nx9 n b (nx9 n b (nx9 n b q))) ∧ th uW n b (nx9 n b (nx9 n b (nx9 n b q))) < 100
  rotate_left
  · rw [pnm, if_neg z4] at h4 ⊢
    obtain ⟨rfl, f4⟩ := h4
    simp (disch := omega) only [q_aload0, q_aload0N, q_invv0, inv_1, q_if_eq, q_sipush, q_invv1, q_iconst, q_bipush, q_invv2, q_if_ne, q_nop, q_zret, q_put_i, pTag_1, q_get_i, pRf_s, q_ic_ne, q_goto, q_put_z, q_get_z, e_245_1, L_0, L_1, L_99, L_1008, L_1010, L_1011, k_some, k_none, pRm_i, pRm_r, pRm_0, pF_1, pF_2, inv_s, zb_0, nN_le, nN_lt, nN_eq, nN_add, nN_mul, nN_lt0, nN_ge0, nN_gt0, nN_le0, nN_eq0, nN_eq1, nN_neN, pIn_n, pIx_n, eq_self, Nat.reduceLT, Bool.false_eq_true, Nat.add_zero, Nat.zero_add, Nat.reduceAdd, Nat.reduceMul, Nat.reduceSub, Nat.zero_le, Nat.reduceLeDiff, Nat.reduceEqDiff, Nat.le_refl, not_false_eq_true, not_true_eq_false, false_implies, true_implies, forall_const, true_and, and_true, if_true, if_false, implies_true, and_self, ne_eq, false_and, and_false, or_false, false_or, true_or, or_true]
    exact ⟨⟨rfl, f4⟩, B4⟩
  rw [pnm, if_pos z4] at h4 ⊢
  obtain ⟨rfl, T4, v4⟩ := h4
  have v1_4 : gI M4 69 13 = nN (th uW n b (q)) := by rw [A4.I (by rintro ⟨-, z⟩; omega)]; exact v1_3
  have v3_4 : gI M4 69 14 = nN (th uW n b (nx9 n b (nx9 n b q))) := by rw [A4.I (by rintro ⟨-, z⟩; omega)]; exact v3
  simp (disch := omega) only [q_aload0, q_aload0N, q_invv0, inv_1, q_if_eq, q_sipush, q_invv1, q_iconst, q_bipush, q_invv2, q_if_ne, q_nop, q_zret, q_put_i, pTag_1, q_get_i, pRf_s, q_ic_ne, q_goto, q_put_z, q_get_z, L_0, L_1, L_99, L_1008, L_1010, L_1011, k_some, k_none, pRm_i, pRm_r, pRm_0, pF_1, pF_2, inv_s, k4, pF_2, nN_le, nN_lt, nN_eq, nN_add, nN_mul, nN_lt0, nN_ge0, nN_gt0, nN_le0, nN_eq0, nN_eq1, nN_neN, pIn_n, pIx_n, eq_self, Nat.reduceLT, Bool.false_eq_true, Nat.add_zero, Nat.zero_add, Nat.reduceAdd, Nat.reduceMul, Nat.reduceSub, Nat.zero_le, Nat.reduceLeDiff, Nat.reduceEqDiff, Nat.le_refl, not_false_eq_true, not_true_eq_false, false_implies, true_implies, forall_const, true_and, and_true, if_true, if_false, implies_true, and_self, ne_eq, false_and, and_false, or_false, false_or, true_or, or_true]
  have A5 : Ag (fun h k => h = 69 ∧ k = 16) M4 (sI M4 69 16 (nN 0)) := Ag.one ⟨rfl, rfl⟩
  have T5 := T4.sc A5 (fun h k z => ⟨z.1, by omega⟩)
  have B5 := B4.trans (A5.mono (Y := XP) fun h k z => ⟨z.1, by omega, by omega, by omega⟩)
  have k5 := T5.k
  have g5 : ∀ k, k ≠ 16 → gI (sI M4 69 16 (nN 0)) 69 k = gI M4 69 k := fun k hk => A5.I (by omega)
  have t5 := T5.rc.tg
  have l5 := T5.rc.tl (nx9 n b (nx9 n b (nx9 n b (nx9 n b q))))
  rw [e_245_2]
  by_cases c : th uW n b (nx9 n b (nx9 n b (nx9 n b (nx9 n b q)))) = 1010
  · rw [if_pos c]
    have hq : nx9 n b (nx9 n b (nx9 n b (nx9 n b q))) < n := (T5.rc.lt (by rw [c]; omega)).1
    simp (disch := omega) only [q_aload0, q_aload0N, q_invv0, inv_1, q_if_eq, q_sipush, q_invv1, q_iconst, q_bipush, q_invv2, q_if_ne, q_nop, q_zret, q_put_i, pTag_1, q_get_i, pRf_s, q_ic_ne, q_goto, q_put_z, q_get_z, L_0, L_1, L_99, L_1008, L_1010, L_1011, k_some, k_none, pRm_i, pRm_r, pRm_0, pF_1, pF_2, inv_s, k4, k5, t5, c, nN_le, nN_lt, nN_eq, nN_add, nN_mul, nN_lt0, nN_ge0, nN_gt0, nN_le0, nN_eq0, nN_eq1, nN_neN, pIn_n, pIx_n, eq_self, Nat.reduceLT, Bool.false_eq_true, Nat.add_zero, Nat.zero_add, Nat.reduceAdd, Nat.reduceMul, Nat.reduceSub, Nat.zero_le, Nat.reduceLeDiff, Nat.reduceEqDiff, Nat.le_refl, not_false_eq_true, not_true_eq_false, false_implies, true_implies, forall_const, true_and, and_true, if_true, if_false, implies_true, and_self, ne_eq, false_and, and_false, or_false, false_or, true_or, or_true]
    refine mw_mono (t_step T5 hq) ?_
    rintro _ M6 ⟨rfl, T6, A6⟩
    have B6 := B5.trans (A6.mono RdY_P)
    have k6 := T6.k
    simp (disch := omega) only [q_aload0, q_aload0N, q_invv0, inv_1, q_if_eq, q_sipush, q_invv1, q_iconst, q_bipush, q_invv2, q_if_ne, q_nop, q_zret, q_put_i, pTag_1, q_get_i, pRf_s, q_ic_ne, q_goto, q_put_z, q_get_z, L_0, L_1, L_99, L_1008, L_1010, L_1011, k_some, k_none, pRm_i, pRm_r, pRm_0, pF_1, pF_2, inv_s, k6, pF_2, nN_le, nN_lt, nN_eq, nN_add, nN_mul, nN_lt0, nN_ge0, nN_gt0, nN_le0, nN_eq0, nN_eq1, nN_neN, pIn_n, pIx_n, eq_self, Nat.reduceLT, Bool.false_eq_true, Nat.add_zero, Nat.zero_add, Nat.reduceAdd, Nat.reduceMul, Nat.reduceSub, Nat.zero_le, Nat.reduceLeDiff, Nat.reduceEqDiff, Nat.le_refl, not_false_eq_true, not_true_eq_false, false_implies, true_implies, forall_const, true_and, and_true, if_true, if_false, implies_true, and_self, ne_eq, false_and, and_false, or_false, false_or, true_or, or_true]
    refine mw_mono (t_number (lo := 1) (c := 100) T6 (by omega) nm99 (by omega)) ?_
    rintro o M7 ⟨h7, w7, A7⟩
    have B7 := B6.trans (A7.mono RdY_P)
    have k7 : (gS M7 69).1 = 10 := by rw [A7.S]; exact k6
    have g7 : ∀ k, 10 ≤ k → k ≠ 16 → gI M7 69 k = gI M4 69 k := fun k hk hk2 => by rw [A7.I (by rintro ⟨-, z⟩; omega), A6.I (by rintro ⟨-, z⟩; omega), g5 k hk2]
    by_cases z7 : 1 ≤ th uW n b (nx9 n b (nx9 n b (nx9 n b (nx9 n b (nx9 n b q))))) ∧ th uW n b (nx9 n b (nx9 n b (nx9 n b (nx9 n b (nx9 n b q))))) < 100
    rotate_left
    · rw [pnm, if_neg z7]
      rw [if_neg z7] at h7
      obtain ⟨rfl, f7⟩ := h7
      simp (disch := omega) only [q_aload0, q_aload0N, q_invv0, inv_1, q_if_eq, q_sipush, q_invv1, q_iconst, q_bipush, q_invv2, q_if_ne, q_nop, q_zret, q_put_i, pTag_1, q_get_i, pRf_s, q_ic_ne, q_goto, q_put_z, q_get_z, e_245_1, L_0, L_1, L_99, L_1008, L_1010, L_1011, k_some, k_none, pRm_i, pRm_r, pRm_0, pF_1, pF_2, inv_s, zb_0, nN_le, nN_lt, nN_eq, nN_add, nN_mul, nN_lt0, nN_ge0, nN_gt0, nN_le0, nN_eq0, nN_eq1, nN_neN, pIn_n, pIx_n, eq_self, Nat.reduceLT, Bool.false_eq_true, Nat.add_zero, Nat.zero_add, Nat.reduceAdd, Nat.reduceMul, Nat.reduceSub, Nat.zero_le, Nat.reduceLeDiff, Nat.reduceEqDiff, Nat.le_refl, not_false_eq_true, not_true_eq_false, false_implies, true_implies, forall_const, true_and, and_true, if_true, if_false, implies_true, and_self, ne_eq, false_and, and_false, or_false, false_or, true_or, or_true]
      exact ⟨⟨rfl, f7⟩, B7⟩
    rw [pnm, if_pos z7]
    rw [if_pos z7] at h7
    obtain ⟨rfl, T7⟩ := h7
    have A8 : Ag (fun h k => h = 69 ∧ k = 16) M7 (sI M7 69 16 (gI M7 69 8)) := Ag.one ⟨rfl, rfl⟩
    have T8 := T7.sc A8 (fun h k z => ⟨z.1, by omega⟩)
    have g8 : ∀ k, 10 ≤ k → k ≠ 16 → gI (sI M7 69 16 (gI M7 69 8)) 69 k = gI M4 69 k := fun k hk hk2 => by rw [A8.I (by omega), g7 k hk hk2]
    simp (disch := omega) only [q_aload0, q_aload0N, q_invv0, inv_1, q_if_eq, q_sipush, q_invv1, q_iconst, q_bipush, q_invv2, q_if_ne, q_nop, q_zret, q_put_i, pTag_1, q_get_i, pRf_s, q_ic_ne, q_goto, q_put_z, q_get_z, e_245_3, L_0, L_1, L_99, L_1008, L_1010, L_1011, k_some, k_none, pRm_i, pRm_r, pRm_0, pF_1, pF_2, inv_s, k7, nN_le, nN_lt, nN_eq, nN_add, nN_mul, nN_lt0, nN_ge0, nN_gt0, nN_le0, nN_eq0, nN_eq1, nN_neN, pIn_n, pIx_n, eq_self, Nat.reduceLT, Bool.false_eq_true, Nat.add_zero, Nat.zero_add, Nat.reduceAdd, Nat.reduceMul, Nat.reduceSub, Nat.zero_le, Nat.reduceLeDiff, Nat.reduceEqDiff, Nat.le_refl, not_false_eq_true, not_true_eq_false, false_implies, true_implies, forall_const, true_and, and_true, if_true, if_false, implies_true, and_self, ne_eq, false_and, and_false, or_false, false_or, true_or, or_true]
    exact fc _ _ _ _ _ _ T8 (by rw [g8 _ (by omega) (by omega)]; exact v1_4) (by rw [g8 _ (by omega) (by omega)]; exact v3_4) (by rw [g8 _ (by omega) (by omega)]; exact v4) (by rw [gI_sI, if_pos ⟨rfl, rfl⟩]; exact w7 z7) (B7.trans (A8.mono fun h k z => ⟨z.1, by omega, by omega, by omega⟩))
  · rw [if_neg c]
    simp (disch := omega) only [q_aload0, q_aload0N, q_invv0, inv_1, q_if_eq, q_sipush, q_invv1, q_iconst, q_bipush, q_invv2, q_if_ne, q_nop, q_zret, q_put_i, pTag_1, q_get_i, pRf_s, q_ic_ne, q_goto, q_put_z, q_get_z, L_0, L_1, L_99, L_1008, L_1010, L_1011, k_some, k_none, pRm_i, pRm_r, pRm_0, pF_1, pF_2, inv_s, k4, k5, t5, c, nN_le, nN_lt, nN_eq, nN_add, nN_mul, nN_lt0, nN_ge0, nN_gt0, nN_le0, nN_eq0, nN_eq1, nN_neN, pIn_n, pIx_n, eq_self, Nat.reduceLT, Bool.false_eq_true, Nat.add_zero, Nat.zero_add, Nat.reduceAdd, Nat.reduceMul, Nat.reduceSub, Nat.zero_le, Nat.reduceLeDiff, Nat.reduceEqDiff, Nat.le_refl, not_false_eq_true, not_true_eq_false, false_implies, true_implies, forall_const, true_and, and_true, if_true, if_false, implies_true, and_self, ne_eq, false_and, and_false, or_false, false_or, true_or, or_true]
    exact fc _ _ _ _ _ _ T5 (by rw [g5 _ (by omega)]; exact v1_4) (by rw [g5 _ (by omega)]; exact v3_4) (by rw [g5 _ (by omega)]; exact v4) (by rw [gI_sI, if_pos ⟨rfl, rfl⟩]) B5
theorem p_1003 (h : TnS M t n b q a) (hw : Wf a) (hv : gI M 69 11 = nN 1003) : mw (d + 6) 244 [.ref 69] M (fun o M' => TnP t n b a 1003 (pAr (th uW n b) (nx9 n b) (nP a) (nF a) 1003 q) o M' ∧ Ag XP M M') := by
  have k0 := h.k
  rw [show pAr (th uW n b) (nx9 n b) (nP a) (nF a) 1003 q = (pnm (th uW n b) (nx9 n b) 0 (nP a) q fun x q => pwd (th uW n b) (nx9 n b) 1008 q fun q => psec (th uW n b) (nx9 n b) (nP a) x q fun y q => pnm (th uW n b) (nx9 n b) 1 100 q fun n9 q => if th uW n b q = 1010 then pnm (th uW n b) (nx9 n b) 1 100 (nx9 n b q) fun dd q => pFc (th uW n b) (nx9 n b) x y n9 dd q else pFc (th uW n b) (nx9 n b) x y n9 0 q) from rfl]
  rw [sw244_1003 k0 hv, e_244_6]
  simp (disch := omega) only [q_aload0, q_aload0N, q_get_i, pTag_1, pRf_s, q_table, q_iconst, q_sipush, q_invv2, inv_1, q_zret, q_invv0, q_if_eq, q_goto, q_nop, q_bipush, q_invv1, e_244_0, L_0, L_1, L_10, L_99, L_999, L_1008, L_1009, k_some, k_none, pRm_i, pRm_r, pRm_0, pF_1, pF_2, inv_s, k0, pF_2, eq_self, Nat.reduceLT, Bool.false_eq_true, Nat.add_zero, Nat.zero_add, Nat.reduceAdd, Nat.reduceMul, Nat.reduceSub, Nat.zero_le, Nat.reduceLeDiff, Nat.reduceEqDiff, Nat.le_refl, not_false_eq_true, not_true_eq_false, false_implies, true_implies, forall_const, true_and, and_true, if_true, if_false, implies_true, and_self, ne_eq, false_and, and_false, or_false, false_or, true_or, or_true]
  refine mw_mono (w_gift h hw) ?_
  rintro o M1 ⟨h1, A1⟩
  revert h1
  cases (pnm (th uW n b) (nx9 n b) 0 (nP a) q fun x q => pwd (th uW n b) (nx9 n b) 1008 q fun q => psec (th uW n b) (nx9 n b) (nP a) x q fun y q => pnm (th uW n b) (nx9 n b) 1 100 q fun n9 q => if th uW n b q = 1010 then pnm (th uW n b) (nx9 n b) 1 100 (nx9 n b q) fun dd q => pFc (th uW n b) (nx9 n b) x y n9 dd q else pFc (th uW n b) (nx9 n b) x y n9 0 q : pAg) with
  | inl e =>
    rintro ⟨rfl, f1⟩
    simp (disch := omega) only [q_aload0, q_aload0N, q_get_i, pTag_1, pRf_s, q_table, q_iconst, q_sipush, q_invv2, inv_1, q_zret, q_invv0, q_if_eq, q_goto, q_nop, q_bipush, q_invv1, e_244_0, L_0, L_1, L_10, L_99, L_999, L_1008, L_1009, k_some, k_none, pRm_i, pRm_r, pRm_0, pF_1, pF_2, inv_s, zb_0, nN_le, nN_lt, nN_eq, nN_add, nN_mul, nN_lt0, nN_ge0, nN_gt0, nN_le0, nN_eq0, nN_eq1, nN_neN, pIn_n, pIx_n, eq_self, Nat.reduceLT, Bool.false_eq_true, Nat.add_zero, Nat.zero_add, Nat.reduceAdd, Nat.reduceMul, Nat.reduceSub, Nat.zero_le, Nat.reduceLeDiff, Nat.reduceEqDiff, Nat.le_refl, not_false_eq_true, not_true_eq_false, false_implies, true_implies, forall_const, true_and, and_true, if_true, if_false, implies_true, and_self, ne_eq, false_and, and_false, or_false, false_or, true_or, or_true]
    exact ⟨⟨rfl, f1⟩, A1⟩
  | inr s =>
    rintro ⟨rfl, f1⟩
    simp (disch := omega) only [q_aload0, q_aload0N, q_get_i, pTag_1, pRf_s, q_table, q_iconst, q_sipush, q_invv2, inv_1, q_zret, q_invv0, q_if_eq, q_goto, q_nop, q_bipush, q_invv1, e_244_0, L_0, L_1, L_10, L_99, L_999, L_1008, L_1009, k_some, k_none, pRm_i, pRm_r, pRm_0, pF_1, pF_2, inv_s, zb_1, nN_le, nN_lt, nN_eq, nN_add, nN_mul, nN_lt0, nN_ge0, nN_gt0, nN_le0, nN_eq0, nN_eq1, nN_neN, pIn_n, pIx_n, eq_self, Nat.reduceLT, Bool.false_eq_true, Nat.add_zero, Nat.zero_add, Nat.reduceAdd, Nat.reduceMul, Nat.reduceSub, Nat.zero_le, Nat.reduceLeDiff, Nat.reduceEqDiff, Nat.le_refl, not_false_eq_true, not_true_eq_false, false_implies, true_implies, forall_const, true_and, and_true, if_true, if_false, implies_true, and_self, ne_eq, false_and, and_false, or_false, false_or, true_or, or_true]
    exact ⟨⟨rfl, f1⟩, A1⟩
end TPt
