/-! THE CLASS READS A LINE OF THE TOWN: all of it -/
section TLa
variable {d t n u q m c s p x y v k K lo f : Nat} {a a' ak : Nat → Int32} {b b' : Nat → Nat} {M M1 M2 M3 M' : pMem} {Q : pOut → pMem → Prop} {hi : Int32}
theorem XV_N {S : Nat → Nat × Nat} {P : Nat → Nat → Option Nat} : ∀ h k, XV h k → XN S P h k := fun h k z => Or.inl ⟨z.1, z.2.1⟩
theorem XP_N {S : Nat → Nat × Nat} {P : Nat → Nat → Option Nat} : ∀ h k, XP h k → XN S P h k := fun h k z => Or.inl ⟨z.1, z.2.1⟩
theorem sw242_1000 (hk : (gS M 69).1 = 10) (hv : gI M 69 11 = nN 1000) : bw d 242 2 ([some (.ref 69)], [], M) Q = bw d 242 3 ([some (.ref 69)], [], M) Q := by
  rw [e_242_2]
  simp (disch := omega) only [q_aload0, q_aload0N, q_invv0, inv_1, q_if_eq, q_if_ne, q_nop, q_iconst, q_zret, q_get_i, pTag_1, pRf_s, q_table, q_get_r, q_invv1, q_goto, q_invv2, q_put_i, q_get_z, q_invv5, q_pop_i, q_pop_r, q_invv3, L_0, L_1, k_some, k_none, pRm_i, pRm_r, pRm_0, pF_1, pF_2, inv_s, hk, hv, nN_toInt, eq_self, Nat.reduceLT, Bool.false_eq_true, Nat.add_zero, Nat.zero_add, Nat.reduceAdd, Nat.reduceMul, Nat.reduceSub, Nat.zero_le, Nat.reduceLeDiff, Nat.reduceEqDiff, Nat.le_refl, not_false_eq_true, not_true_eq_false, false_implies, true_implies, forall_const, true_and, and_true, if_true, if_false, implies_true, and_self, ne_eq, false_and, and_false, or_false, false_or, true_or, or_true]
  simp [swt]
theorem sw242_1001 (hk : (gS M 69).1 = 10) (hv : gI M 69 11 = nN 1001) : bw d 242 2 ([some (.ref 69)], [], M) Q = bw d 242 4 ([some (.ref 69)], [], M) Q := by
  rw [e_242_2]
  simp (disch := omega) only [q_aload0, q_aload0N, q_invv0, inv_1, q_if_eq, q_if_ne, q_nop, q_iconst, q_zret, q_get_i, pTag_1, pRf_s, q_table, q_get_r, q_invv1, q_goto, q_invv2, q_put_i, q_get_z, q_invv5, q_pop_i, q_pop_r, q_invv3, L_0, L_1, k_some, k_none, pRm_i, pRm_r, pRm_0, pF_1, pF_2, inv_s, hk, hv, nN_toInt, eq_self, Nat.reduceLT, Bool.false_eq_true, Nat.add_zero, Nat.zero_add, Nat.reduceAdd, Nat.reduceMul, Nat.reduceSub, Nat.zero_le, Nat.reduceLeDiff, Nat.reduceEqDiff, Nat.le_refl, not_false_eq_true, not_true_eq_false, false_implies, true_implies, forall_const, true_and, and_true, if_true, if_false, implies_true, and_self, ne_eq, false_and, and_false, or_false, false_or, true_or, or_true]
  simp [swt]
theorem sw242_1002 (hk : (gS M 69).1 = 10) (hv : gI M 69 11 = nN 1002) : bw d 242 2 ([some (.ref 69)], [], M) Q = bw d 242 5 ([some (.ref 69)], [], M) Q := by
  rw [e_242_2]
  simp (disch := omega) only [q_aload0, q_aload0N, q_invv0, inv_1, q_if_eq, q_if_ne, q_nop, q_iconst, q_zret, q_get_i, pTag_1, pRf_s, q_table, q_get_r, q_invv1, q_goto, q_invv2, q_put_i, q_get_z, q_invv5, q_pop_i, q_pop_r, q_invv3, L_0, L_1, k_some, k_none, pRm_i, pRm_r, pRm_0, pF_1, pF_2, inv_s, hk, hv, nN_toInt, eq_self, Nat.reduceLT, Bool.false_eq_true, Nat.add_zero, Nat.zero_add, Nat.reduceAdd, Nat.reduceMul, Nat.reduceSub, Nat.zero_le, Nat.reduceLeDiff, Nat.reduceEqDiff, Nat.le_refl, not_false_eq_true, not_true_eq_false, false_implies, true_implies, forall_const, true_and, and_true, if_true, if_false, implies_true, and_self, ne_eq, false_and, and_false, or_false, false_or, true_or, or_true]
  simp [swt]
theorem sw242_1003 (hk : (gS M 69).1 = 10) (hv : gI M 69 11 = nN 1003) : bw d 242 2 ([some (.ref 69)], [], M) Q = bw d 242 6 ([some (.ref 69)], [], M) Q := by
  rw [e_242_2]
  simp (disch := omega) only [q_aload0, q_aload0N, q_invv0, inv_1, q_if_eq, q_if_ne, q_nop, q_iconst, q_zret, q_get_i, pTag_1, pRf_s, q_table, q_get_r, q_invv1, q_goto, q_invv2, q_put_i, q_get_z, q_invv5, q_pop_i, q_pop_r, q_invv3, L_0, L_1, k_some, k_none, pRm_i, pRm_r, pRm_0, pF_1, pF_2, inv_s, hk, hv, nN_toInt, eq_self, Nat.reduceLT, Bool.false_eq_true, Nat.add_zero, Nat.zero_add, Nat.reduceAdd, Nat.reduceMul, Nat.reduceSub, Nat.zero_le, Nat.reduceLeDiff, Nat.reduceEqDiff, Nat.le_refl, not_false_eq_true, not_true_eq_false, false_implies, true_implies, forall_const, true_and, and_true, if_true, if_false, implies_true, and_self, ne_eq, false_and, and_false, or_false, false_or, true_or, or_true]
  simp [swt]
theorem sw242_1004 (hk : (gS M 69).1 = 10) (hv : gI M 69 11 = nN 1004) : bw d 242 2 ([some (.ref 69)], [], M) Q = bw d 242 7 ([some (.ref 69)], [], M) Q := by
  rw [e_242_2]
  simp (disch := omega) only [q_aload0, q_aload0N, q_invv0, inv_1, q_if_eq, q_if_ne, q_nop, q_iconst, q_zret, q_get_i, pTag_1, pRf_s, q_table, q_get_r, q_invv1, q_goto, q_invv2, q_put_i, q_get_z, q_invv5, q_pop_i, q_pop_r, q_invv3, L_0, L_1, k_some, k_none, pRm_i, pRm_r, pRm_0, pF_1, pF_2, inv_s, hk, hv, nN_toInt, eq_self, Nat.reduceLT, Bool.false_eq_true, Nat.add_zero, Nat.zero_add, Nat.reduceAdd, Nat.reduceMul, Nat.reduceSub, Nat.zero_le, Nat.reduceLeDiff, Nat.reduceEqDiff, Nat.le_refl, not_false_eq_true, not_true_eq_false, false_implies, true_implies, forall_const, true_and, and_true, if_true, if_false, implies_true, and_self, ne_eq, false_and, and_false, or_false, false_or, true_or, or_true]
  simp [swt]
theorem sw242_1005 (hk : (gS M 69).1 = 10) (hv : gI M 69 11 = nN 1005) : bw d 242 2 ([some (.ref 69)], [], M) Q = bw d 242 8 ([some (.ref 69)], [], M) Q := by
  rw [e_242_2]
  simp (disch := omega) only [q_aload0, q_aload0N, q_invv0, inv_1, q_if_eq, q_if_ne, q_nop, q_iconst, q_zret, q_get_i, pTag_1, pRf_s, q_table, q_get_r, q_invv1, q_goto, q_invv2, q_put_i, q_get_z, q_invv5, q_pop_i, q_pop_r, q_invv3, L_0, L_1, k_some, k_none, pRm_i, pRm_r, pRm_0, pF_1, pF_2, inv_s, hk, hv, nN_toInt, eq_self, Nat.reduceLT, Bool.false_eq_true, Nat.add_zero, Nat.zero_add, Nat.reduceAdd, Nat.reduceMul, Nat.reduceSub, Nat.zero_le, Nat.reduceLeDiff, Nat.reduceEqDiff, Nat.le_refl, not_false_eq_true, not_true_eq_false, false_implies, true_implies, forall_const, true_and, and_true, if_true, if_false, implies_true, and_self, ne_eq, false_and, and_false, or_false, false_or, true_or, or_true]
  simp [swt]
theorem sw242_1006 (hk : (gS M 69).1 = 10) (hv : gI M 69 11 = nN 1006) : bw d 242 2 ([some (.ref 69)], [], M) Q = bw d 242 9 ([some (.ref 69)], [], M) Q := by
  rw [e_242_2]
  simp (disch := omega) only [q_aload0, q_aload0N, q_invv0, inv_1, q_if_eq, q_if_ne, q_nop, q_iconst, q_zret, q_get_i, pTag_1, pRf_s, q_table, q_get_r, q_invv1, q_goto, q_invv2, q_put_i, q_get_z, q_invv5, q_pop_i, q_pop_r, q_invv3, L_0, L_1, k_some, k_none, pRm_i, pRm_r, pRm_0, pF_1, pF_2, inv_s, hk, hv, nN_toInt, eq_self, Nat.reduceLT, Bool.false_eq_true, Nat.add_zero, Nat.zero_add, Nat.reduceAdd, Nat.reduceMul, Nat.reduceSub, Nat.zero_le, Nat.reduceLeDiff, Nat.reduceEqDiff, Nat.le_refl, not_false_eq_true, not_true_eq_false, false_implies, true_implies, forall_const, true_and, and_true, if_true, if_false, implies_true, and_self, ne_eq, false_and, and_false, or_false, false_or, true_or, or_true]
  simp [swt]
theorem sw242_1007 (hk : (gS M 69).1 = 10) (hv : gI M 69 11 = nN 1007) : bw d 242 2 ([some (.ref 69)], [], M) Q = bw d 242 10 ([some (.ref 69)], [], M) Q := by
  rw [e_242_2]
  simp (disch := omega) only [q_aload0, q_aload0N, q_invv0, inv_1, q_if_eq, q_if_ne, q_nop, q_iconst, q_zret, q_get_i, pTag_1, pRf_s, q_table, q_get_r, q_invv1, q_goto, q_invv2, q_put_i, q_get_z, q_invv5, q_pop_i, q_pop_r, q_invv3, L_0, L_1, k_some, k_none, pRm_i, pRm_r, pRm_0, pF_1, pF_2, inv_s, hk, hv, nN_toInt, eq_self, Nat.reduceLT, Bool.false_eq_true, Nat.add_zero, Nat.zero_add, Nat.reduceAdd, Nat.reduceMul, Nat.reduceSub, Nat.zero_le, Nat.reduceLeDiff, Nat.reduceEqDiff, Nat.le_refl, not_false_eq_true, not_true_eq_false, false_implies, true_implies, forall_const, true_and, and_true, if_true, if_false, implies_true, and_self, ne_eq, false_and, and_false, or_false, false_or, true_or, or_true]
  simp [swt]
theorem t_parts (h : TnS M t n b q a) (hw : Wf a) (hv : gI M 69 11 = nN v) (hv2 : 1000 ≤ v ∧ v ≤ 1007) : mw (d + 6) 244 [.ref 69] M (fun o M' => TnP t n b a v (pAr (th uW n b) (nx9 n b) (nP a) (nF a) v q) o M' ∧ Ag XP M M') := by
  have : v = 1000 ∨ v = 1001 ∨ v = 1002 ∨ v = 1003 ∨ v = 1004 ∨ v = 1005 ∨ v = 1006 ∨ v = 1007 := by omega
  rcases this with rfl | rfl | rfl | rfl | rfl | rfl | rfl | rfl
  · exact p_1000 (d := d + 1) h hw hv
  · exact p_1001 (d := d + 1) h hw hv
  · exact p_1002 (d := d + 1) h hw hv
  · exact p_1003 h hw hv
  · exact p_1004 (d := d + 1) h hw hv
  · exact p_1005 (d := d + 1) h hw hv
  · exact p_1006 (d := d + 1) h hw hv
  · exact p_1007 (d := d + 1) h hw hv
theorem t_exec {l : List Nat} (h : TnS M t n b q a) (hw : Wt a K) (hK : K < 2000000) (hv : gI M 69 11 = nN v) (hv2 : 1000 ≤ v ∧ v ≤ 1007) (h12 : v = 1000 → nP a ≠ 12) (h7 : v = 1007 → nE a ≠ 12) (hF : FdA M v l) (hA : ArO (nP a) (nF a) v l) : bw (d + 10) 242 2 ([some (.ref 69)], [], M) (fun o M' => TnL t n b (.inr (q, sEx a v l)) o M' ∧ Ag (XN (gS M) (gP M)) M M') := by
  have hp' := hw.1.p'
  have hf' := hw.1.f'
  have hn' := hw.1.n'
  have k0 := h.k
  have s := h.rp.sh
  have ht := h.ht
  have hd := hw.dy hK
  have G := (sEx_ok hw hK hv2 h12 h7 hA).2
  have xn : ∀ h k, XTw (gS M) (gP M) t h k → XN (gS M) (gP M) h k := fun h k z => Or.inr (by rw [ht] at z; exact z)
  have fin : ∀ (M3 : pMem) (a' : Nat → Int32), Rep M3 t a' → Gk a a' → Ag (XTw (gS M) (gP M) t) M M3 → bw (d + 10) 242 11 ([some (.ref 69)], [], M3) (fun o M' => TnL t n b (.inr (q, a')) o M' ∧ Ag (XN (gS M) (gP M)) M M') := by
    intro M3 a' R3 G3 A3
    rw [e_242_11]
    simp (disch := omega) only [q_aload0, q_aload0N, q_invv0, inv_1, q_if_eq, q_if_ne, q_nop, q_iconst, q_zret, q_get_i, pTag_1, pRf_s, q_table, q_get_r, q_invv1, q_goto, q_invv2, q_put_i, q_get_z, q_invv5, q_pop_i, q_pop_r, q_invv3, L_0, L_1, k_some, k_none, pRm_i, pRm_r, pRm_0, pF_1, pF_2, inv_s, zb_1, nN_le, nN_lt, nN_eq, nN_add, nN_mul, nN_lt0, nN_ge0, nN_gt0, nN_le0, nN_eq0, nN_eq1, nN_neN, pIn_n, pIx_n, eq_self, Nat.reduceLT, Bool.false_eq_true, Nat.add_zero, Nat.zero_add, Nat.reduceAdd, Nat.reduceMul, Nat.reduceSub, Nat.zero_le, Nat.reduceLeDiff, Nat.reduceEqDiff, Nat.le_refl, not_false_eq_true, not_true_eq_false, false_implies, true_implies, forall_const, true_and, and_true, if_true, if_false, implies_true, and_self, ne_eq, false_and, and_false, or_false, false_or, true_or, or_true]
    exact ⟨⟨rfl, h.tw A3 R3 G3⟩, A3.mono xn⟩
  have : v = 1000 ∨ v = 1001 ∨ v = 1002 ∨ v = 1003 ∨ v = 1004 ∨ v = 1005 ∨ v = 1006 ∨ v = 1007 := by omega
  rcases this with rfl | rfl | rfl | rfl | rfl | rfl | rfl | rfl
  · have hP := h12 rfl
    have f15 : gI M 69 15 = nN (l.getD 0 0) := hF
    rw [sw242_1000 k0 hv, e_242_3]
    simp (disch := omega) only [q_aload0, q_aload0N, q_invv0, inv_1, q_if_eq, q_if_ne, q_nop, q_iconst, q_zret, q_get_i, pTag_1, pRf_s, q_table, q_get_r, q_invv1, q_goto, q_invv2, q_put_i, q_get_z, q_invv5, q_pop_i, q_pop_r, q_invv3, L_0, L_1, k_some, k_none, pRm_i, pRm_r, pRm_0, pF_1, pF_2, inv_s, k0, h.p10, s.k0, s.k1, s.k7, s.p0, s.p1, s.p2, s.p3, s.p4, s.p5, s.p6, s.p7, s.p8, s.q0, s.q1, s.q2, s.q3, s.q4, s.r0, s.r1, s.r2, s.r3, s.r4, s.r5, s.r6, f15, eq_self, Nat.reduceLT, Bool.false_eq_true, Nat.add_zero, Nat.zero_add, Nat.reduceAdd, Nat.reduceMul, Nat.reduceSub, Nat.zero_le, Nat.reduceLeDiff, Nat.reduceEqDiff, Nat.le_refl, not_false_eq_true, not_true_eq_false, false_implies, true_implies, forall_const, true_and, and_true, if_true, if_false, implies_true, and_self, ne_eq, false_and, and_false, or_false, false_or, true_or, or_true]
    refine mw_mono (w_perAdd (v := l.getD 0 0) h.rp hw.1 (by omega)) ?_
    rintro _ M3 ⟨rfl, R3, A3⟩
    simp (disch := omega) only [q_aload0, q_aload0N, q_invv0, inv_1, q_if_eq, q_if_ne, q_nop, q_iconst, q_zret, q_get_i, pTag_1, pRf_s, q_table, q_get_r, q_invv1, q_goto, q_invv2, q_put_i, q_get_z, q_invv5, q_pop_i, q_pop_r, q_invv3, L_0, L_1, k_some, k_none, pRm_i, pRm_r, pRm_0, pF_1, pF_2, inv_s, eq_self, Nat.reduceLT, Bool.false_eq_true, Nat.add_zero, Nat.zero_add, Nat.reduceAdd, Nat.reduceMul, Nat.reduceSub, Nat.zero_le, Nat.reduceLeDiff, Nat.reduceEqDiff, Nat.le_refl, not_false_eq_true, not_true_eq_false, false_implies, true_implies, forall_const, true_and, and_true, if_true, if_false, implies_true, and_self, ne_eq, false_and, and_false, or_false, false_or, true_or, or_true]
    exact fin M3 _ R3 G A3
  · obtain ⟨f13, f14⟩ : gI M 69 13 = nN (l.getD 0 0) ∧ gI M 69 14 = nN (l.getD 1 0) := hF
    obtain ⟨a1, a2, a3⟩ : l.getD 0 0 < nP a ∧ l.getD 1 0 < nP a ∧ l.getD 0 0 ≠ l.getD 1 0 := hA
    rw [sw242_1001 k0 hv, e_242_4]
    simp (disch := omega) only [q_aload0, q_aload0N, q_invv0, inv_1, q_if_eq, q_if_ne, q_nop, q_iconst, q_zret, q_get_i, pTag_1, pRf_s, q_table, q_get_r, q_invv1, q_goto, q_invv2, q_put_i, q_get_z, q_invv5, q_pop_i, q_pop_r, q_invv3, L_0, L_1, k_some, k_none, pRm_i, pRm_r, pRm_0, pF_1, pF_2, inv_s, k0, h.p10, s.k0, s.k1, s.k7, s.p0, s.p1, s.p2, s.p3, s.p4, s.p5, s.p6, s.p7, s.p8, s.q0, s.q1, s.q2, s.q3, s.q4, s.r0, s.r1, s.r2, s.r3, s.r4, s.r5, s.r6, f13, f14, eq_self, Nat.reduceLT, Bool.false_eq_true, Nat.add_zero, Nat.zero_add, Nat.reduceAdd, Nat.reduceMul, Nat.reduceSub, Nat.zero_le, Nat.reduceLeDiff, Nat.reduceEqDiff, Nat.le_refl, not_false_eq_true, not_true_eq_false, false_implies, true_implies, forall_const, true_and, and_true, if_true, if_false, implies_true, and_self, ne_eq, false_and, and_false, or_false, false_or, true_or, or_true]
    refine mw_mono (w_makeNear h.rp hw.1 a1 a2 a3) ?_
    rintro _ M3 ⟨rfl, R3, A3⟩
    simp (disch := omega) only [q_aload0, q_aload0N, q_invv0, inv_1, q_if_eq, q_if_ne, q_nop, q_iconst, q_zret, q_get_i, pTag_1, pRf_s, q_table, q_get_r, q_invv1, q_goto, q_invv2, q_put_i, q_get_z, q_invv5, q_pop_i, q_pop_r, q_invv3, L_0, L_1, k_some, k_none, pRm_i, pRm_r, pRm_0, pF_1, pF_2, inv_s, eq_self, Nat.reduceLT, Bool.false_eq_true, Nat.add_zero, Nat.zero_add, Nat.reduceAdd, Nat.reduceMul, Nat.reduceSub, Nat.zero_le, Nat.reduceLeDiff, Nat.reduceEqDiff, Nat.le_refl, not_false_eq_true, not_true_eq_false, false_implies, true_implies, forall_const, true_and, and_true, if_true, if_false, implies_true, and_self, ne_eq, false_and, and_false, or_false, false_or, true_or, or_true]
    exact fin M3 _ R3 G A3
  · have f15 : gI M 69 15 = nN (l.getD 0 0) := hF
    rw [sw242_1002 k0 hv, e_242_5]
    simp (disch := omega) only [q_aload0, q_aload0N, q_invv0, inv_1, q_if_eq, q_if_ne, q_nop, q_iconst, q_zret, q_get_i, pTag_1, pRf_s, q_table, q_get_r, q_invv1, q_goto, q_invv2, q_put_i, q_get_z, q_invv5, q_pop_i, q_pop_r, q_invv3, L_0, L_1, k_some, k_none, pRm_i, pRm_r, pRm_0, pF_1, pF_2, inv_s, k0, h.p10, s.k0, s.k1, s.k7, s.p0, s.p1, s.p2, s.p3, s.p4, s.p5, s.p6, s.p7, s.p8, s.q0, s.q1, s.q2, s.q3, s.q4, s.r0, s.r1, s.r2, s.r3, s.r4, s.r5, s.r6, f15, eq_self, Nat.reduceLT, Bool.false_eq_true, Nat.add_zero, Nat.zero_add, Nat.reduceAdd, Nat.reduceMul, Nat.reduceSub, Nat.zero_le, Nat.reduceLeDiff, Nat.reduceEqDiff, Nat.le_refl, not_false_eq_true, not_true_eq_false, false_implies, true_implies, forall_const, true_and, and_true, if_true, if_false, implies_true, and_self, ne_eq, false_and, and_false, or_false, false_or, true_or, or_true]
    exact fin _ _ (rep_law h.rp) G (Ag.one (Or.inl (by omega)))
  · obtain ⟨f13, f14, f15, f16, f17⟩ : gI M 69 13 = nN (l.getD 0 0) ∧ gI M 69 14 = nN (l.getD 1 0) ∧ gI M 69 15 = nN (l.getD 2 0) ∧ gI M 69 16 = nN (l.getD 3 0) ∧ gI M 69 17 = nN (l.getD 4 0) := hF
    obtain ⟨⟨a1, a2, a3⟩, ⟨a4, a5⟩, a6, a7⟩ : (l.getD 0 0 < nP a ∧ l.getD 1 0 < nP a ∧ l.getD 0 0 ≠ l.getD 1 0) ∧ (1 ≤ l.getD 2 0 ∧ l.getD 2 0 ≤ 99) ∧ l.getD 3 0 ≤ 99 ∧ (l.getD 4 0 = 0 ∨ l.getD 4 0 = 1) := hA
    have e17 : nN (l.getD 4 0) = bI (decide (l.getD 4 0 = 1) = true) := by
      rcases a7 with e | e <;> rw [e] <;> simp [bI]
    rw [sw242_1003 k0 hv, e_242_6]
    simp (disch := omega) only [q_aload0, q_aload0N, q_invv0, inv_1, q_if_eq, q_if_ne, q_nop, q_iconst, q_zret, q_get_i, pTag_1, pRf_s, q_table, q_get_r, q_invv1, q_goto, q_invv2, q_put_i, q_get_z, q_invv5, q_pop_i, q_pop_r, q_invv3, L_0, L_1, k_some, k_none, pRm_i, pRm_r, pRm_0, pF_1, pF_2, inv_s, k0, h.p10, s.k0, s.k1, s.k7, s.p0, s.p1, s.p2, s.p3, s.p4, s.p5, s.p6, s.p7, s.p8, s.q0, s.q1, s.q2, s.q3, s.q4, s.r0, s.r1, s.r2, s.r3, s.r4, s.r5, s.r6, f13, f14, f15, f16, f17, eq_self, Nat.reduceLT, Bool.false_eq_true, Nat.add_zero, Nat.zero_add, Nat.reduceAdd, Nat.reduceMul, Nat.reduceSub, Nat.zero_le, Nat.reduceLeDiff, Nat.reduceEqDiff, Nat.le_refl, not_false_eq_true, not_true_eq_false, false_implies, true_implies, forall_const, true_and, and_true, if_true, if_false, implies_true, and_self, ne_eq, false_and, and_false, or_false, false_or, true_or, or_true]
    have w9 := w_give (d := d + 1) (fc := decide (l.getD 4 0 = 1)) h.rp hw.1 h.tm hd (by omega) a1 a2 a4 a5 (show l.getD 3 0 < 100 by omega) a3
    rw [← e17] at w9
    refine mw_mono w9 ?_
    rintro o M3 h3
    have G' : Gk a (sGv a (l.getD 0 0) (l.getD 1 0) (l.getD 2 0) (l.getD 3 0) (decide (l.getD 4 0 = 1))) := G
    show kont (d + 10) 242 _ 10 _ _ (fun o M' => TnL t n b (.inr (q, sGv a (l.getD 0 0) (l.getD 1 0) (l.getD 2 0) (l.getD 3 0) (decide (l.getD 4 0 = 1)))) o M' ∧ Ag (XN (gS M) (gP M)) M M') o M3
    unfold sGv at G' ⊢
    by_cases c : sCanGive a (l.getD 0 0) (l.getD 1 0) (l.getD 2 0) (l.getD 3 0) (decide (l.getD 4 0 = 1)) = true
    · rw [if_pos c] at h3 G' ⊢
      obtain ⟨rfl, R3, A3⟩ := h3
      simp (disch := omega) only [q_aload0, q_aload0N, q_invv0, inv_1, q_if_eq, q_if_ne, q_nop, q_iconst, q_zret, q_get_i, pTag_1, pRf_s, q_table, q_get_r, q_invv1, q_goto, q_invv2, q_put_i, q_get_z, q_invv5, q_pop_i, q_pop_r, q_invv3, L_0, L_1, k_some, k_none, pRm_i, pRm_r, pRm_0, pF_1, pF_2, inv_s, eq_self, Nat.reduceLT, Bool.false_eq_true, Nat.add_zero, Nat.zero_add, Nat.reduceAdd, Nat.reduceMul, Nat.reduceSub, Nat.zero_le, Nat.reduceLeDiff, Nat.reduceEqDiff, Nat.le_refl, not_false_eq_true, not_true_eq_false, false_implies, true_implies, forall_const, true_and, and_true, if_true, if_false, implies_true, and_self, ne_eq, false_and, and_false, or_false, false_or, true_or, or_true]
      exact fin M3 _ R3 G' A3
    · rw [if_neg c] at h3 G' ⊢
      obtain ⟨rfl, R3, A3⟩ := h3
      simp (disch := omega) only [q_aload0, q_aload0N, q_invv0, inv_1, q_if_eq, q_if_ne, q_nop, q_iconst, q_zret, q_get_i, pTag_1, pRf_s, q_table, q_get_r, q_invv1, q_goto, q_invv2, q_put_i, q_get_z, q_invv5, q_pop_i, q_pop_r, q_invv3, L_0, L_1, k_some, k_none, pRm_i, pRm_r, pRm_0, pF_1, pF_2, inv_s, eq_self, Nat.reduceLT, Bool.false_eq_true, Nat.add_zero, Nat.zero_add, Nat.reduceAdd, Nat.reduceMul, Nat.reduceSub, Nat.zero_le, Nat.reduceLeDiff, Nat.reduceEqDiff, Nat.le_refl, not_false_eq_true, not_true_eq_false, false_implies, true_implies, forall_const, true_and, and_true, if_true, if_false, implies_true, and_self, ne_eq, false_and, and_false, or_false, false_or, true_or, or_true]
      exact fin M3 _ R3 G' A3
  · obtain ⟨f12, f13⟩ : gI M 69 12 = nN (l.getD 0 0) ∧ gI M 69 13 = nN (l.getD 1 0) := hF
    obtain ⟨a1, a2⟩ : l.getD 0 0 < nF a ∧ l.getD 1 0 < nP a := hA
    rw [sw242_1004 k0 hv, e_242_7]
    simp (disch := omega) only [q_aload0, q_aload0N, q_invv0, inv_1, q_if_eq, q_if_ne, q_nop, q_iconst, q_zret, q_get_i, pTag_1, pRf_s, q_table, q_get_r, q_invv1, q_goto, q_invv2, q_put_i, q_get_z, q_invv5, q_pop_i, q_pop_r, q_invv3, L_0, L_1, k_some, k_none, pRm_i, pRm_r, pRm_0, pF_1, pF_2, inv_s, k0, h.p10, s.k0, s.k1, s.k7, s.p0, s.p1, s.p2, s.p3, s.p4, s.p5, s.p6, s.p7, s.p8, s.q0, s.q1, s.q2, s.q3, s.q4, s.r0, s.r1, s.r2, s.r3, s.r4, s.r5, s.r6, f12, f13, eq_self, Nat.reduceLT, Bool.false_eq_true, Nat.add_zero, Nat.zero_add, Nat.reduceAdd, Nat.reduceMul, Nat.reduceSub, Nat.zero_le, Nat.reduceLeDiff, Nat.reduceEqDiff, Nat.le_refl, not_false_eq_true, not_true_eq_false, false_implies, true_implies, forall_const, true_and, and_true, if_true, if_false, implies_true, and_self, ne_eq, false_and, and_false, or_false, false_or, true_or, or_true]
    have G' : Gk a (sPs a (l.getD 0 0) (l.getD 1 0)) := G
    show mw (d + 10) 231 _ M (kont (d + 10) 242 _ 10 _ _ (fun o M' => TnL t n b (.inr (q, sPs a (l.getD 0 0) (l.getD 1 0))) o M' ∧ Ag (XN (gS M) (gP M)) M M'))
    unfold sPs at G' ⊢
    by_cases c0 : fa a (l.getD 0 0) 2 = nN (l.getD 1 0)
    · rw [if_pos c0] at G' ⊢
      rw [w_passSame (d := d + 1) h.rp hw.1 a1 c0]
      simp (disch := omega) only [q_aload0, q_aload0N, q_invv0, inv_1, q_if_eq, q_if_ne, q_nop, q_iconst, q_zret, q_get_i, pTag_1, pRf_s, q_table, q_get_r, q_invv1, q_goto, q_invv2, q_put_i, q_get_z, q_invv5, q_pop_i, q_pop_r, q_invv3, L_0, L_1, k_some, k_none, pRm_i, pRm_r, pRm_0, pF_1, pF_2, inv_s, eq_self, Nat.reduceLT, Bool.false_eq_true, Nat.add_zero, Nat.zero_add, Nat.reduceAdd, Nat.reduceMul, Nat.reduceSub, Nat.zero_le, Nat.reduceLeDiff, Nat.reduceEqDiff, Nat.le_refl, not_false_eq_true, not_true_eq_false, false_implies, true_implies, forall_const, true_and, and_true, if_true, if_false, implies_true, and_self, ne_eq, false_and, and_false, or_false, false_or, true_or, or_true]
      exact fin M _ h.rp G' Ag.rfl
    · rw [if_neg c0] at G' ⊢
      refine mw_mono (w_pass (d := d + 1) h.rp hw.1 h.tm (by omega) a1 a2 c0) ?_
      rintro o M3 h3
      by_cases c : sCanP a (l.getD 0 0) (l.getD 1 0) = true
      · rw [if_pos c] at h3 G' ⊢
        obtain ⟨rfl, R3, A3⟩ := h3
        simp (disch := omega) only [q_aload0, q_aload0N, q_invv0, inv_1, q_if_eq, q_if_ne, q_nop, q_iconst, q_zret, q_get_i, pTag_1, pRf_s, q_table, q_get_r, q_invv1, q_goto, q_invv2, q_put_i, q_get_z, q_invv5, q_pop_i, q_pop_r, q_invv3, L_0, L_1, k_some, k_none, pRm_i, pRm_r, pRm_0, pF_1, pF_2, inv_s, eq_self, Nat.reduceLT, Bool.false_eq_true, Nat.add_zero, Nat.zero_add, Nat.reduceAdd, Nat.reduceMul, Nat.reduceSub, Nat.zero_le, Nat.reduceLeDiff, Nat.reduceEqDiff, Nat.le_refl, not_false_eq_true, not_true_eq_false, false_implies, true_implies, forall_const, true_and, and_true, if_true, if_false, implies_true, and_self, ne_eq, false_and, and_false, or_false, false_or, true_or, or_true]
        exact fin M3 _ R3 G' A3
      · rw [if_neg c] at h3 G' ⊢
        obtain ⟨rfl, R3, A3⟩ := h3
        simp (disch := omega) only [q_aload0, q_aload0N, q_invv0, inv_1, q_if_eq, q_if_ne, q_nop, q_iconst, q_zret, q_get_i, pTag_1, pRf_s, q_table, q_get_r, q_invv1, q_goto, q_invv2, q_put_i, q_get_z, q_invv5, q_pop_i, q_pop_r, q_invv3, L_0, L_1, k_some, k_none, pRm_i, pRm_r, pRm_0, pF_1, pF_2, inv_s, eq_self, Nat.reduceLT, Bool.false_eq_true, Nat.add_zero, Nat.zero_add, Nat.reduceAdd, Nat.reduceMul, Nat.reduceSub, Nat.zero_le, Nat.reduceLeDiff, Nat.reduceEqDiff, Nat.le_refl, not_false_eq_true, not_true_eq_false, false_implies, true_implies, forall_const, true_and, and_true, if_true, if_false, implies_true, and_self, ne_eq, false_and, and_false, or_false, false_or, true_or, or_true]
        exact fin M3 _ R3 G' A3
  · have f12 : gI M 69 12 = nN (l.getD 0 0) := hF
    have a1 : l.getD 0 0 < nF a := hA
    rw [sw242_1005 k0 hv, e_242_8]
    simp (disch := omega) only [q_aload0, q_aload0N, q_invv0, inv_1, q_if_eq, q_if_ne, q_nop, q_iconst, q_zret, q_get_i, pTag_1, pRf_s, q_table, q_get_r, q_invv1, q_goto, q_invv2, q_put_i, q_get_z, q_invv5, q_pop_i, q_pop_r, q_invv3, L_0, L_1, k_some, k_none, pRm_i, pRm_r, pRm_0, pF_1, pF_2, inv_s, k0, h.p10, s.k0, s.k1, s.k7, s.p0, s.p1, s.p2, s.p3, s.p4, s.p5, s.p6, s.p7, s.p8, s.q0, s.q1, s.q2, s.q3, s.q4, s.r0, s.r1, s.r2, s.r3, s.r4, s.r5, s.r6, f12, eq_self, Nat.reduceLT, Bool.false_eq_true, Nat.add_zero, Nat.zero_add, Nat.reduceAdd, Nat.reduceMul, Nat.reduceSub, Nat.zero_le, Nat.reduceLeDiff, Nat.reduceEqDiff, Nat.le_refl, not_false_eq_true, not_true_eq_false, false_implies, true_implies, forall_const, true_and, and_true, if_true, if_false, implies_true, and_self, ne_eq, false_and, and_false, or_false, false_or, true_or, or_true]
    refine mw_mono (w_callIn (d := d + 5) h.rp hw.1 a1) ?_
    rintro o M3 h3
    have G' : Gk a (sGone a (l.getD 0 0)) := G
    by_cases c : fa a (l.getD 0 0) 2 = iN (-1)
    · rw [if_pos c] at h3
      obtain ⟨rfl, R3, A3⟩ := h3
      have e : sGone a (l.getD 0 0) = a := by
        funext j
        unfold sGone fS
        by_cases c9 : j = 140 + 20 * l.getD 0 0 + 2
        · rw [if_pos c9, ← c, c9]; rfl
        · rw [if_neg c9]
      simp (disch := omega) only [q_aload0, q_aload0N, q_invv0, inv_1, q_if_eq, q_if_ne, q_nop, q_iconst, q_zret, q_get_i, pTag_1, pRf_s, q_table, q_get_r, q_invv1, q_goto, q_invv2, q_put_i, q_get_z, q_invv5, q_pop_i, q_pop_r, q_invv3, L_0, L_1, k_some, k_none, pRm_i, pRm_r, pRm_0, pF_1, pF_2, inv_s, eq_self, Nat.reduceLT, Bool.false_eq_true, Nat.add_zero, Nat.zero_add, Nat.reduceAdd, Nat.reduceMul, Nat.reduceSub, Nat.zero_le, Nat.reduceLeDiff, Nat.reduceEqDiff, Nat.le_refl, not_false_eq_true, not_true_eq_false, false_implies, true_implies, forall_const, true_and, and_true, if_true, if_false, implies_true, and_self, ne_eq, false_and, and_false, or_false, false_or, true_or, or_true]
      exact fin M3 _ (by show Rep M3 t (sGone a (l.getD 0 0)); rw [e]; exact R3) G' A3
    · rw [if_neg c] at h3
      obtain ⟨rfl, R3, A3⟩ := h3
      simp (disch := omega) only [q_aload0, q_aload0N, q_invv0, inv_1, q_if_eq, q_if_ne, q_nop, q_iconst, q_zret, q_get_i, pTag_1, pRf_s, q_table, q_get_r, q_invv1, q_goto, q_invv2, q_put_i, q_get_z, q_invv5, q_pop_i, q_pop_r, q_invv3, L_0, L_1, k_some, k_none, pRm_i, pRm_r, pRm_0, pF_1, pF_2, inv_s, eq_self, Nat.reduceLT, Bool.false_eq_true, Nat.add_zero, Nat.zero_add, Nat.reduceAdd, Nat.reduceMul, Nat.reduceSub, Nat.zero_le, Nat.reduceLeDiff, Nat.reduceEqDiff, Nat.le_refl, not_false_eq_true, not_true_eq_false, false_implies, true_implies, forall_const, true_and, and_true, if_true, if_false, implies_true, and_self, ne_eq, false_and, and_false, or_false, false_or, true_or, or_true]
      exact fin M3 _ R3 G' A3
  · have f15 : gI M 69 15 = nN (l.getD 0 0) := hF
    rw [sw242_1006 k0 hv, e_242_9]
    simp (disch := omega) only [q_aload0, q_aload0N, q_invv0, inv_1, q_if_eq, q_if_ne, q_nop, q_iconst, q_zret, q_get_i, pTag_1, pRf_s, q_table, q_get_r, q_invv1, q_goto, q_invv2, q_put_i, q_get_z, q_invv5, q_pop_i, q_pop_r, q_invv3, L_0, L_1, k_some, k_none, pRm_i, pRm_r, pRm_0, pF_1, pF_2, inv_s, k0, h.p10, s.k0, s.k1, s.k7, s.p0, s.p1, s.p2, s.p3, s.p4, s.p5, s.p6, s.p7, s.p8, s.q0, s.q1, s.q2, s.q3, s.q4, s.r0, s.r1, s.r2, s.r3, s.r4, s.r5, s.r6, f15, eq_self, Nat.reduceLT, Bool.false_eq_true, Nat.add_zero, Nat.zero_add, Nat.reduceAdd, Nat.reduceMul, Nat.reduceSub, Nat.zero_le, Nat.reduceLeDiff, Nat.reduceEqDiff, Nat.le_refl, not_false_eq_true, not_true_eq_false, false_implies, true_implies, forall_const, true_and, and_true, if_true, if_false, implies_true, and_self, ne_eq, false_and, and_false, or_false, false_or, true_or, or_true]
    refine mw_mono (w_daysPass (d := d + 4) h.rp hw.1) ?_
    rintro _ M3 ⟨rfl, R3, A3⟩
    simp (disch := omega) only [q_aload0, q_aload0N, q_invv0, inv_1, q_if_eq, q_if_ne, q_nop, q_iconst, q_zret, q_get_i, pTag_1, pRf_s, q_table, q_get_r, q_invv1, q_goto, q_invv2, q_put_i, q_get_z, q_invv5, q_pop_i, q_pop_r, q_invv3, L_0, L_1, k_some, k_none, pRm_i, pRm_r, pRm_0, pF_1, pF_2, inv_s, eq_self, Nat.reduceLT, Bool.false_eq_true, Nat.add_zero, Nat.zero_add, Nat.reduceAdd, Nat.reduceMul, Nat.reduceSub, Nat.zero_le, Nat.reduceLeDiff, Nat.reduceEqDiff, Nat.le_refl, not_false_eq_true, not_true_eq_false, false_implies, true_implies, forall_const, true_and, and_true, if_true, if_false, implies_true, and_self, ne_eq, false_and, and_false, or_false, false_or, true_or, or_true]
    exact fin M3 _ R3 G A3
  · have hE := h7 rfl
    obtain ⟨f13, f14, f15⟩ : gI M 69 13 = nN (l.getD 0 0) ∧ gI M 69 14 = nN (l.getD 1 0) ∧ gI M 69 15 = nN (l.getD 2 0) := hF
    rw [sw242_1007 k0 hv, e_242_10]
    simp (disch := omega) only [q_aload0, q_aload0N, q_invv0, inv_1, q_if_eq, q_if_ne, q_nop, q_iconst, q_zret, q_get_i, pTag_1, pRf_s, q_table, q_get_r, q_invv1, q_goto, q_invv2, q_put_i, q_get_z, q_invv5, q_pop_i, q_pop_r, q_invv3, L_0, L_1, k_some, k_none, pRm_i, pRm_r, pRm_0, pF_1, pF_2, inv_s, k0, h.p10, s.k0, s.k1, s.k7, s.p0, s.p1, s.p2, s.p3, s.p4, s.p5, s.p6, s.p7, s.p8, s.q0, s.q1, s.q2, s.q3, s.q4, s.r0, s.r1, s.r2, s.r3, s.r4, s.r5, s.r6, f13, f14, f15, eq_self, Nat.reduceLT, Bool.false_eq_true, Nat.add_zero, Nat.zero_add, Nat.reduceAdd, Nat.reduceMul, Nat.reduceSub, Nat.zero_le, Nat.reduceLeDiff, Nat.reduceEqDiff, Nat.le_refl, not_false_eq_true, not_true_eq_false, false_implies, true_implies, forall_const, true_and, and_true, if_true, if_false, implies_true, and_self, ne_eq, false_and, and_false, or_false, false_or, true_or, or_true]
    refine mw_mono (w_addNeed (x := l.getD 0 0) (y := l.getD 1 0) (n := l.getD 2 0) h.rp hw.1 (by omega)) ?_
    rintro _ M3 ⟨rfl, R3, A3⟩
    simp (disch := omega) only [q_aload0, q_aload0N, q_invv0, inv_1, q_if_eq, q_if_ne, q_nop, q_iconst, q_zret, q_get_i, pTag_1, pRf_s, q_table, q_get_r, q_invv1, q_goto, q_invv2, q_put_i, q_get_z, q_invv5, q_pop_i, q_pop_r, q_invv3, L_0, L_1, k_some, k_none, pRm_i, pRm_r, pRm_0, pF_1, pF_2, inv_s, eq_self, Nat.reduceLT, Bool.false_eq_true, Nat.add_zero, Nat.zero_add, Nat.reduceAdd, Nat.reduceMul, Nat.reduceSub, Nat.zero_le, Nat.reduceLeDiff, Nat.reduceEqDiff, Nat.le_refl, not_false_eq_true, not_true_eq_false, false_implies, true_implies, forall_const, true_and, and_true, if_true, if_false, implies_true, and_self, ne_eq, false_and, and_false, or_false, false_or, true_or, or_true]
    exact fin M3 _ R3 G A3
theorem t_line (h : TnS M t n b p a) (hw : Wt a K) (hK : K < 2000000) : mw (d + 11) 242 [.ref 69] M (fun o M' => TnL t n b (pTL (th uW n b) (nx9 n b) a p) o M' ∧ Ag (XN (gS M) (gP M)) M M') := by
  have k0 := h.k
  simp (disch := omega) only [m_242, q_aload0, q_aload0N, q_invv0, inv_1, q_if_eq, q_if_ne, q_nop, q_iconst, q_zret, q_get_i, pTag_1, pRf_s, q_table, q_get_r, q_invv1, q_goto, q_invv2, q_put_i, q_get_z, q_invv5, q_pop_i, q_pop_r, q_invv3, L_0, L_1, k_some, k_none, pRm_i, pRm_r, pRm_0, pF_1, pF_2, inv_s, k0, pF_2, eq_self, Nat.reduceLT, Bool.false_eq_true, Nat.add_zero, Nat.zero_add, Nat.reduceAdd, Nat.reduceMul, Nat.reduceSub, Nat.zero_le, Nat.reduceLeDiff, Nat.reduceEqDiff, Nat.le_refl, not_false_eq_true, not_true_eq_false, false_implies, true_implies, forall_const, true_and, and_true, if_true, if_false, implies_true, and_self, ne_eq, false_and, and_false, or_false, false_or, true_or, or_true]
  rw [e_242_0]
  simp (disch := omega) only [q_aload0, q_aload0N, q_invv0, inv_1, q_if_eq, q_if_ne, q_nop, q_iconst, q_zret, q_get_i, pTag_1, pRf_s, q_table, q_get_r, q_invv1, q_goto, q_invv2, q_put_i, q_get_z, q_invv5, q_pop_i, q_pop_r, q_invv3, L_0, L_1, k_some, k_none, pRm_i, pRm_r, pRm_0, pF_1, pF_2, inv_s, k0, pF_2, eq_self, Nat.reduceLT, Bool.false_eq_true, Nat.add_zero, Nat.zero_add, Nat.reduceAdd, Nat.reduceMul, Nat.reduceSub, Nat.zero_le, Nat.reduceLeDiff, Nat.reduceEqDiff, Nat.le_refl, not_false_eq_true, not_true_eq_false, false_implies, true_implies, forall_const, true_and, and_true, if_true, if_false, implies_true, and_self, ne_eq, false_and, and_false, or_false, false_or, true_or, or_true]
  refine mw_mono (t_verb h hw.1) ?_
  rintro o M1 ⟨h1, A1⟩
  have k1 : (gS M1 69).1 = 10 := by rw [A1.S]; exact k0
  unfold TnV at h1
  unfold pTL
  by_cases c : (th uW n b p = 1000 ∧ nP a = 12) ∨ (th uW n b p = 1007 ∧ nE a = 12) ∨ th uW n b p < 1000 ∨ 1007 < th uW n b p
  · rw [if_pos c] at h1 ⊢
    obtain ⟨rfl, f1⟩ := h1
    simp (disch := omega) only [q_aload0, q_aload0N, q_invv0, inv_1, q_if_eq, q_if_ne, q_nop, q_iconst, q_zret, q_get_i, pTag_1, pRf_s, q_table, q_get_r, q_invv1, q_goto, q_invv2, q_put_i, q_get_z, q_invv5, q_pop_i, q_pop_r, q_invv3, e_242_1, L_0, L_1, k_some, k_none, pRm_i, pRm_r, pRm_0, pF_1, pF_2, inv_s, zb_0, nN_le, nN_lt, nN_eq, nN_add, nN_mul, nN_lt0, nN_ge0, nN_gt0, nN_le0, nN_eq0, nN_eq1, nN_neN, pIn_n, pIx_n, eq_self, Nat.reduceLT, Bool.false_eq_true, Nat.add_zero, Nat.zero_add, Nat.reduceAdd, Nat.reduceMul, Nat.reduceSub, Nat.zero_le, Nat.reduceLeDiff, Nat.reduceEqDiff, Nat.le_refl, not_false_eq_true, not_true_eq_false, false_implies, true_implies, forall_const, true_and, and_true, if_true, if_false, implies_true, and_self, ne_eq, false_and, and_false, or_false, false_or, true_or, or_true]
    exact ⟨⟨rfl, f1⟩, A1.mono XV_N⟩
  rw [if_neg c] at h1 ⊢
  obtain ⟨rfl, T1, v1⟩ := h1
  have g := (show PosO n b p from ⟨h.rc.le, h.rc.at9⟩).nx (W := uW) (by omega)
  have hA := pAr_ok (W := uW) (v := th uW n b p) g.1 hw.1.p' hw.1.f'
  simp (disch := omega) only [q_aload0, q_aload0N, q_invv0, inv_1, q_if_eq, q_if_ne, q_nop, q_iconst, q_zret, q_get_i, pTag_1, pRf_s, q_table, q_get_r, q_invv1, q_goto, q_invv2, q_put_i, q_get_z, q_invv5, q_pop_i, q_pop_r, q_invv3, L_0, L_1, k_some, k_none, pRm_i, pRm_r, pRm_0, pF_1, pF_2, inv_s, k1, pF_2, nN_le, nN_lt, nN_eq, nN_add, nN_mul, nN_lt0, nN_ge0, nN_gt0, nN_le0, nN_eq0, nN_eq1, nN_neN, pIn_n, pIx_n, eq_self, Nat.reduceLT, Bool.false_eq_true, Nat.add_zero, Nat.zero_add, Nat.reduceAdd, Nat.reduceMul, Nat.reduceSub, Nat.zero_le, Nat.reduceLeDiff, Nat.reduceEqDiff, Nat.le_refl, not_false_eq_true, not_true_eq_false, false_implies, true_implies, forall_const, true_and, and_true, if_true, if_false, implies_true, and_self, ne_eq, false_and, and_false, or_false, false_or, true_or, or_true]
  refine mw_mono (t_parts (d := d + 4) T1 hw.1 v1 (by omega)) ?_
  rintro o M2 ⟨h2, A2⟩
  have v2 : gI M2 69 11 = nN (th uW n b p) := by rw [A2.I (by rintro ⟨-, -, -, z⟩; exact z rfl)]; exact v1
  have A02 : Ag (XN (gS M) (gP M)) M M2 := (A1.mono XV_N).trans (A2.mono XP_N)
  cases hr : pAr (th uW n b) (nx9 n b) (nP a) (nF a) (th uW n b p) (nx9 n b p) with
  | inl e =>
    rw [hr] at h2
    obtain ⟨rfl, f2⟩ := h2
    simp (disch := omega) only [q_aload0, q_aload0N, q_invv0, inv_1, q_if_eq, q_if_ne, q_nop, q_iconst, q_zret, q_get_i, pTag_1, pRf_s, q_table, q_get_r, q_invv1, q_goto, q_invv2, q_put_i, q_get_z, q_invv5, q_pop_i, q_pop_r, q_invv3, e_242_1, L_0, L_1, k_some, k_none, pRm_i, pRm_r, pRm_0, pF_1, pF_2, inv_s, zb_0, nN_le, nN_lt, nN_eq, nN_add, nN_mul, nN_lt0, nN_ge0, nN_gt0, nN_le0, nN_eq0, nN_eq1, nN_neN, pIn_n, pIx_n, eq_self, Nat.reduceLT, Bool.false_eq_true, Nat.add_zero, Nat.zero_add, Nat.reduceAdd, Nat.reduceMul, Nat.reduceSub, Nat.zero_le, Nat.reduceLeDiff, Nat.reduceEqDiff, Nat.le_refl, not_false_eq_true, not_true_eq_false, false_implies, true_implies, forall_const, true_and, and_true, if_true, if_false, implies_true, and_self, ne_eq, false_and, and_false, or_false, false_or, true_or, or_true]
    exact ⟨⟨rfl, f2⟩, A02⟩
  | inr r =>
    rw [hr] at h2 hA
    obtain ⟨rfl, T2, F2⟩ := h2
    obtain ⟨hA1, -, -⟩ := hA
    simp (disch := omega) only [q_aload0, q_aload0N, q_invv0, inv_1, q_if_eq, q_if_ne, q_nop, q_iconst, q_zret, q_get_i, pTag_1, pRf_s, q_table, q_get_r, q_invv1, q_goto, q_invv2, q_put_i, q_get_z, q_invv5, q_pop_i, q_pop_r, q_invv3, L_0, L_1, k_some, k_none, pRm_i, pRm_r, pRm_0, pF_1, pF_2, inv_s, nN_le, nN_lt, nN_eq, nN_add, nN_mul, nN_lt0, nN_ge0, nN_gt0, nN_le0, nN_eq0, nN_eq1, nN_neN, pIn_n, pIx_n, eq_self, Nat.reduceLT, Bool.false_eq_true, Nat.add_zero, Nat.zero_add, Nat.reduceAdd, Nat.reduceMul, Nat.reduceSub, Nat.zero_le, Nat.reduceLeDiff, Nat.reduceEqDiff, Nat.le_refl, not_false_eq_true, not_true_eq_false, false_implies, true_implies, forall_const, true_and, and_true, if_true, if_false, implies_true, and_self, ne_eq, false_and, and_false, or_false, false_or, true_or, or_true]
    refine bw_mono (t_exec T2 hw hK v2 (by omega) (fun z z2 => c (Or.inl ⟨z, z2⟩)) (fun z z2 => c (Or.inr (Or.inl ⟨z, z2⟩))) F2 hA1) ?_
    rintro o M3 ⟨h3, A3⟩
    rw [A02.S, A02.P] at A3
    exact ⟨h3, A02.trans A3⟩
end TLa
