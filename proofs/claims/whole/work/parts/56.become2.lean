/-! A TOWN BECOMES ANOTHER: the whole -/
section BL
variable {d t s i n : Nat} {M0 M M1 : pMem} {L : List Nat} {F : List (Nat × Nat)} {Q : pOut → pMem → Prop}
theorem w_peBecome (b : Bk M0 M t s [] []) (hd : s + 22 ≤ t ∨ t + 22 ≤ s) (hs : ShT (gS M0) (gP M0) s) (ht : ShT (gS M0) (gP M0) t) :
    mw (d + 3) 157 [.ref (t + 1), .ref (s + 1)] M (fun o M' => o = .inl none ∧ Bk M0 M' t s [6, 5, 4, 3, 2] [(1, 5)]) := by
  have s1 := b.sh hs (by omega)
  have t1 := b.sh ht (by omega)
  have b1 := b.field (i := 1) (f := 5) hd (by omega)
  have s2 := b1.sh hs (by omega)
  have t2 := b1.sh ht (by omega)
  simp (disch := omega) only [m_157, q_aload0, q_aload0N, q_aload1, q_aload1N, q_get_i, pTag_1, pRf_s, q_put_i, q_get_r, q_invs2_21, q_invv1, inv_1, q_vret, e_157_0, k_some, k_none, pRm_i, pRm_r, pRm_0, pF_1, pF_2, inv_s, s1.k0, s1.k1, s1.k7, s1.p0, s1.p1, s1.p2, s1.p3, s1.p4, s1.p5, s1.p6, s1.p7, s1.p8, s1.q0, s1.q1, s1.q2, s1.q3, s1.q4, s1.r0, s1.r1, s1.r2, s1.r3, s1.r4, s1.r5, s1.r6, t1.k0, t1.k1, t1.k7, t1.p0, t1.p1, t1.p2, t1.p3, t1.p4, t1.p5, t1.p6, t1.p7, t1.p8, t1.q0, t1.q1, t1.q2, t1.q3, t1.q4, t1.r0, t1.r1, t1.r2, t1.r3, t1.r4, t1.r5, t1.r6, gS_sI, gP_sI, eq_self, Nat.reduceLT, Bool.false_eq_true, Nat.add_zero, Nat.zero_add, Nat.reduceAdd, Nat.reduceMul, Nat.reduceSub, Nat.zero_le, Nat.reduceLeDiff, Nat.reduceEqDiff, Nat.le_refl, not_false_eq_true, not_true_eq_false, false_implies, true_implies, forall_const, true_and, and_true, if_true, if_false, implies_true, and_self, ne_eq, false_and, and_false, or_false, false_or, true_or, or_true]
  refine mw_mono (w_copy s2.k2 t2.k2 (by omega) (by omega)) ?_
  rintro _ M2 ⟨rfl, A2, c2⟩
  have b2 := b1.copy (i := 2) hd (by omega) hs.k2 A2 c2
  have s3 := b2.sh hs (by omega)
  have t3 := b2.sh ht (by omega)
  simp (disch := omega) only [q_aload0, q_aload0N, q_aload1, q_aload1N, q_get_i, pTag_1, pRf_s, q_put_i, q_get_r, q_invs2_21, q_invv1, inv_1, q_vret, e_157_0, k_some, k_none, pRm_i, pRm_r, pRm_0, pF_1, pF_2, inv_s, s3.k0, s3.k1, s3.k7, s3.p0, s3.p1, s3.p2, s3.p3, s3.p4, s3.p5, s3.p6, s3.p7, s3.p8, s3.q0, s3.q1, s3.q2, s3.q3, s3.q4, s3.r0, s3.r1, s3.r2, s3.r3, s3.r4, s3.r5, s3.r6, t3.k0, t3.k1, t3.k7, t3.p0, t3.p1, t3.p2, t3.p3, t3.p4, t3.p5, t3.p6, t3.p7, t3.p8, t3.q0, t3.q1, t3.q2, t3.q3, t3.q4, t3.r0, t3.r1, t3.r2, t3.r3, t3.r4, t3.r5, t3.r6, eq_self, Nat.reduceLT, Bool.false_eq_true, Nat.add_zero, Nat.zero_add, Nat.reduceAdd, Nat.reduceMul, Nat.reduceSub, Nat.zero_le, Nat.reduceLeDiff, Nat.reduceEqDiff, Nat.le_refl, not_false_eq_true, not_true_eq_false, false_implies, true_implies, forall_const, true_and, and_true, if_true, if_false, implies_true, and_self, ne_eq, false_and, and_false, or_false, false_or, true_or, or_true]
  refine mw_mono (w_copy s3.k3 t3.k3 (by omega) (by omega)) ?_
  rintro _ M3 ⟨rfl, A3, c3⟩
  have b3 := b2.copy (i := 3) hd (by omega) hs.k3 A3 c3
  have s4 := b3.sh hs (by omega)
  have t4 := b3.sh ht (by omega)
  simp (disch := omega) only [q_aload0, q_aload0N, q_aload1, q_aload1N, q_get_i, pTag_1, pRf_s, q_put_i, q_get_r, q_invs2_21, q_invv1, inv_1, q_vret, e_157_0, k_some, k_none, pRm_i, pRm_r, pRm_0, pF_1, pF_2, inv_s, s4.k0, s4.k1, s4.k7, s4.p0, s4.p1, s4.p2, s4.p3, s4.p4, s4.p5, s4.p6, s4.p7, s4.p8, s4.q0, s4.q1, s4.q2, s4.q3, s4.q4, s4.r0, s4.r1, s4.r2, s4.r3, s4.r4, s4.r5, s4.r6, t4.k0, t4.k1, t4.k7, t4.p0, t4.p1, t4.p2, t4.p3, t4.p4, t4.p5, t4.p6, t4.p7, t4.p8, t4.q0, t4.q1, t4.q2, t4.q3, t4.q4, t4.r0, t4.r1, t4.r2, t4.r3, t4.r4, t4.r5, t4.r6, eq_self, Nat.reduceLT, Bool.false_eq_true, Nat.add_zero, Nat.zero_add, Nat.reduceAdd, Nat.reduceMul, Nat.reduceSub, Nat.zero_le, Nat.reduceLeDiff, Nat.reduceEqDiff, Nat.le_refl, not_false_eq_true, not_true_eq_false, false_implies, true_implies, forall_const, true_and, and_true, if_true, if_false, implies_true, and_self, ne_eq, false_and, and_false, or_false, false_or, true_or, or_true]
  refine mw_mono (w_copy s4.k4 t4.k4 (by omega) (by omega)) ?_
  rintro _ M4 ⟨rfl, A4, c4⟩
  have b4 := b3.copy (i := 4) hd (by omega) hs.k4 A4 c4
  have s5 := b4.sh hs (by omega)
  have t5 := b4.sh ht (by omega)
  simp (disch := omega) only [q_aload0, q_aload0N, q_aload1, q_aload1N, q_get_i, pTag_1, pRf_s, q_put_i, q_get_r, q_invs2_21, q_invv1, inv_1, q_vret, e_157_0, k_some, k_none, pRm_i, pRm_r, pRm_0, pF_1, pF_2, inv_s, s5.k0, s5.k1, s5.k7, s5.p0, s5.p1, s5.p2, s5.p3, s5.p4, s5.p5, s5.p6, s5.p7, s5.p8, s5.q0, s5.q1, s5.q2, s5.q3, s5.q4, s5.r0, s5.r1, s5.r2, s5.r3, s5.r4, s5.r5, s5.r6, t5.k0, t5.k1, t5.k7, t5.p0, t5.p1, t5.p2, t5.p3, t5.p4, t5.p5, t5.p6, t5.p7, t5.p8, t5.q0, t5.q1, t5.q2, t5.q3, t5.q4, t5.r0, t5.r1, t5.r2, t5.r3, t5.r4, t5.r5, t5.r6, eq_self, Nat.reduceLT, Bool.false_eq_true, Nat.add_zero, Nat.zero_add, Nat.reduceAdd, Nat.reduceMul, Nat.reduceSub, Nat.zero_le, Nat.reduceLeDiff, Nat.reduceEqDiff, Nat.le_refl, not_false_eq_true, not_true_eq_false, false_implies, true_implies, forall_const, true_and, and_true, if_true, if_false, implies_true, and_self, ne_eq, false_and, and_false, or_false, false_or, true_or, or_true]
  refine mw_mono (w_peHold b4 hd hs ht) ?_
  rintro _ M5 ⟨rfl, b5⟩
  simp (disch := omega) only [q_aload0, q_aload0N, q_aload1, q_aload1N, q_get_i, pTag_1, pRf_s, q_put_i, q_get_r, q_invs2_21, q_invv1, inv_1, q_vret, e_157_0, k_some, k_none, pRm_i, pRm_r, pRm_0, pF_1, pF_2, inv_s, eq_self, Nat.reduceLT, Bool.false_eq_true, Nat.add_zero, Nat.zero_add, Nat.reduceAdd, Nat.reduceMul, Nat.reduceSub, Nat.zero_le, Nat.reduceLeDiff, Nat.reduceEqDiff, Nat.le_refl, not_false_eq_true, not_true_eq_false, false_implies, true_implies, forall_const, true_and, and_true, if_true, if_false, implies_true, and_self, ne_eq, false_and, and_false, or_false, false_or, true_or, or_true]
  exact b5
end BL
