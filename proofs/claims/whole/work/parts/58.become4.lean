section BO
variable {d t s i n : Nat} {M0 M M1 : pMem} {L : List Nat} {F : List (Nat × Nat)} {Q : pOut → pMem → Prop}
/-- what lies in a town's tempers is one, or nothing -/
def QO (M : pMem) (t : Nat) : Prop := ∀ k, k < 6 → ∀ q, gP M (t + 15) k = some q → (gS M q).1 = 7
theorem gP_sP {h k h' k' : Nat} {x : Option Nat} : gP (sP M h k x) h' k' = if h' = h ∧ k' = k then x else gP M h' k' := rfl
theorem gI_sP {h k : Nat} {x : Option Nat} : gI (sP M h k x) = gI M := rfl
theorem gS_sP {h k : Nat} {x : Option Nat} : gS (sP M h k x) = gS M := rfl
theorem Bk.ref {k : Nat} {x : Option Nat} (b : Bk M0 M t s L F) : Bk M0 (sP M (t + 15) k x) t s L F := by
  obtain ⟨b1, b5, b6, b7⟩ := b
  refine ⟨b1, fun h j hh => ?_, b6, b7⟩
  rw [gP_sP, if_neg (fun z => hh z.1)]
  exact b5 h j hh
theorem w_become (hd : s + 22 ≤ t ∨ t + 22 ≤ s) (hs : ShT (gS M) (gP M) s) (ht : ShT (gS M) (gP M) t) (hq : QO M s) :
    mw (d + 4) 216 [.ref t, .ref s] M (fun o M' => o = .inl none ∧ Bk M M' t s [21, 20, 19, 18, 17, 9, 14, 13, 12, 11, 10, 8, 6, 5, 4, 3, 2] [(0, 14), (0, 13), (0, 12), (0, 11), (0, 10), (0, 9), (7, 7), (1, 5)] ∧ ∀ k, k < 6 → gP M' (t + 15) k = gP M (s + 15) k) := by
  have b0 : Bk M M t s [] [] := Bk.start
  simp (disch := omega) only [m_216, q_aload0, q_aload0N, q_get_r, pTag_1, pRf_s, q_aload1, q_aload1N, q_invv1, inv_1, q_iconst, q_istore2, q_nop, q_iload2, q_alen, q_ic_ge, q_aald, q_aast_r, q_aast_n, q_iinc2, q_goto, q_invs2_21, q_get_i, q_put_i, q_vret, e_216_0, L_0, L_1, k_some, k_none, pRm_i, pRm_r, pRm_0, pF_1, pF_2, inv_s, hs.k0, hs.k1, hs.k7, hs.p0, hs.p1, hs.p2, hs.p3, hs.p4, hs.p5, hs.p6, hs.p7, hs.p8, hs.q0, hs.q1, hs.q2, hs.q3, hs.q4, hs.r0, hs.r1, hs.r2, hs.r3, hs.r4, hs.r5, hs.r6, ht.k0, ht.k1, ht.k7, ht.p0, ht.p1, ht.p2, ht.p3, ht.p4, ht.p5, ht.p6, ht.p7, ht.p8, ht.q0, ht.q1, ht.q2, ht.q3, ht.q4, ht.r0, ht.r1, ht.r2, ht.r3, ht.r4, ht.r5, ht.r6, eq_self, Nat.reduceLT, Bool.false_eq_true, Nat.add_zero, Nat.zero_add, Nat.reduceAdd, Nat.reduceMul, Nat.reduceSub, Nat.zero_le, Nat.reduceLeDiff, Nat.reduceEqDiff, Nat.le_refl, not_false_eq_true, not_true_eq_false, false_implies, true_implies, forall_const, true_and, and_true, if_true, if_false, implies_true, and_self, ne_eq, false_and, and_false, or_false, false_or, true_or, or_true]
  refine mw_mono (w_peBecome b0 hd hs ht) ?_
  rintro _ M1 ⟨rfl, b1⟩
  have s1 := b1.sh hs (by omega)
  have t1 := b1.sh ht (by omega)
  simp (disch := omega) only [q_aload0, q_aload0N, q_get_r, pTag_1, pRf_s, q_aload1, q_aload1N, q_invv1, inv_1, q_iconst, q_istore2, q_nop, q_iload2, q_alen, q_ic_ge, q_aald, q_aast_r, q_aast_n, q_iinc2, q_goto, q_invs2_21, q_get_i, q_put_i, q_vret, e_216_0, L_0, L_1, k_some, k_none, pRm_i, pRm_r, pRm_0, pF_1, pF_2, inv_s, s1.k0, s1.k1, s1.k7, s1.p0, s1.p1, s1.p2, s1.p3, s1.p4, s1.p5, s1.p6, s1.p7, s1.p8, s1.q0, s1.q1, s1.q2, s1.q3, s1.q4, s1.r0, s1.r1, s1.r2, s1.r3, s1.r4, s1.r5, s1.r6, t1.k0, t1.k1, t1.k7, t1.p0, t1.p1, t1.p2, t1.p3, t1.p4, t1.p5, t1.p6, t1.p7, t1.p8, t1.q0, t1.q1, t1.q2, t1.q3, t1.q4, t1.r0, t1.r1, t1.r2, t1.r3, t1.r4, t1.r5, t1.r6, eq_self, Nat.reduceLT, Bool.false_eq_true, Nat.add_zero, Nat.zero_add, Nat.reduceAdd, Nat.reduceMul, Nat.reduceSub, Nat.zero_le, Nat.reduceLeDiff, Nat.reduceEqDiff, Nat.le_refl, not_false_eq_true, not_true_eq_false, false_implies, true_implies, forall_const, true_and, and_true, if_true, if_false, implies_true, and_self, ne_eq, false_and, and_false, or_false, false_or, true_or, or_true]
  refine mw_mono (w_faBecome b1 hd hs ht) ?_
  rintro _ M2 ⟨rfl, b2⟩
  simp (disch := omega) only [q_aload0, q_aload0N, q_get_r, pTag_1, pRf_s, q_aload1, q_aload1N, q_invv1, inv_1, q_iconst, q_istore2, q_nop, q_iload2, q_alen, q_ic_ge, q_aald, q_aast_r, q_aast_n, q_iinc2, q_goto, q_invs2_21, q_get_i, q_put_i, q_vret, e_216_0, L_0, L_1, k_some, k_none, pRm_i, pRm_r, pRm_0, pF_1, pF_2, inv_s, eq_self, Nat.reduceLT, Bool.false_eq_true, Nat.add_zero, Nat.zero_add, Nat.reduceAdd, Nat.reduceMul, Nat.reduceSub, Nat.zero_le, Nat.reduceLeDiff, Nat.reduceEqDiff, Nat.le_refl, not_false_eq_true, not_true_eq_false, false_implies, true_implies, forall_const, true_and, and_true, if_true, if_false, implies_true, and_self, ne_eq, false_and, and_false, or_false, false_or, true_or, or_true]
  refine loopR (n := 6) (J := Unit) (C := fun k _ _ M => ([some (.ref t), some (.ref s), some (.int (nN k))], [], M)) (f := fun _ (_ : Unit) => ()) (R := fun k _ M3 => Bk M M3 t s [9, 14, 13, 12, 11, 10, 8, 6, 5, 4, 3, 2] [(7, 7), (1, 5)] ∧ ∀ j, j < k → gP M3 (t + 15) j = gP M (s + 15) j) ?_ 6 0 () () M2 (by omega) ⟨b2, fun j hj => by omega⟩ ?_
  · rintro k _ _ M3 hk ⟨b3, c3⟩ go
    have s3 := b3.sh hs (by omega)
    have t3 := b3.sh ht (by omega)
    have e6 : ¬ 6 ≤ k := by omega
    have e7 : iN (6 : Nat) = nN 6 := rfl
    have e8 : gP M3 (s + 15) k = gP M (s + 15) k := b3.2.1 _ _ (by omega)
    rw [e_216_1]
    cases hq9 : gP M (s + 15) k with
    | none =>
      rw [hq9] at e8
      simp (disch := omega) only [q_aload0, q_aload0N, q_get_r, pTag_1, pRf_s, q_aload1, q_aload1N, q_invv1, inv_1, q_iconst, q_istore2, q_nop, q_iload2, q_alen, q_ic_ge, q_aald, q_aast_r, q_aast_n, q_iinc2, q_goto, q_invs2_21, q_get_i, q_put_i, q_vret, e_216_0, L_0, L_1, k_some, k_none, pRm_i, pRm_r, pRm_0, pF_1, pF_2, inv_s, s3.k0, s3.k1, s3.k7, s3.p0, s3.p1, s3.p2, s3.p3, s3.p4, s3.p5, s3.p6, s3.p7, s3.p8, s3.q0, s3.q1, s3.q2, s3.q3, s3.q4, s3.r0, s3.r1, s3.r2, s3.r3, s3.r4, s3.r5, s3.r6, t3.k0, t3.k1, t3.k7, t3.p0, t3.p1, t3.p2, t3.p3, t3.p4, t3.p5, t3.p6, t3.p7, t3.p8, t3.q0, t3.q1, t3.q2, t3.q3, t3.q4, t3.r0, t3.r1, t3.r2, t3.r3, t3.r4, t3.r5, t3.r6, s3.k15, t3.k15, e6, e7, e8, hk, nN_le, nN_lt, nN_eq, nN_add, nN_mul, nN_lt0, nN_ge0, nN_gt0, nN_le0, nN_eq0, nN_eq1, nN_neN, pIn_n, pIx_n, eq_self, Nat.reduceLT, Bool.false_eq_true, Nat.add_zero, Nat.zero_add, Nat.reduceAdd, Nat.reduceMul, Nat.reduceSub, Nat.zero_le, Nat.reduceLeDiff, Nat.reduceEqDiff, Nat.le_refl, not_false_eq_true, not_true_eq_false, false_implies, true_implies, forall_const, true_and, and_true, if_true, if_false, implies_true, and_self, ne_eq, false_and, and_false, or_false, false_or, true_or, or_true, pRf]
      have := go (sP M3 (t + 15) k none) () ⟨b3.ref, fun j hj => by
        rw [gP_sP]
        by_cases c : j = k
        · rw [if_pos ⟨rfl, c⟩, c, hq9]
        · rw [if_neg (fun z => c z.2)]; exact c3 j (by omega)⟩
      exact this
    | some q =>
      rw [hq9] at e8
      have hq7 : (gS M3 q).1 = 7 := by rw [b3.1.1]; exact hq k hk q hq9
      simp (disch := omega) only [q_aload0, q_aload0N, q_get_r, pTag_1, pRf_s, q_aload1, q_aload1N, q_invv1, inv_1, q_iconst, q_istore2, q_nop, q_iload2, q_alen, q_ic_ge, q_aald, q_aast_r, q_aast_n, q_iinc2, q_goto, q_invs2_21, q_get_i, q_put_i, q_vret, e_216_0, L_0, L_1, k_some, k_none, pRm_i, pRm_r, pRm_0, pF_1, pF_2, inv_s, s3.k0, s3.k1, s3.k7, s3.p0, s3.p1, s3.p2, s3.p3, s3.p4, s3.p5, s3.p6, s3.p7, s3.p8, s3.q0, s3.q1, s3.q2, s3.q3, s3.q4, s3.r0, s3.r1, s3.r2, s3.r3, s3.r4, s3.r5, s3.r6, t3.k0, t3.k1, t3.k7, t3.p0, t3.p1, t3.p2, t3.p3, t3.p4, t3.p5, t3.p6, t3.p7, t3.p8, t3.q0, t3.q1, t3.q2, t3.q3, t3.q4, t3.r0, t3.r1, t3.r2, t3.r3, t3.r4, t3.r5, t3.r6, s3.k15, t3.k15, e6, e7, e8, hk, hq7, nN_le, nN_lt, nN_eq, nN_add, nN_mul, nN_lt0, nN_ge0, nN_gt0, nN_le0, nN_eq0, nN_eq1, nN_neN, pIn_n, pIx_n, eq_self, Nat.reduceLT, Bool.false_eq_true, Nat.add_zero, Nat.zero_add, Nat.reduceAdd, Nat.reduceMul, Nat.reduceSub, Nat.zero_le, Nat.reduceLeDiff, Nat.reduceEqDiff, Nat.le_refl, not_false_eq_true, not_true_eq_false, false_implies, true_implies, forall_const, true_and, and_true, if_true, if_false, implies_true, and_self, ne_eq, false_and, and_false, or_false, false_or, true_or, or_true, pRf]
      have := go (sP M3 (t + 15) k (some q)) () ⟨b3.ref, fun j hj => by
        rw [gP_sP]
        by_cases c : j = k
        · rw [if_pos ⟨rfl, c⟩, c, hq9]
        · rw [if_neg (fun z => c z.2)]; exact c3 j (by omega)⟩
      exact this
  · rintro M3 _ ⟨b3, c3⟩
    have s3 := b3.sh hs (by omega)
    have t3 := b3.sh ht (by omega)
    have e7 : iN (6 : Nat) = nN 6 := rfl
    rw [e_216_1]
    simp (disch := omega) only [q_aload0, q_aload0N, q_get_r, pTag_1, pRf_s, q_aload1, q_aload1N, q_invv1, inv_1, q_iconst, q_istore2, q_nop, q_iload2, q_alen, q_ic_ge, q_aald, q_aast_r, q_aast_n, q_iinc2, q_goto, q_invs2_21, q_get_i, q_put_i, q_vret, e_216_0, e_216_2, L_0, L_1, k_some, k_none, pRm_i, pRm_r, pRm_0, pF_1, pF_2, inv_s, s3.k0, s3.k1, s3.k7, s3.p0, s3.p1, s3.p2, s3.p3, s3.p4, s3.p5, s3.p6, s3.p7, s3.p8, s3.q0, s3.q1, s3.q2, s3.q3, s3.q4, s3.r0, s3.r1, s3.r2, s3.r3, s3.r4, s3.r5, s3.r6, t3.k0, t3.k1, t3.k7, t3.p0, t3.p1, t3.p2, t3.p3, t3.p4, t3.p5, t3.p6, t3.p7, t3.p8, t3.q0, t3.q1, t3.q2, t3.q3, t3.q4, t3.r0, t3.r1, t3.r2, t3.r3, t3.r4, t3.r5, t3.r6, s3.k15, t3.k15, e7, nN_le, nN_lt, nN_eq, nN_add, nN_mul, nN_lt0, nN_ge0, nN_gt0, nN_le0, nN_eq0, nN_eq1, nN_neN, pIn_n, pIx_n, eq_self, Nat.reduceLT, Bool.false_eq_true, Nat.add_zero, Nat.zero_add, Nat.reduceAdd, Nat.reduceMul, Nat.reduceSub, Nat.zero_le, Nat.reduceLeDiff, Nat.reduceEqDiff, Nat.le_refl, not_false_eq_true, not_true_eq_false, false_implies, true_implies, forall_const, true_and, and_true, if_true, if_false, implies_true, and_self, ne_eq, false_and, and_false, or_false, false_or, true_or, or_true]
    refine mw_mono (w_copy s3.k17 t3.k17 (by omega) (by omega)) ?_
    rintro _ M4 ⟨rfl, A4, c4⟩
    have b4 := b3.copy (i := 17) hd (by omega) hs.k17 A4 c4
    have s4 := b4.sh hs (by omega)
    have t4 := b4.sh ht (by omega)
    simp (disch := omega) only [q_aload0, q_aload0N, q_get_r, pTag_1, pRf_s, q_aload1, q_aload1N, q_invv1, inv_1, q_iconst, q_istore2, q_nop, q_iload2, q_alen, q_ic_ge, q_aald, q_aast_r, q_aast_n, q_iinc2, q_goto, q_invs2_21, q_get_i, q_put_i, q_vret, e_216_0, e_216_2, L_0, L_1, k_some, k_none, pRm_i, pRm_r, pRm_0, pF_1, pF_2, inv_s, s4.k0, s4.k1, s4.k7, s4.p0, s4.p1, s4.p2, s4.p3, s4.p4, s4.p5, s4.p6, s4.p7, s4.p8, s4.q0, s4.q1, s4.q2, s4.q3, s4.q4, s4.r0, s4.r1, s4.r2, s4.r3, s4.r4, s4.r5, s4.r6, t4.k0, t4.k1, t4.k7, t4.p0, t4.p1, t4.p2, t4.p3, t4.p4, t4.p5, t4.p6, t4.p7, t4.p8, t4.q0, t4.q1, t4.q2, t4.q3, t4.q4, t4.r0, t4.r1, t4.r2, t4.r3, t4.r4, t4.r5, t4.r6, eq_self, Nat.reduceLT, Bool.false_eq_true, Nat.add_zero, Nat.zero_add, Nat.reduceAdd, Nat.reduceMul, Nat.reduceSub, Nat.zero_le, Nat.reduceLeDiff, Nat.reduceEqDiff, Nat.le_refl, not_false_eq_true, not_true_eq_false, false_implies, true_implies, forall_const, true_and, and_true, if_true, if_false, implies_true, and_self, ne_eq, false_and, and_false, or_false, false_or, true_or, or_true]
    refine mw_mono (w_copy s4.k18 t4.k18 (by omega) (by omega)) ?_
    rintro _ M5 ⟨rfl, A5, c5⟩
    have b5 := b4.copy (i := 18) hd (by omega) hs.k18 A5 c5
    have s5 := b5.sh hs (by omega)
    have t5 := b5.sh ht (by omega)
    simp (disch := omega) only [q_aload0, q_aload0N, q_get_r, pTag_1, pRf_s, q_aload1, q_aload1N, q_invv1, inv_1, q_iconst, q_istore2, q_nop, q_iload2, q_alen, q_ic_ge, q_aald, q_aast_r, q_aast_n, q_iinc2, q_goto, q_invs2_21, q_get_i, q_put_i, q_vret, e_216_0, e_216_2, L_0, L_1, k_some, k_none, pRm_i, pRm_r, pRm_0, pF_1, pF_2, inv_s, s5.k0, s5.k1, s5.k7, s5.p0, s5.p1, s5.p2, s5.p3, s5.p4, s5.p5, s5.p6, s5.p7, s5.p8, s5.q0, s5.q1, s5.q2, s5.q3, s5.q4, s5.r0, s5.r1, s5.r2, s5.r3, s5.r4, s5.r5, s5.r6, t5.k0, t5.k1, t5.k7, t5.p0, t5.p1, t5.p2, t5.p3, t5.p4, t5.p5, t5.p6, t5.p7, t5.p8, t5.q0, t5.q1, t5.q2, t5.q3, t5.q4, t5.r0, t5.r1, t5.r2, t5.r3, t5.r4, t5.r5, t5.r6, eq_self, Nat.reduceLT, Bool.false_eq_true, Nat.add_zero, Nat.zero_add, Nat.reduceAdd, Nat.reduceMul, Nat.reduceSub, Nat.zero_le, Nat.reduceLeDiff, Nat.reduceEqDiff, Nat.le_refl, not_false_eq_true, not_true_eq_false, false_implies, true_implies, forall_const, true_and, and_true, if_true, if_false, implies_true, and_self, ne_eq, false_and, and_false, or_false, false_or, true_or, or_true]
    refine mw_mono (w_copy s5.k19 t5.k19 (by omega) (by omega)) ?_
    rintro _ M6 ⟨rfl, A6, c6⟩
    have b6 := b5.copy (i := 19) hd (by omega) hs.k19 A6 c6
    have s6 := b6.sh hs (by omega)
    have t6 := b6.sh ht (by omega)
    simp (disch := omega) only [q_aload0, q_aload0N, q_get_r, pTag_1, pRf_s, q_aload1, q_aload1N, q_invv1, inv_1, q_iconst, q_istore2, q_nop, q_iload2, q_alen, q_ic_ge, q_aald, q_aast_r, q_aast_n, q_iinc2, q_goto, q_invs2_21, q_get_i, q_put_i, q_vret, e_216_0, e_216_2, L_0, L_1, k_some, k_none, pRm_i, pRm_r, pRm_0, pF_1, pF_2, inv_s, s6.k0, s6.k1, s6.k7, s6.p0, s6.p1, s6.p2, s6.p3, s6.p4, s6.p5, s6.p6, s6.p7, s6.p8, s6.q0, s6.q1, s6.q2, s6.q3, s6.q4, s6.r0, s6.r1, s6.r2, s6.r3, s6.r4, s6.r5, s6.r6, t6.k0, t6.k1, t6.k7, t6.p0, t6.p1, t6.p2, t6.p3, t6.p4, t6.p5, t6.p6, t6.p7, t6.p8, t6.q0, t6.q1, t6.q2, t6.q3, t6.q4, t6.r0, t6.r1, t6.r2, t6.r3, t6.r4, t6.r5, t6.r6, eq_self, Nat.reduceLT, Bool.false_eq_true, Nat.add_zero, Nat.zero_add, Nat.reduceAdd, Nat.reduceMul, Nat.reduceSub, Nat.zero_le, Nat.reduceLeDiff, Nat.reduceEqDiff, Nat.le_refl, not_false_eq_true, not_true_eq_false, false_implies, true_implies, forall_const, true_and, and_true, if_true, if_false, implies_true, and_self, ne_eq, false_and, and_false, or_false, false_or, true_or, or_true]
    refine mw_mono (w_copy s6.k20 t6.k20 (by omega) (by omega)) ?_
    rintro _ M7 ⟨rfl, A7, c7⟩
    have b7 := b6.copy (i := 20) hd (by omega) hs.k20 A7 c7
    have s7 := b7.sh hs (by omega)
    have t7 := b7.sh ht (by omega)
    simp (disch := omega) only [q_aload0, q_aload0N, q_get_r, pTag_1, pRf_s, q_aload1, q_aload1N, q_invv1, inv_1, q_iconst, q_istore2, q_nop, q_iload2, q_alen, q_ic_ge, q_aald, q_aast_r, q_aast_n, q_iinc2, q_goto, q_invs2_21, q_get_i, q_put_i, q_vret, e_216_0, e_216_2, L_0, L_1, k_some, k_none, pRm_i, pRm_r, pRm_0, pF_1, pF_2, inv_s, s7.k0, s7.k1, s7.k7, s7.p0, s7.p1, s7.p2, s7.p3, s7.p4, s7.p5, s7.p6, s7.p7, s7.p8, s7.q0, s7.q1, s7.q2, s7.q3, s7.q4, s7.r0, s7.r1, s7.r2, s7.r3, s7.r4, s7.r5, s7.r6, t7.k0, t7.k1, t7.k7, t7.p0, t7.p1, t7.p2, t7.p3, t7.p4, t7.p5, t7.p6, t7.p7, t7.p8, t7.q0, t7.q1, t7.q2, t7.q3, t7.q4, t7.r0, t7.r1, t7.r2, t7.r3, t7.r4, t7.r5, t7.r6, eq_self, Nat.reduceLT, Bool.false_eq_true, Nat.add_zero, Nat.zero_add, Nat.reduceAdd, Nat.reduceMul, Nat.reduceSub, Nat.zero_le, Nat.reduceLeDiff, Nat.reduceEqDiff, Nat.le_refl, not_false_eq_true, not_true_eq_false, false_implies, true_implies, forall_const, true_and, and_true, if_true, if_false, implies_true, and_self, ne_eq, false_and, and_false, or_false, false_or, true_or, or_true]
    refine mw_mono (w_copy s7.k21 t7.k21 (by omega) (by omega)) ?_
    rintro _ M8 ⟨rfl, A8, c8⟩
    have b8 := b7.copy (i := 21) hd (by omega) hs.k21 A8 c8
    have s8 := b8.sh hs (by omega)
    have t8 := b8.sh ht (by omega)
    have b9 := b8.field (i := 0) (f := 9) hd (by omega)
    have b10 := b9.field (i := 0) (f := 10) hd (by omega)
    have b11 := b10.field (i := 0) (f := 11) hd (by omega)
    have b12 := b11.field (i := 0) (f := 12) hd (by omega)
    have b13 := b12.field (i := 0) (f := 13) hd (by omega)
    have b14 := b13.field (i := 0) (f := 14) hd (by omega)
    simp only [Nat.add_zero] at b9 b10 b11 b12 b13 b14
    simp (disch := omega) only [q_aload0, q_aload0N, q_get_r, pTag_1, pRf_s, q_aload1, q_aload1N, q_invv1, inv_1, q_iconst, q_istore2, q_nop, q_iload2, q_alen, q_ic_ge, q_aald, q_aast_r, q_aast_n, q_iinc2, q_goto, q_invs2_21, q_get_i, q_put_i, q_vret, e_216_0, e_216_2, L_0, L_1, k_some, k_none, pRm_i, pRm_r, pRm_0, pF_1, pF_2, inv_s, s8.k0, s8.k1, s8.k7, s8.p0, s8.p1, s8.p2, s8.p3, s8.p4, s8.p5, s8.p6, s8.p7, s8.p8, s8.q0, s8.q1, s8.q2, s8.q3, s8.q4, s8.r0, s8.r1, s8.r2, s8.r3, s8.r4, s8.r5, s8.r6, t8.k0, t8.k1, t8.k7, t8.p0, t8.p1, t8.p2, t8.p3, t8.p4, t8.p5, t8.p6, t8.p7, t8.p8, t8.q0, t8.q1, t8.q2, t8.q3, t8.q4, t8.r0, t8.r1, t8.r2, t8.r3, t8.r4, t8.r5, t8.r6, gS_sI, gP_sI, eq_self, Nat.reduceLT, Bool.false_eq_true, Nat.add_zero, Nat.zero_add, Nat.reduceAdd, Nat.reduceMul, Nat.reduceSub, Nat.zero_le, Nat.reduceLeDiff, Nat.reduceEqDiff, Nat.le_refl, not_false_eq_true, not_true_eq_false, false_implies, true_implies, forall_const, true_and, and_true, if_true, if_false, implies_true, and_self, ne_eq, false_and, and_false, or_false, false_or, true_or, or_true]
    refine ⟨b14, fun k hk => ?_⟩
    · show gP M8 (t + 15) k = _
      rw [A8.P, A7.P, A6.P, A5.P, A4.P]
      exact c3 k hk
end BO
