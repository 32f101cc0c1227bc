/-! feed, end, fault: the class -/
def fArg (v0 v1 v2 v3 v4 : Int32) (i : Nat) : Int32 := if i = 0 then v0 else if i = 1 then v1 else if i = 2 then v2 else if i = 3 then v3 else v4
def fNew (b : Nat → Nat) (n : Nat) (v0 v1 v2 v3 v4 : Int32) : Nat → Nat := fun k => if k < n then b k else fB (fArg v0 v1 v2 v3 v4 ((k - n) / 4)) ((k - n) % 4)
section FE
variable {d n m : Nat} {a a' ak : Nat → Int32} {img : Bool} {b b' : Nat → Nat} {fl fl' : Int32} {M M1 M2 M' : pMem} {Q : pOut → pMem → Prop} {x y z v v0 v1 v2 v3 v4 : Int32} {p q f g k t s : Nat}
/-- the class's state, when the tape and what stands in the object alone have changed -/
theorem CI.tape (c : CI M a ak img n b fl) (A : Ag (fun h _ => h ≤ 2) M M') (tn : gI M' 1 1 = nN m) (tb : ∀ k, k < m → gI M' 2 k = nN (b' k)) (im : gI M' 0 9 = bI (img = true)) (fo : gI M' 0 10 = fl') : Xc M a ak img m b' fl' M' := by
  have hx : ∀ h k, (h ≤ 2) → XA (gS M) (gP M) h k := fun h k z => Or.inl (by omega)
  have r3 := c.rep.ag A (fun h k h1 h2 h3 h4 => by omega)
  have t3 := c.tm.agA (A.mono hx)
  refine ⟨CI.mk (by rw [A.S, A.P]; exact c.sh) r3 t3 (fun z => (c.kr z).ag A (fun h k h1 h2 h3 h4 => by omega)) (fun z => (c.kt z).agA (A.mono hx)) ?_ ?_ ?_ ?_ tn tb im fo, ?_⟩
  · intro k hk q hq; rw [A.P] at hq; rw [A.S]; exact c.qo k hk q hq
  · intro k hk q hq; rw [A.P] at hq; rw [A.S]; exact c.qk k hk q hq
  · rw [A.I (by omega)]; exact c.l69
  · rw [A.I (by omega)]; exact c.l72
  · exact ⟨⟨A.S, A.J, A.N, A.L⟩, fun h k z => A.I (by omega), fun h k _ => by rw [A.P]⟩
theorem c_end (c : CI M a ak img n b fl) (hn : n ≤ 400) (hm : m ≤ n) : mw (d + 3) 2 [.ref 0, .int (nN m)] M (fun o M' => o = .inl (some (.int (nN 1))) ∧ Xc M a ak img m b fl M') := by
  have k0 := c.sh.k0
  have e1 : ¬ n < m := by omega
  simp (disch := omega) only [m_2, q_iload1, q_if_lt, q_aload0, q_aload0N, q_get_r, pTag_1, pRf_s, q_get_i, q_ic_le, q_nop, q_iconst, q_zret, q_put_i, e_2_0, e_2_1, e_2_2, L_0, L_1, k0, c.sh.p0, c.sh.k1, c.tn, e1, hm, zb_1, nN_le, nN_lt, nN_eq, nN_add, nN_mul, nN_lt0, nN_ge0, nN_gt0, nN_le0, nN_eq0, nN_eq1, nN_neN, pIn_n, pIx_n, eq_self, Nat.reduceLT, Bool.false_eq_true, Nat.add_zero, Nat.zero_add, Nat.reduceAdd, Nat.reduceMul, Nat.reduceSub, Nat.zero_le, Nat.reduceLeDiff, Nat.reduceEqDiff, Nat.le_refl, not_false_eq_true, not_true_eq_false, false_implies, true_implies, forall_const, true_and, and_true, if_true, if_false, implies_true, and_self, ne_eq, false_and, and_false, or_false, false_or, true_or, or_true]
  refine c.tape (Ag.one (by omega)) ?_ ?_ ?_ ?_
  · rw [gI_sI, if_pos ⟨rfl, rfl⟩]
  · intro k hk; rw [gI_sI, if_neg (by omega)]; exact c.tb k (by omega)
  · rw [gI_sI, if_neg (by omega)]; exact c.im
  · rw [gI_sI, if_neg (by omega)]; exact c.fo
theorem c_end_n (c : CI M a ak img n b fl) (hn : n ≤ 400) (hx : ¬ Ix (n + 1) x) : mw (d + 3) 2 [.ref 0, .int x] M Q = Q (.inl (some (.int (nN 0)))) M := by
  have k0 := c.sh.k0
  rw [← Ix_lt (by omega)] at hx
  by_cases h : x < 0
  · simp (disch := omega) only [m_2, q_iload1, q_if_lt, q_aload0, q_aload0N, q_get_r, pTag_1, pRf_s, q_get_i, q_ic_le, q_nop, q_iconst, q_zret, q_put_i, e_2_0, e_2_1, e_2_2, L_0, L_1, k0, c.sh.p0, c.sh.k1, c.tn, h, zb_0, nN_le, nN_lt, nN_eq, nN_add, nN_mul, nN_lt0, nN_ge0, nN_gt0, nN_le0, nN_eq0, nN_eq1, nN_neN, pIn_n, pIx_n, eq_self, Nat.reduceLT, Bool.false_eq_true, Nat.add_zero, Nat.zero_add, Nat.reduceAdd, Nat.reduceMul, Nat.reduceSub, Nat.zero_le, Nat.reduceLeDiff, Nat.reduceEqDiff, Nat.le_refl, not_false_eq_true, not_true_eq_false, false_implies, true_implies, forall_const, true_and, and_true, if_true, if_false, implies_true, and_self, ne_eq, false_and, and_false, or_false, false_or, true_or, or_true]
  · have h2 : ¬ x ≤ nN n := fun z => hx ⟨Int32.not_lt.mp h, by
      obtain ⟨w, hw, rfl⟩ := iN_ex x
      have := (iN_le hw (sm_n (a := n) (by omega))).mp z
      exact (iN_lt hw (sm_n (a := n + 1) (by omega))).mpr (by omega)⟩
    simp (disch := omega) only [m_2, q_iload1, q_if_lt, q_aload0, q_aload0N, q_get_r, pTag_1, pRf_s, q_get_i, q_ic_le, q_nop, q_iconst, q_zret, q_put_i, e_2_0, e_2_1, e_2_2, L_0, L_1, k0, c.sh.p0, c.sh.k1, c.tn, h, h2, zb_0, nN_le, nN_lt, nN_eq, nN_add, nN_mul, nN_lt0, nN_ge0, nN_gt0, nN_le0, nN_eq0, nN_eq1, nN_neN, pIn_n, pIx_n, eq_self, Nat.reduceLT, Bool.false_eq_true, Nat.add_zero, Nat.zero_add, Nat.reduceAdd, Nat.reduceMul, Nat.reduceSub, Nat.zero_le, Nat.reduceLeDiff, Nat.reduceEqDiff, Nat.le_refl, not_false_eq_true, not_true_eq_false, false_implies, true_implies, forall_const, true_and, and_true, if_true, if_false, implies_true, and_self, ne_eq, false_and, and_false, or_false, false_or, true_or, or_true]
theorem c_fault (c : CI M a ak img n b fl) : mw (d + 3) 5 [.ref 0] M Q = Q (.inl (some (.int fl))) M := by
  have k0 := c.sh.k0
  simp (disch := omega) only [m_5, q_aload0, q_aload0N, q_get_i, pTag_1, pRf_s, q_iret, e_5_0, k0, c.fo, nN_le, nN_lt, nN_eq, nN_add, nN_mul, nN_lt0, nN_ge0, nN_gt0, nN_le0, nN_eq0, nN_eq1, nN_neN, pIn_n, pIx_n, eq_self, Nat.reduceLT, Bool.false_eq_true, Nat.add_zero, Nat.zero_add, Nat.reduceAdd, Nat.reduceMul, Nat.reduceSub, Nat.zero_le, Nat.reduceLeDiff, Nat.reduceEqDiff, Nat.le_refl, not_false_eq_true, not_true_eq_false, false_implies, true_implies, forall_const, true_and, and_true, if_true, if_false, implies_true, and_self, ne_eq, false_and, and_false, or_false, false_or, true_or, or_true]
theorem c_feed (c : CI M a ak img n b fl) (hn : n + 20 ≤ 400) : mw (d + 6) 1 [.ref 0, .int v0, .int v1, .int v2, .int v3, .int v4] M (fun o M' => o = .inl (some (.int (nN (n + 20)))) ∧ Xc M a ak img (n + 20) (fNew b n v0 v1 v2 v3 v4) fl M') := by
  have k0 := c.sh.k0
  have q0 := c.sh.p0
  have k1 := c.sh.k1
  have q1 := c.sh.q1
  have k2 := c.sh.k2
  simp (disch := omega) only [m_1, q_aload0, q_aload0N, q_get_r, pTag_1, pRf_s, q_get_i, q_bipush, q_iadd, q_sipush, q_ic_le, q_iconst, q_iret, q_iload1, q_invv1, inv_1, q_iload2, q_iload3, q_iload4, q_iload5, e_1_0, e_1_1, L_20, L_400, k_some, k_none, pRm_i, pRm_r, pRm_0, pF_1, pF_2, inv_s, k0, q0, k1, c.tn, hn, nN_le, nN_lt, nN_eq, nN_add, nN_mul, nN_lt0, nN_ge0, nN_gt0, nN_le0, nN_eq0, nN_eq1, nN_neN, pIn_n, pIx_n, eq_self, Nat.reduceLT, Bool.false_eq_true, Nat.add_zero, Nat.zero_add, Nat.reduceAdd, Nat.reduceMul, Nat.reduceSub, Nat.zero_le, Nat.reduceLeDiff, Nat.reduceEqDiff, Nat.le_refl, not_false_eq_true, not_true_eq_false, false_implies, true_implies, forall_const, true_and, and_true, if_true, if_false, implies_true, and_self, ne_eq, false_and, and_false, or_false, false_or, true_or, or_true]
  refine mw_mono (w_tapeAdd k1 q1 k2 c.tn (by omega)) ?_
  rintro _ M1 ⟨rfl, A1, n1, e1⟩
  rw [← A1.S] at k0 k1 k2
  rw [← A1.P] at q0 q1
  simp (disch := omega) only [q_aload0, q_aload0N, q_get_r, pTag_1, pRf_s, q_get_i, q_bipush, q_iadd, q_sipush, q_ic_le, q_iconst, q_iret, q_iload1, q_invv1, inv_1, q_iload2, q_iload3, q_iload4, q_iload5, e_1_0, e_1_1, L_20, L_400, k_some, k_none, pRm_i, pRm_r, pRm_0, pF_1, pF_2, inv_s, k0, q0, k1, nN_le, nN_lt, nN_eq, nN_add, nN_mul, nN_lt0, nN_ge0, nN_gt0, nN_le0, nN_eq0, nN_eq1, nN_neN, pIn_n, pIx_n, eq_self, Nat.reduceLT, Bool.false_eq_true, Nat.add_zero, Nat.zero_add, Nat.reduceAdd, Nat.reduceMul, Nat.reduceSub, Nat.zero_le, Nat.reduceLeDiff, Nat.reduceEqDiff, Nat.le_refl, not_false_eq_true, not_true_eq_false, false_implies, true_implies, forall_const, true_and, and_true, if_true, if_false, implies_true, and_self, ne_eq, false_and, and_false, or_false, false_or, true_or, or_true]
  refine mw_mono (w_tapeAdd k1 q1 k2 n1 (by omega)) ?_
  rintro _ M2 ⟨rfl, A2, n2, e2⟩
  rw [← A2.S] at k0 k1 k2
  rw [← A2.P] at q0 q1
  simp (disch := omega) only [q_aload0, q_aload0N, q_get_r, pTag_1, pRf_s, q_get_i, q_bipush, q_iadd, q_sipush, q_ic_le, q_iconst, q_iret, q_iload1, q_invv1, inv_1, q_iload2, q_iload3, q_iload4, q_iload5, e_1_0, e_1_1, L_20, L_400, k_some, k_none, pRm_i, pRm_r, pRm_0, pF_1, pF_2, inv_s, k0, q0, k1, nN_le, nN_lt, nN_eq, nN_add, nN_mul, nN_lt0, nN_ge0, nN_gt0, nN_le0, nN_eq0, nN_eq1, nN_neN, pIn_n, pIx_n, eq_self, Nat.reduceLT, Bool.false_eq_true, Nat.add_zero, Nat.zero_add, Nat.reduceAdd, Nat.reduceMul, Nat.reduceSub, Nat.zero_le, Nat.reduceLeDiff, Nat.reduceEqDiff, Nat.le_refl, not_false_eq_true, not_true_eq_false, false_implies, true_implies, forall_const, true_and, and_true, if_true, if_false, implies_true, and_self, ne_eq, false_and, and_false, or_false, false_or, true_or, or_true]
  refine mw_mono (w_tapeAdd k1 q1 k2 n2 (by omega)) ?_
  rintro _ M3 ⟨rfl, A3, n3, e3⟩
  rw [← A3.S] at k0 k1 k2
  rw [← A3.P] at q0 q1
  simp (disch := omega) only [q_aload0, q_aload0N, q_get_r, pTag_1, pRf_s, q_get_i, q_bipush, q_iadd, q_sipush, q_ic_le, q_iconst, q_iret, q_iload1, q_invv1, inv_1, q_iload2, q_iload3, q_iload4, q_iload5, e_1_0, e_1_1, L_20, L_400, k_some, k_none, pRm_i, pRm_r, pRm_0, pF_1, pF_2, inv_s, k0, q0, k1, nN_le, nN_lt, nN_eq, nN_add, nN_mul, nN_lt0, nN_ge0, nN_gt0, nN_le0, nN_eq0, nN_eq1, nN_neN, pIn_n, pIx_n, eq_self, Nat.reduceLT, Bool.false_eq_true, Nat.add_zero, Nat.zero_add, Nat.reduceAdd, Nat.reduceMul, Nat.reduceSub, Nat.zero_le, Nat.reduceLeDiff, Nat.reduceEqDiff, Nat.le_refl, not_false_eq_true, not_true_eq_false, false_implies, true_implies, forall_const, true_and, and_true, if_true, if_false, implies_true, and_self, ne_eq, false_and, and_false, or_false, false_or, true_or, or_true]
  refine mw_mono (w_tapeAdd k1 q1 k2 n3 (by omega)) ?_
  rintro _ M4 ⟨rfl, A4, n4, e4⟩
  rw [← A4.S] at k0 k1 k2
  rw [← A4.P] at q0 q1
  simp (disch := omega) only [q_aload0, q_aload0N, q_get_r, pTag_1, pRf_s, q_get_i, q_bipush, q_iadd, q_sipush, q_ic_le, q_iconst, q_iret, q_iload1, q_invv1, inv_1, q_iload2, q_iload3, q_iload4, q_iload5, e_1_0, e_1_1, L_20, L_400, k_some, k_none, pRm_i, pRm_r, pRm_0, pF_1, pF_2, inv_s, k0, q0, k1, nN_le, nN_lt, nN_eq, nN_add, nN_mul, nN_lt0, nN_ge0, nN_gt0, nN_le0, nN_eq0, nN_eq1, nN_neN, pIn_n, pIx_n, eq_self, Nat.reduceLT, Bool.false_eq_true, Nat.add_zero, Nat.zero_add, Nat.reduceAdd, Nat.reduceMul, Nat.reduceSub, Nat.zero_le, Nat.reduceLeDiff, Nat.reduceEqDiff, Nat.le_refl, not_false_eq_true, not_true_eq_false, false_implies, true_implies, forall_const, true_and, and_true, if_true, if_false, implies_true, and_self, ne_eq, false_and, and_false, or_false, false_or, true_or, or_true]
  refine mw_mono (w_tapeAdd k1 q1 k2 n4 (by omega)) ?_
  rintro _ M5 ⟨rfl, A5, n5, e5⟩
  rw [← A5.S] at k0 k1 k2
  rw [← A5.P] at q0 q1
  simp (disch := omega) only [q_aload0, q_aload0N, q_get_r, pTag_1, pRf_s, q_get_i, q_bipush, q_iadd, q_sipush, q_ic_le, q_iconst, q_iret, q_iload1, q_invv1, inv_1, q_iload2, q_iload3, q_iload4, q_iload5, e_1_0, e_1_1, L_20, L_400, k_some, k_none, pRm_i, pRm_r, pRm_0, pF_1, pF_2, inv_s, k0, q0, k1, n5, nN_le, nN_lt, nN_eq, nN_add, nN_mul, nN_lt0, nN_ge0, nN_gt0, nN_le0, nN_eq0, nN_eq1, nN_neN, pIn_n, pIx_n, eq_self, Nat.reduceLT, Bool.false_eq_true, Nat.add_zero, Nat.zero_add, Nat.reduceAdd, Nat.reduceMul, Nat.reduceSub, Nat.zero_le, Nat.reduceLeDiff, Nat.reduceEqDiff, Nat.le_refl, not_false_eq_true, not_true_eq_false, false_implies, true_implies, forall_const, true_and, and_true, if_true, if_false, implies_true, and_self, ne_eq, false_and, and_false, or_false, false_or, true_or, or_true]
  have A := (((A1.trans A2).trans A3).trans A4).trans A5
  have h9 : n + 4 + 4 + 4 + 4 + 4 = n + 20 := by omega
  refine c.tape (A.mono fun h k z => by omega) (by rw [n5, h9]) ?_ ?_ ?_
  · intro k hk
    unfold fNew fArg
    by_cases c1 : k < n
    · rw [if_pos c1, e5, if_neg (by omega), e4, if_neg (by omega), e3, if_neg (by omega), e2, if_neg (by omega), e1, if_neg (by omega)]
      exact c.tb k c1
    · rw [if_neg c1]
      by_cases c2 : k < n + 4
      · rw [e5, if_neg (by omega), e4, if_neg (by omega), e3, if_neg (by omega), e2, if_neg (by omega), e1, if_pos (by omega), if_pos (by omega)]
        congr 2; omega
      by_cases c3 : k < n + 8
      · rw [e5, if_neg (by omega), e4, if_neg (by omega), e3, if_neg (by omega), e2, if_pos (by omega), if_neg (by omega), if_pos (by omega)]
        congr 2; omega
      by_cases c4 : k < n + 12
      · rw [e5, if_neg (by omega), e4, if_neg (by omega), e3, if_pos (by omega), if_neg (by omega), if_neg (by omega), if_pos (by omega)]
        congr 2; omega
      by_cases c5 : k < n + 16
      · rw [e5, if_neg (by omega), e4, if_pos (by omega), if_neg (by omega), if_neg (by omega), if_neg (by omega), if_pos (by omega)]
        congr 2; omega
      · rw [e5, if_pos (by omega), if_neg (by omega), if_neg (by omega), if_neg (by omega), if_neg (by omega)]
        congr 2; omega
  · rw [A.I (by omega)]; exact c.im
  · rw [A.I (by omega)]; exact c.fo
theorem c_feed_n (c : CI M a ak img n b fl) (hn : n ≤ 400) (h : ¬ n + 20 ≤ 400) : mw (d + 6) 1 [.ref 0, .int v0, .int v1, .int v2, .int v3, .int v4] M Q = Q (.inl (some (.int (iN (-1))))) M := by
  have k0 := c.sh.k0
  simp (disch := omega) only [m_1, q_aload0, q_aload0N, q_get_r, pTag_1, pRf_s, q_get_i, q_bipush, q_iadd, q_sipush, q_ic_le, q_iconst, q_iret, q_iload1, q_invv1, inv_1, q_iload2, q_iload3, q_iload4, q_iload5, e_1_0, e_1_1, L_20, L_400, k_some, k_none, pRm_i, pRm_r, pRm_0, pF_1, pF_2, inv_s, k0, c.sh.p0, c.sh.k1, c.tn, h, nN_le, nN_lt, nN_eq, nN_add, nN_mul, nN_lt0, nN_ge0, nN_gt0, nN_le0, nN_eq0, nN_eq1, nN_neN, pIn_n, pIx_n, eq_self, Nat.reduceLT, Bool.false_eq_true, Nat.add_zero, Nat.zero_add, Nat.reduceAdd, Nat.reduceMul, Nat.reduceSub, Nat.zero_le, Nat.reduceLeDiff, Nat.reduceEqDiff, Nat.le_refl, not_false_eq_true, not_true_eq_false, false_implies, true_implies, forall_const, true_and, and_true, if_true, if_false, implies_true, and_self, ne_eq, false_and, and_false, or_false, false_or, true_or, or_true]
end FE
