/-! fewest: the class -/
theorem andn_0 {x y : Int32} : (x &&& (y ^^^ iN (-1)) = 0) = (x &&& y = x) := by
  have e : (iN (-1) : Int32).toBitVec = BitVec.allOnes 32 := by decide +kernel
  have e0 : (0 : Int32).toBitVec = 0#32 := rfl
  rw [← Int32.toBitVec_inj, ← Int32.toBitVec_inj, Int32.toBitVec_and, Int32.toBitVec_and, Int32.toBitVec_xor, e, e0]
  have key : ∀ a b : Bool, ((a && (b ^^ true)) = false) = ((a && b) = a) := by decide
  refine propext ⟨fun h => ?_, fun h => ?_⟩
  · apply BitVec.eq_of_getLsbD_eq
    intro i hi
    have := congrArg (fun v => v.getLsbD i) h
    simp only [BitVec.getLsbD_and, BitVec.getLsbD_xor, BitVec.getLsbD_allOnes, hi, decide_true, BitVec.getLsbD_zero] at this
    rw [BitVec.getLsbD_and]
    rw [key] at this
    exact this
  · apply BitVec.eq_of_getLsbD_eq
    intro i hi
    have := congrArg (fun v => v.getLsbD i) h
    simp only [BitVec.getLsbD_and] at this
    simp only [BitVec.getLsbD_and, BitVec.getLsbD_xor, BitVec.getLsbD_allOnes, hi, decide_true, BitVec.getLsbD_zero]
    rw [key]
    exact this
theorem bN_le {k : Nat} : bN k ≤ 12 := by
  have : ∀ j i c, lp j i c (fun i c => c + (k >>> i &&& 1)) ≤ c + j := by
    intro j
    induction j with
    | zero => intro i c; exact Nat.le_refl _
    | succ j ih =>
      intro i c
      have h := ih (i + 1) (c + (k >>> i &&& 1))
      have : k >>> i &&& 1 ≤ 1 := Nat.and_le_right
      show lp j (i + 1) (c + (k >>> i &&& 1)) _ ≤ _
      omega
  have := this 12 0 0
  exact this
section CFW
variable {d t u n p q f g m e K k dd c j y bl : Nat} {b : Nat → Nat} {a a' ak : Nat → Int32} {img : Bool} {fl : Int32} {M M0 M1 M' : pMem} {Q : pOut → pMem → Prop} {s : Nat} {P : Nat → Bool}
theorem w_holders (hr : Rep M t a) (hw : Wf a) : mw (d + 3) 152 [.ref (t + 7)] M Q = Q (.inl (some (.int (nN (hoN a))))) M := by
  have hf' := hw.f'
  have hp' := hw.p'
  simp (disch := omega) only [m_152, q_iconst, q_istore1, q_istore2, q_nop, q_iload2, q_aload0, q_aload0N, q_get_i, pTag_1, pRf_s, q_ic_ge, q_invv1, inv_1, q_if_ne, q_iload1, q_get_r, q_invs2_21, q_ishl, q_ior, q_iinc2, q_goto, q_iret, e_152_0, e_152_2, e_152_3, L_0, L_1, k_some, k_none, pRm_i, pRm_r, pRm_0, pF_1, pF_2, inv_s, nN_le, nN_lt, nN_eq, nN_add, nN_mul, nN_lt0, nN_ge0, nN_gt0, nN_le0, nN_eq0, nN_eq1, nN_neN, pIn_n, pIx_n, eq_self, Nat.reduceLT, Bool.false_eq_true, Nat.add_zero, Nat.zero_add, Nat.reduceAdd, Nat.reduceMul, Nat.reduceSub, Nat.zero_le, Nat.reduceLeDiff, Nat.reduceEqDiff, Nat.le_refl, not_false_eq_true, not_true_eq_false, false_implies, true_implies, forall_const, true_and, and_true, if_true, if_false, implies_true, and_self, ne_eq, false_and, and_false, or_false, false_or, true_or, or_true]
  rw [lp_rule (n := nF a) (C := fun k s => ([some (.ref (t + 7)), some (.int (nN s)), some (.int (nN k))], [], M)) (f := hoF a) ?_ (nF a) 0 _ (by omega)]
  · rw [e_152_1]
    simp (disch := omega) only [q_iconst, q_istore1, q_istore2, q_nop, q_iload2, q_aload0, q_aload0N, q_get_i, pTag_1, pRf_s, q_ic_ge, q_invv1, inv_1, q_if_ne, q_iload1, q_get_r, q_invs2_21, q_ishl, q_ior, q_iinc2, q_goto, q_iret, e_152_0, e_152_2, e_152_3, L_0, L_1, k_some, k_none, pRm_i, pRm_r, pRm_0, pF_1, pF_2, inv_s, hr.sh.k7, hr.nf, hr.sh.r0, hr.sh.r1, hr.sh.r2, hr.sh.r3, hr.sh.r4, hr.sh.r5, hr.sh.r6, w_atN hr.sh.k8, w_atN hr.sh.k9, w_atN hr.sh.k10, w_atN hr.sh.k11, w_atN hr.sh.k12, w_atN hr.sh.k13, w_atN hr.sh.k14, hr.g, hr.h, hr.am, hr.hd, hr.en, hr.fc, hw.f, nN_le, nN_lt, nN_eq, nN_add, nN_mul, nN_lt0, nN_ge0, nN_gt0, nN_le0, nN_eq0, nN_eq1, nN_neN, pIn_n, pIx_n, eq_self, Nat.reduceLT, Bool.false_eq_true, Nat.add_zero, Nat.zero_add, Nat.reduceAdd, Nat.reduceMul, Nat.reduceSub, Nat.zero_le, Nat.reduceLeDiff, Nat.reduceEqDiff, Nat.le_refl, not_false_eq_true, not_true_eq_false, false_implies, true_implies, forall_const, true_and, and_true, if_true, if_false, implies_true, and_self, ne_eq, false_and, and_false, or_false, false_or, true_or, or_true]
    rfl
  · intro k s hk
    have h3 : ¬ nF a ≤ k := by omega
    rw [e_152_1]
    by_cases h : fa a k 2 = iN (-1)
    · have e : hoF a k s = s := if_pos h
      rw [e]
      simp (disch := omega) only [q_iconst, q_istore1, q_istore2, q_nop, q_iload2, q_aload0, q_aload0N, q_get_i, pTag_1, pRf_s, q_ic_ge, q_invv1, inv_1, q_if_ne, q_iload1, q_get_r, q_invs2_21, q_ishl, q_ior, q_iinc2, q_goto, q_iret, e_152_0, e_152_2, e_152_3, L_0, L_1, k_some, k_none, pRm_i, pRm_r, pRm_0, pF_1, pF_2, inv_s, hr.sh.k7, hr.nf, hr.sh.r0, hr.sh.r1, hr.sh.r2, hr.sh.r3, hr.sh.r4, hr.sh.r5, hr.sh.r6, w_atN hr.sh.k8, w_atN hr.sh.k9, w_atN hr.sh.k10, w_atN hr.sh.k11, w_atN hr.sh.k12, w_atN hr.sh.k13, w_atN hr.sh.k14, hr.g, hr.h, hr.am, hr.hd, hr.en, hr.fc, hw.f, h3, w_isGone hr hw, bI_eq0, h, nN_le, nN_lt, nN_eq, nN_add, nN_mul, nN_lt0, nN_ge0, nN_gt0, nN_le0, nN_eq0, nN_eq1, nN_neN, pIn_n, pIx_n, eq_self, Nat.reduceLT, Bool.false_eq_true, Nat.add_zero, Nat.zero_add, Nat.reduceAdd, Nat.reduceMul, Nat.reduceSub, Nat.zero_le, Nat.reduceLeDiff, Nat.reduceEqDiff, Nat.le_refl, not_false_eq_true, not_true_eq_false, false_implies, true_implies, forall_const, true_and, and_true, if_true, if_false, implies_true, and_self, ne_eq, false_and, and_false, or_false, false_or, true_or, or_true]
    · obtain ⟨g1, g2⟩ := hN_ok hw hk h
      have e : hoF a k s = s ||| 1 <<< hN a k := if_neg h
      have e5 : nN s ||| nN 1 <<< (nN (hN a k) &&& 31) = nN (s ||| 1 <<< hN a k) := by rw [nN_shl (by omega), nN_or]
      rw [e, ← e5, ← g2]
      simp (disch := omega) only [q_iconst, q_istore1, q_istore2, q_nop, q_iload2, q_aload0, q_aload0N, q_get_i, pTag_1, pRf_s, q_ic_ge, q_invv1, inv_1, q_if_ne, q_iload1, q_get_r, q_invs2_21, q_ishl, q_ior, q_iinc2, q_goto, q_iret, e_152_0, e_152_2, e_152_3, L_0, L_1, k_some, k_none, pRm_i, pRm_r, pRm_0, pF_1, pF_2, inv_s, hr.sh.k7, hr.nf, hr.sh.r0, hr.sh.r1, hr.sh.r2, hr.sh.r3, hr.sh.r4, hr.sh.r5, hr.sh.r6, w_atN hr.sh.k8, w_atN hr.sh.k9, w_atN hr.sh.k10, w_atN hr.sh.k11, w_atN hr.sh.k12, w_atN hr.sh.k13, w_atN hr.sh.k14, hr.g, hr.h, hr.am, hr.hd, hr.en, hr.fc, hw.f, h3, w_isGone hr hw, bI_eq0, h, nN_le, nN_lt, nN_eq, nN_add, nN_mul, nN_lt0, nN_ge0, nN_gt0, nN_le0, nN_eq0, nN_eq1, nN_neN, pIn_n, pIx_n, eq_self, Nat.reduceLT, Bool.false_eq_true, Nat.add_zero, Nat.zero_add, Nat.reduceAdd, Nat.reduceMul, Nat.reduceSub, Nat.zero_le, Nat.reduceLeDiff, Nat.reduceEqDiff, Nat.le_refl, not_false_eq_true, not_true_eq_false, false_implies, true_implies, forall_const, true_and, and_true, if_true, if_false, implies_true, and_self, ne_eq, false_and, and_false, or_false, false_or, true_or, or_true]
def FwO (M : pMem) (a : Nat → Int32) (M1 : pMem) : Prop := Yc M a M1 ∧ ∃ b9, Rep M1 47 b9 ∧ TmR M1 47 b9 ∧ Wf b9 ∧ Gn a b9 ∧ Hd a b9
theorem c_fewest (c0 : CI M a ak img n b fl) (hw : Wf a) (hd : DyO a) : mw (d + 15) 22 [.ref 0] M (fun o M' => o = .inl (some (.int (oI (sFew a)))) ∧ Yc M a M') := by
  have k0 := c0.sh.k0
  have p1 := c0.sh.p1
  have p3 := c0.sh.p3
  have hr := c0.rep
  have hp' := hw.p'
  have hp2 := pow12 hp'
  have hS : (gS M 47).1 = 9 := by rw [c0.sh.t47.k0]
  have e1 : nN 1 <<< (nN (nP a) &&& 31) = nN (2 ^ nP a) := by rw [nN_shl (by omega), Nat.one_shiftLeft]
  simp (disch := omega) only [m_22, q_iconst, q_aload0, q_aload0N, q_get_r, pTag_1, pRf_s, q_get_i, q_ishl, q_istore1, q_invv0, inv_1, q_istore2, q_invv1, q_istore3, q_nop, q_iload3, q_ic_gt, q_istore4, q_iload4, q_iload1, q_ic_ge, q_invs1_20, q_ic_ne, q_iload2, q_ixor, q_iand, q_if_ne, q_pop_i, q_pop_r, q_iret, q_iinc4, q_goto, q_iinc3, e_22_0, e_22_3, e_22_4, e_22_5, L_0, L_1, k_some, k_none, pRm_i, pRm_r, pRm_0, pF_1, pF_2, inv_s, k0, p1, p3, hS, hr.sh.k7, hr.nf, hr.sh.r0, hr.sh.r1, hr.sh.r2, hr.sh.r3, hr.sh.r4, hr.sh.r5, hr.sh.r6, w_atN hr.sh.k8, w_atN hr.sh.k9, w_atN hr.sh.k10, w_atN hr.sh.k11, w_atN hr.sh.k12, w_atN hr.sh.k13, w_atN hr.sh.k14, hr.g, hr.h, hr.am, hr.hd, hr.en, hr.fc, hr.sh.k0, hr.nt, hr.ne, hr.nr, hr.nx, hr.day, hr.law, hr.sh.p0, hr.sh.p1, hr.sh.p2, hr.sh.p3, hr.sh.p4, hr.sh.p5, hr.sh.p6, hr.sh.p7, hr.sh.p8, hr.sh.k1, hr.np, hr.sh.q0, hr.sh.q1, hr.sh.q2, hr.sh.q3, hr.sh.q4, w_atN hr.sh.k2, w_atN hr.sh.k3, w_atN hr.sh.k4, w_atN hr.sh.k5, w_atN hr.sh.k6, hr.lim, hr.tmp, hr.near, hr.rich, hr.debt, hw.p, e1, w_holders hr hw, gS_sI, gP_sI, gI_sI, Nat.add_left_cancel_iff, Nat.add_eq_left, Nat.left_eq_add, nN_le, nN_lt, nN_eq, nN_add, nN_mul, nN_lt0, nN_ge0, nN_gt0, nN_le0, nN_eq0, nN_eq1, nN_neN, pIn_n, pIx_n, eq_self, Nat.reduceLT, Bool.false_eq_true, Nat.add_zero, Nat.zero_add, Nat.reduceAdd, Nat.reduceMul, Nat.reduceSub, Nat.zero_le, Nat.reduceLeDiff, Nat.reduceEqDiff, Nat.le_refl, not_false_eq_true, not_true_eq_false, false_implies, true_implies, forall_const, true_and, and_true, if_true, if_false, implies_true, and_self, ne_eq, false_and, and_false, or_false, false_or, true_or, or_true]
  refine mw_mono (w_spare (d := d + 6) c0 hw rfl rfl) ?_
  rintro _ M1 ⟨rfl, Y1, R1, T1, -⟩
  have F1 : FwO M a M1 := ⟨Y1, a, R1, T1, hw, Gn.rfl, Hd.rfl⟩
  simp (disch := omega) only [q_iconst, q_aload0, q_aload0N, q_get_r, pTag_1, pRf_s, q_get_i, q_ishl, q_istore1, q_invv0, inv_1, q_istore2, q_invv1, q_istore3, q_nop, q_iload3, q_ic_gt, q_istore4, q_iload4, q_iload1, q_ic_ge, q_invs1_20, q_ic_ne, q_iload2, q_ixor, q_iand, q_if_ne, q_pop_i, q_pop_r, q_iret, q_iinc4, q_goto, q_iinc3, e_22_0, e_22_3, e_22_4, e_22_5, L_0, L_1, k_some, k_none, pRm_i, pRm_r, pRm_0, pF_1, pF_2, inv_s, gS_sI, gP_sI, gI_sI, Nat.add_left_cancel_iff, Nat.add_eq_left, Nat.left_eq_add, nN_le, nN_lt, nN_eq, nN_add, nN_mul, nN_lt0, nN_ge0, nN_gt0, nN_le0, nN_eq0, nN_eq1, nN_neN, pIn_n, pIx_n, eq_self, Nat.reduceLT, Bool.false_eq_true, Nat.add_zero, Nat.zero_add, Nat.reduceAdd, Nat.reduceMul, Nat.reduceSub, Nat.zero_le, Nat.reduceLeDiff, Nat.reduceEqDiff, Nat.le_refl, not_false_eq_true, not_true_eq_false, false_implies, true_implies, forall_const, true_and, and_true, if_true, if_false, implies_true, and_self, ne_eq, false_and, and_false, or_false, false_or, true_or, or_true]
  have key : ∀ (j c : Nat) (z : Option Value) (M1 : pMem), c + j = nP a + 1 → (∀ s, s < 2 ^ nP a → bN s < c → ¬ okFw a s = true) → FwO M a M1 → bw (d + 14) 22 1 ([some (.ref 0), some (.int (nN (2 ^ nP a))), some (.int (nN (hoN a))), some (.int (nN c)), z], [], M1) (fun o M' => o = .inl (some (.int (oI (fewJ a j c)))) ∧ Yc M a M') := by
    intro j
    induction j with
    | zero =>
      intro c z M1 hc hsm F1
      have c1 := c0.sh.kf F1.1.1
      have k1 := c1.k0
      have p11 := c1.p1
      have r1 := F1.1.2.1
      have h1 : ¬ c ≤ nP a := by omega
      have h2 : nP a < c := by omega
      rw [e_22_1]
      simp (disch := omega) only [q_iconst, q_aload0, q_aload0N, q_get_r, pTag_1, pRf_s, q_get_i, q_ishl, q_istore1, q_invv0, inv_1, q_istore2, q_invv1, q_istore3, q_nop, q_iload3, q_ic_gt, q_istore4, q_iload4, q_iload1, q_ic_ge, q_invs1_20, q_ic_ne, q_iload2, q_ixor, q_iand, q_if_ne, q_pop_i, q_pop_r, q_iret, q_iinc4, q_goto, q_iinc3, e_22_0, e_22_3, e_22_4, e_22_5, L_0, L_1, k_some, k_none, pRm_i, pRm_r, pRm_0, pF_1, pF_2, inv_s, k1, p11, r1.sh.k7, r1.nf, r1.sh.r0, r1.sh.r1, r1.sh.r2, r1.sh.r3, r1.sh.r4, r1.sh.r5, r1.sh.r6, w_atN r1.sh.k8, w_atN r1.sh.k9, w_atN r1.sh.k10, w_atN r1.sh.k11, w_atN r1.sh.k12, w_atN r1.sh.k13, w_atN r1.sh.k14, r1.g, r1.h, r1.am, r1.hd, r1.en, r1.fc, r1.sh.k0, r1.nt, r1.ne, r1.nr, r1.nx, r1.day, r1.law, r1.sh.p0, r1.sh.p1, r1.sh.p2, r1.sh.p3, r1.sh.p4, r1.sh.p5, r1.sh.p6, r1.sh.p7, r1.sh.p8, r1.sh.k1, r1.np, r1.sh.q0, r1.sh.q1, r1.sh.q2, r1.sh.q3, r1.sh.q4, w_atN r1.sh.k2, w_atN r1.sh.k3, w_atN r1.sh.k4, w_atN r1.sh.k5, w_atN r1.sh.k6, r1.lim, r1.tmp, r1.near, r1.rich, r1.debt, hw.p, h1, h2, gS_sI, gP_sI, gI_sI, Nat.add_left_cancel_iff, Nat.add_eq_left, Nat.left_eq_add, nN_le, nN_lt, nN_eq, nN_add, nN_mul, nN_lt0, nN_ge0, nN_gt0, nN_le0, nN_eq0, nN_eq1, nN_neN, pIn_n, pIx_n, eq_self, Nat.reduceLT, Bool.false_eq_true, Nat.add_zero, Nat.zero_add, Nat.reduceAdd, Nat.reduceMul, Nat.reduceSub, Nat.zero_le, Nat.reduceLeDiff, Nat.reduceEqDiff, Nat.le_refl, not_false_eq_true, not_true_eq_false, false_implies, true_implies, forall_const, true_and, and_true, if_true, if_false, implies_true, and_self, ne_eq, false_and, and_false, or_false, false_or, true_or, or_true]
      exact ⟨rfl, F1.1⟩
    | succ j ih =>
      intro c z M1 hc hsm F1
      have c1 := c0.sh.kf F1.1.1
      have k1 := c1.k0
      have p11 := c1.p1
      have r1 := F1.1.2.1
      have h1 : c ≤ nP a := by omega
      have h2 : ¬ nP a < c := by omega
      rw [e_22_1]
      simp (disch := omega) only [q_iconst, q_aload0, q_aload0N, q_get_r, pTag_1, pRf_s, q_get_i, q_ishl, q_istore1, q_invv0, inv_1, q_istore2, q_invv1, q_istore3, q_nop, q_iload3, q_ic_gt, q_istore4, q_iload4, q_iload1, q_ic_ge, q_invs1_20, q_ic_ne, q_iload2, q_ixor, q_iand, q_if_ne, q_pop_i, q_pop_r, q_iret, q_iinc4, q_goto, q_iinc3, e_22_0, e_22_3, e_22_4, e_22_5, L_0, L_1, k_some, k_none, pRm_i, pRm_r, pRm_0, pF_1, pF_2, inv_s, k1, p11, r1.sh.k7, r1.nf, r1.sh.r0, r1.sh.r1, r1.sh.r2, r1.sh.r3, r1.sh.r4, r1.sh.r5, r1.sh.r6, w_atN r1.sh.k8, w_atN r1.sh.k9, w_atN r1.sh.k10, w_atN r1.sh.k11, w_atN r1.sh.k12, w_atN r1.sh.k13, w_atN r1.sh.k14, r1.g, r1.h, r1.am, r1.hd, r1.en, r1.fc, r1.sh.k0, r1.nt, r1.ne, r1.nr, r1.nx, r1.day, r1.law, r1.sh.p0, r1.sh.p1, r1.sh.p2, r1.sh.p3, r1.sh.p4, r1.sh.p5, r1.sh.p6, r1.sh.p7, r1.sh.p8, r1.sh.k1, r1.np, r1.sh.q0, r1.sh.q1, r1.sh.q2, r1.sh.q3, r1.sh.q4, w_atN r1.sh.k2, w_atN r1.sh.k3, w_atN r1.sh.k4, w_atN r1.sh.k5, w_atN r1.sh.k6, r1.lim, r1.tmp, r1.near, r1.rich, r1.debt, hw.p, h1, h2, gS_sI, gP_sI, gI_sI, Nat.add_left_cancel_iff, Nat.add_eq_left, Nat.left_eq_add, nN_le, nN_lt, nN_eq, nN_add, nN_mul, nN_lt0, nN_ge0, nN_gt0, nN_le0, nN_eq0, nN_eq1, nN_neN, pIn_n, pIx_n, eq_self, Nat.reduceLT, Bool.false_eq_true, Nat.add_zero, Nat.zero_add, Nat.reduceAdd, Nat.reduceMul, Nat.reduceSub, Nat.zero_le, Nat.reduceLeDiff, Nat.reduceEqDiff, Nat.le_refl, not_false_eq_true, not_true_eq_false, false_implies, true_implies, forall_const, true_and, and_true, if_true, if_false, implies_true, and_self, ne_eq, false_and, and_false, or_false, false_or, true_or, or_true]
      refine loopO (n := 2 ^ nP a) (P := fewP a c) (J := Unit) (C := fun k _ M => ([some (.ref 0), some (.int (nN (2 ^ nP a))), some (.int (nN (hoN a))), some (.int (nN c)), some (.int (nN k))], [], M)) (R := FwO M a) (o := fun s => .inl (some (.int (nN s)))) ?_ (2 ^ nP a) 0 () M1 (by omega) F1 ?_ ?_
      · rintro k _ M2 hk F2 yes no
        have h3 : ¬ 2 ^ nP a ≤ k := by omega
        have hk2 : k < 4096 := by omega
        have bk := bN_le (k := k)
        have hho := hoN_lt hw
        have eA : (nN k &&& (nN (hoN a) ^^^ iN (-1)) = 0) = (k &&& hoN a = k) := by
          rw [andn_0, nN_and, nN_eq]
          · exact Nat.lt_of_le_of_lt Nat.and_le_left (by omega)
          · omega
        rw [e_22_2]
        by_cases hb : bN k = c
        · by_cases hh : k &&& hoN a = k
          · obtain ⟨Y2, b9, R9, T9, w9, G9, H9⟩ := F2
            have c2 := c0.sh.kf Y2.1
            have k2 := c2.k0
            have p12 := c2.p1
            have p32 := c2.p3
            have hS2 : (gS M2 47).1 = 9 := by rw [c2.t47.k0]
            simp (disch := omega) only [q_iconst, q_aload0, q_aload0N, q_get_r, pTag_1, pRf_s, q_get_i, q_ishl, q_istore1, q_invv0, inv_1, q_istore2, q_invv1, q_istore3, q_nop, q_iload3, q_ic_gt, q_istore4, q_iload4, q_iload1, q_ic_ge, q_invs1_20, q_ic_ne, q_iload2, q_ixor, q_iand, q_if_ne, q_pop_i, q_pop_r, q_iret, q_iinc4, q_goto, q_iinc3, e_22_0, e_22_3, e_22_4, e_22_5, L_0, L_1, k_some, k_none, pRm_i, pRm_r, pRm_0, pF_1, pF_2, inv_s, k2, p12, p32, hS2, h3, w_bitCount hk2, hb, eA, hh, gS_sI, gP_sI, gI_sI, Nat.add_left_cancel_iff, Nat.add_eq_left, Nat.left_eq_add, nN_le, nN_lt, nN_eq, nN_add, nN_mul, nN_lt0, nN_ge0, nN_gt0, nN_le0, nN_eq0, nN_eq1, nN_neN, pIn_n, pIx_n, eq_self, Nat.reduceLT, Bool.false_eq_true, Nat.add_zero, Nat.zero_add, Nat.reduceAdd, Nat.reduceMul, Nat.reduceSub, Nat.zero_le, Nat.reduceLeDiff, Nat.reduceEqDiff, Nat.le_refl, not_false_eq_true, not_true_eq_false, false_implies, true_implies, forall_const, true_and, and_true, if_true, if_false, implies_true, and_self, ne_eq, false_and, and_false, or_false, false_or, true_or, or_true]
            refine mw_mono (w_holdAs (d := d + 11) (by omega) c2.t3 c2.t47) ?_
            rintro _ M3 ⟨rfl, B3, P3, ot⟩
            have K3 := KF.bk B3
            have R3 : Rep M3 3 a := rep_other B3 Y2.2.1 hw (by omega)
            have T3 := K3.tm Y2.2.2 (show 3 ≠ 47 by omega)
            have Y3 : Yc M a M3 := ⟨Y2.1.trans K3, R3, T3⟩
            have S3 : Rep M3 47 a := rep_hold R9 Y2.2.1 hw w9 G9 H9 B3 P3 ot
            have ST3 : TmR M3 47 a := (T9.bk2 B3 (by omega) P3).tab (lo_nT G9.1).symm (fun k _ => (txt_hi G9.2).symm)
            have c3 := c0.sh.kf Y3.1
            have k3 := c3.k0
            have p33 := c3.p3
            have hS3 : (gS M3 47).1 = 9 := by rw [c3.t47.k0]
            simp (disch := omega) only [q_iconst, q_aload0, q_aload0N, q_get_r, pTag_1, pRf_s, q_get_i, q_ishl, q_istore1, q_invv0, inv_1, q_istore2, q_invv1, q_istore3, q_nop, q_iload3, q_ic_gt, q_istore4, q_iload4, q_iload1, q_ic_ge, q_invs1_20, q_ic_ne, q_iload2, q_ixor, q_iand, q_if_ne, q_pop_i, q_pop_r, q_iret, q_iinc4, q_goto, q_iinc3, e_22_0, e_22_3, e_22_4, e_22_5, L_0, L_1, k_some, k_none, pRm_i, pRm_r, pRm_0, pF_1, pF_2, inv_s, k3, p33, hS3, gS_sI, gP_sI, gI_sI, Nat.add_left_cancel_iff, Nat.add_eq_left, Nat.left_eq_add, nN_le, nN_lt, nN_eq, nN_add, nN_mul, nN_lt0, nN_ge0, nN_gt0, nN_le0, nN_eq0, nN_eq1, nN_neN, pIn_n, pIx_n, eq_self, Nat.reduceLT, Bool.false_eq_true, Nat.add_zero, Nat.zero_add, Nat.reduceAdd, Nat.reduceMul, Nat.reduceSub, Nat.zero_le, Nat.reduceLeDiff, Nat.reduceEqDiff, Nat.le_refl, not_false_eq_true, not_true_eq_false, false_implies, true_implies, forall_const, true_and, and_true, if_true, if_false, implies_true, and_self, ne_eq, false_and, and_false, or_false, false_or, true_or, or_true]
            refine mw_mono (w_spareLet (d := d + 6) (x := nN k) S3 hw ST3 R3 T3 c3 rfl) ?_
            rintro _ M4 ⟨rfl, Y4, S4, ST4⟩
            have Y34 := Y3.trans Y4
            have c4 := c0.sh.kf Y34.1
            have k4 := c4.k0
            have p34 := c4.p3
            have hS4 : (gS M4 47).1 = 9 := by rw [c4.t47.k0]
            obtain ⟨w4, G4⟩ := sLets_ok (set := nN k) hw
            have H4 := sLets_hd (set := nN k) hw
            simp (disch := omega) only [q_iconst, q_aload0, q_aload0N, q_get_r, pTag_1, pRf_s, q_get_i, q_ishl, q_istore1, q_invv0, inv_1, q_istore2, q_invv1, q_istore3, q_nop, q_iload3, q_ic_gt, q_istore4, q_iload4, q_iload1, q_ic_ge, q_invs1_20, q_ic_ne, q_iload2, q_ixor, q_iand, q_if_ne, q_pop_i, q_pop_r, q_iret, q_iinc4, q_goto, q_iinc3, e_22_0, e_22_3, e_22_4, e_22_5, L_0, L_1, k_some, k_none, pRm_i, pRm_r, pRm_0, pF_1, pF_2, inv_s, k4, p34, hS4, gS_sI, gP_sI, gI_sI, Nat.add_left_cancel_iff, Nat.add_eq_left, Nat.left_eq_add, nN_le, nN_lt, nN_eq, nN_add, nN_mul, nN_lt0, nN_ge0, nN_gt0, nN_le0, nN_eq0, nN_eq1, nN_neN, pIn_n, pIx_n, eq_self, Nat.reduceLT, Bool.false_eq_true, Nat.add_zero, Nat.zero_add, Nat.reduceAdd, Nat.reduceMul, Nat.reduceSub, Nat.zero_le, Nat.reduceLeDiff, Nat.reduceEqDiff, Nat.le_refl, not_false_eq_true, not_true_eq_false, false_implies, true_implies, forall_const, true_and, and_true, if_true, if_false, implies_true, and_self, ne_eq, false_and, and_false, or_false, false_or, true_or, or_true]
            refine mw_mono (w_spareUn (d := d) S4 w4 ST4 (G4.dy hd) Y34.2.1 Y34.2.2 c4 rfl) ?_
            rintro _ M5 ⟨rfl, Y5, S5, ST5⟩
            have F5 : FwO M a M5 := ⟨Y34.trans Y5, _, S5, ST5, w4, G4, H4⟩
            cases hf : sFirst (sLets a (nN k)).1 with
            | none =>
              have hP : fewP a c k = true := by unfold fewP okFw; rw [hf, hb]; simp
              simp (disch := omega) only [q_iconst, q_aload0, q_aload0N, q_get_r, pTag_1, pRf_s, q_get_i, q_ishl, q_istore1, q_invv0, inv_1, q_istore2, q_invv1, q_istore3, q_nop, q_iload3, q_ic_gt, q_istore4, q_iload4, q_iload1, q_ic_ge, q_invs1_20, q_ic_ne, q_iload2, q_ixor, q_iand, q_if_ne, q_pop_i, q_pop_r, q_iret, q_iinc4, q_goto, q_iinc3, e_22_0, e_22_3, e_22_4, e_22_5, L_0, L_1, k_some, k_none, pRm_i, pRm_r, pRm_0, pF_1, pF_2, inv_s, oI, nN_le, nN_lt, nN_eq, nN_add, nN_mul, nN_lt0, nN_ge0, nN_gt0, nN_le0, nN_eq0, nN_eq1, nN_neN, pIn_n, pIx_n, eq_self, Nat.reduceLT, Bool.false_eq_true, Nat.add_zero, Nat.zero_add, Nat.reduceAdd, Nat.reduceMul, Nat.reduceSub, Nat.zero_le, Nat.reduceLeDiff, Nat.reduceEqDiff, Nat.le_refl, not_false_eq_true, not_true_eq_false, false_implies, true_implies, forall_const, true_and, and_true, if_true, if_false, implies_true, and_self, ne_eq, false_and, and_false, or_false, false_or, true_or, or_true]
              have := yes hP M5 F5
              exact ⟨this.1, this.2⟩
            | some x9 =>
              have hP : ¬ fewP a c k = true := by unfold fewP okFw; rw [hf]; simp
              have hx9 : x9 < 4000 := by
                have := sUnm_none (a := (sLets a (nN k)).1) _ _ x9 hf
                have := w4.n'
                omega
              have e9 : ¬ nN x9 = iN (-1) := by rw [nN_neN (by omega)]; exact not_false
              simp (disch := omega) only [q_iconst, q_aload0, q_aload0N, q_get_r, pTag_1, pRf_s, q_get_i, q_ishl, q_istore1, q_invv0, inv_1, q_istore2, q_invv1, q_istore3, q_nop, q_iload3, q_ic_gt, q_istore4, q_iload4, q_iload1, q_ic_ge, q_invs1_20, q_ic_ne, q_iload2, q_ixor, q_iand, q_if_ne, q_pop_i, q_pop_r, q_iret, q_iinc4, q_goto, q_iinc3, e_22_0, e_22_3, e_22_4, e_22_5, L_0, L_1, k_some, k_none, pRm_i, pRm_r, pRm_0, pF_1, pF_2, inv_s, oI, e9, nN_le, nN_lt, nN_eq, nN_add, nN_mul, nN_lt0, nN_ge0, nN_gt0, nN_le0, nN_eq0, nN_eq1, nN_neN, pIn_n, pIx_n, eq_self, Nat.reduceLT, Bool.false_eq_true, Nat.add_zero, Nat.zero_add, Nat.reduceAdd, Nat.reduceMul, Nat.reduceSub, Nat.zero_le, Nat.reduceLeDiff, Nat.reduceEqDiff, Nat.le_refl, not_false_eq_true, not_true_eq_false, false_implies, true_implies, forall_const, true_and, and_true, if_true, if_false, implies_true, and_self, ne_eq, false_and, and_false, or_false, false_or, true_or, or_true]
              exact no hP M5 () F5
          · have hno : ¬ okFw a k = true := by
              rw [← okFw_ho hw hk2]
              have l1 := bN_sub hk2 hh
              exact hsm _ (Nat.lt_of_le_of_lt Nat.and_le_left hk) (by omega)
            simp (disch := omega) only [q_iconst, q_aload0, q_aload0N, q_get_r, pTag_1, pRf_s, q_get_i, q_ishl, q_istore1, q_invv0, inv_1, q_istore2, q_invv1, q_istore3, q_nop, q_iload3, q_ic_gt, q_istore4, q_iload4, q_iload1, q_ic_ge, q_invs1_20, q_ic_ne, q_iload2, q_ixor, q_iand, q_if_ne, q_pop_i, q_pop_r, q_iret, q_iinc4, q_goto, q_iinc3, e_22_0, e_22_3, e_22_4, e_22_5, L_0, L_1, k_some, k_none, pRm_i, pRm_r, pRm_0, pF_1, pF_2, inv_s, h3, w_bitCount hk2, hb, eA, hh, gS_sI, gP_sI, gI_sI, Nat.add_left_cancel_iff, Nat.add_eq_left, Nat.left_eq_add, nN_le, nN_lt, nN_eq, nN_add, nN_mul, nN_lt0, nN_ge0, nN_gt0, nN_le0, nN_eq0, nN_eq1, nN_neN, pIn_n, pIx_n, eq_self, Nat.reduceLT, Bool.false_eq_true, Nat.add_zero, Nat.zero_add, Nat.reduceAdd, Nat.reduceMul, Nat.reduceSub, Nat.zero_le, Nat.reduceLeDiff, Nat.reduceEqDiff, Nat.le_refl, not_false_eq_true, not_true_eq_false, false_implies, true_implies, forall_const, true_and, and_true, if_true, if_false, implies_true, and_self, ne_eq, false_and, and_false, or_false, false_or, true_or, or_true]
            exact no (by unfold fewP; intro z; rw [Bool.and_eq_true] at z; exact hno z.2) M2 () F2
        · simp (disch := omega) only [q_iconst, q_aload0, q_aload0N, q_get_r, pTag_1, pRf_s, q_get_i, q_ishl, q_istore1, q_invv0, inv_1, q_istore2, q_invv1, q_istore3, q_nop, q_iload3, q_ic_gt, q_istore4, q_iload4, q_iload1, q_ic_ge, q_invs1_20, q_ic_ne, q_iload2, q_ixor, q_iand, q_if_ne, q_pop_i, q_pop_r, q_iret, q_iinc4, q_goto, q_iinc3, e_22_0, e_22_3, e_22_4, e_22_5, L_0, L_1, k_some, k_none, pRm_i, pRm_r, pRm_0, pF_1, pF_2, inv_s, h3, w_bitCount hk2, hb, gS_sI, gP_sI, gI_sI, Nat.add_left_cancel_iff, Nat.add_eq_left, Nat.left_eq_add, nN_le, nN_lt, nN_eq, nN_add, nN_mul, nN_lt0, nN_ge0, nN_gt0, nN_le0, nN_eq0, nN_eq1, nN_neN, pIn_n, pIx_n, eq_self, Nat.reduceLT, Bool.false_eq_true, Nat.add_zero, Nat.zero_add, Nat.reduceAdd, Nat.reduceMul, Nat.reduceSub, Nat.zero_le, Nat.reduceLeDiff, Nat.reduceEqDiff, Nat.le_refl, not_false_eq_true, not_true_eq_false, false_implies, true_implies, forall_const, true_and, and_true, if_true, if_false, implies_true, and_self, ne_eq, false_and, and_false, or_false, false_or, true_or, or_true]
          exact no (by unfold fewP; rw [decide_eq_false hb]; simp) M2 () F2
      · intro s hs M2 F2
        have e : fewJ a (j + 1) c = some s := by show (match fstO (fewP a c) (2 ^ nP a) 0 with | some s => some s | none => fewJ a j (c + 1)) = _; rw [hs]
        rw [e]
        exact ⟨rfl, F2.1⟩
      · intro hs M2 _ F2
        have e : fewJ a (j + 1) c = fewJ a j (c + 1) := by show (match fstO (fewP a c) (2 ^ nP a) 0 with | some s => some s | none => fewJ a j (c + 1)) = _; rw [hs]
        have hsm2 : ∀ s, s < 2 ^ nP a → bN s < c + 1 → ¬ okFw a s = true := by
          intro s h1 h2 h3
          by_cases e : bN s = c
          · exact fstO_none _ _ hs s (by omega) (by omega) (by unfold fewP; rw [decide_eq_true e, h3]; rfl)
          · exact hsm s h1 (by omega) h3
        rw [e, e_22_2]
        simp (disch := omega) only [q_iconst, q_aload0, q_aload0N, q_get_r, pTag_1, pRf_s, q_get_i, q_ishl, q_istore1, q_invv0, inv_1, q_istore2, q_invv1, q_istore3, q_nop, q_iload3, q_ic_gt, q_istore4, q_iload4, q_iload1, q_ic_ge, q_invs1_20, q_ic_ne, q_iload2, q_ixor, q_iand, q_if_ne, q_pop_i, q_pop_r, q_iret, q_iinc4, q_goto, q_iinc3, e_22_0, e_22_3, e_22_4, e_22_5, L_0, L_1, k_some, k_none, pRm_i, pRm_r, pRm_0, pF_1, pF_2, inv_s, gS_sI, gP_sI, gI_sI, Nat.add_left_cancel_iff, Nat.add_eq_left, Nat.left_eq_add, nN_le, nN_lt, nN_eq, nN_add, nN_mul, nN_lt0, nN_ge0, nN_gt0, nN_le0, nN_eq0, nN_eq1, nN_neN, pIn_n, pIx_n, eq_self, Nat.reduceLT, Bool.false_eq_true, Nat.add_zero, Nat.zero_add, Nat.reduceAdd, Nat.reduceMul, Nat.reduceSub, Nat.zero_le, Nat.reduceLeDiff, Nat.reduceEqDiff, Nat.le_refl, not_false_eq_true, not_true_eq_false, false_implies, true_implies, forall_const, true_and, and_true, if_true, if_false, implies_true, and_self, ne_eq, false_and, and_false, or_false, false_or, true_or, or_true]
        exact ih (c + 1) _ M2 (by omega) hsm2 F2
  exact key (nP a + 1) 0 none M1 (by omega) (fun s _ h => absurd h (by omega)) F1
end CFW
