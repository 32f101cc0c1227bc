/-! play: the class -/
section CP
variable {d t u n p q f g m e K k dd : Nat} {n' : Nat} {b b' : Nat → Nat} {a a0 a' ak : Nat → Int32} {img fc : Bool} {fl : Int32} {M M0 M1 M' : pMem} {Q : pOut → pMem → Prop} {x y z v w : Int32} {X Y : Nat} {s : tPl} {c : Int32 × Int32 × Int32}
theorem w_run (h85 : gS M 85 = (3, 0)) (hT : TmR M 47 a) (hR : Rep M 47 a) (hw : Wt a K) (hn : n ≤ 60) (hK : K + 6000 < 2000000) {sd : Int32} : mw (d + 14) 166 [.ref 85, .ref 47, .int sd, .int (nN n)] M (fun o M' => o = .inl none ∧ PlO M a (K + 99 * n) (sPlay a sd n) M') := by
  simp (disch := omega) only [m_166, q_aload0, q_aload0N, q_iload2, q_put_i, pTag_1, q_iconst, q_istore4, q_nop, q_iload4, q_iload3, q_ic_ge, q_istore5, q_iload5, q_aload1, q_aload1N, q_get_r, pRf_s, q_get_i, q_invv0, inv_1, q_max, q_irem, q_istore6, q_iload6, q_ic_eq, q_istore7, q_bipush, q_iadd, q_invv3, q_istore8, q_iload8, q_iload7, q_ic_le, q_goto, q_invv2, q_iinc5, q_invv1, q_pop_i, q_pop_r, q_iinc4, q_vret, e_166_0, e_166_3, e_166_4, e_166_5, e_166_6, e_166_7, L_0, L_1, L_9, k_some, k_none, pRm_i, pRm_r, pRm_0, pF_1, pF_2, inv_s, h85, gS_sI, gS_sI, gP_sI, gI_sI, Nat.add_left_cancel_iff, Nat.add_eq_left, Nat.left_eq_add, nN_le, nN_lt, nN_eq, nN_add, nN_mul, nN_lt0, nN_ge0, nN_gt0, nN_le0, nN_eq0, nN_eq1, nN_neN, pIn_n, pIx_n, eq_self, Nat.reduceLT, Bool.false_eq_true, Nat.add_zero, Nat.zero_add, Nat.reduceAdd, Nat.reduceMul, Nat.reduceSub, Nat.zero_le, Nat.reduceLeDiff, Nat.reduceEqDiff, Nat.le_refl, not_false_eq_true, not_true_eq_false, false_implies, true_implies, forall_const, true_and, and_true, if_true, if_false, implies_true, and_self, ne_eq, false_and, and_false, or_false, false_or, true_or, or_true]
  refine loopR (n := n) (J := Option Value × Option Value × Option Value × Option Value) (C := fun k s z M => ([some (.ref 85), some (.ref 47), some (.int sd), some (.int (nN n)), some (.int (nN k)), z.1, z.2.1, z.2.2.1, z.2.2.2], [], M)) (f := plD) (R := fun k s M1 => PlO M a (K + 99 * k) s M1) ?_ n 0 (a, sd, nN 0, nN 0, nN 0) (none, none, none, none) _ (by omega) ?_ ?_
  · rintro k s ⟨z5, z6, z7, z8⟩ M1 hk h go
    have hk1 : ¬ n ≤ k := by omega
    have hP0 := pk_nP h.1
    rw [e_166_1]
    simp (disch := omega) only [q_aload0, q_aload0N, q_iload2, q_put_i, pTag_1, q_iconst, q_istore4, q_nop, q_iload4, q_iload3, q_ic_ge, q_istore5, q_iload5, q_aload1, q_aload1N, q_get_r, pRf_s, q_get_i, q_invv0, inv_1, q_max, q_irem, q_istore6, q_iload6, q_ic_eq, q_istore7, q_bipush, q_iadd, q_invv3, q_istore8, q_iload8, q_iload7, q_ic_le, q_goto, q_invv2, q_iinc5, q_invv1, q_pop_i, q_pop_r, q_iinc4, q_vret, e_166_0, e_166_3, e_166_4, e_166_5, e_166_6, e_166_7, L_0, L_1, L_9, k_some, k_none, pRm_i, pRm_r, pRm_0, pF_1, pF_2, inv_s, hk1, nN_le, nN_lt, nN_eq, nN_add, nN_mul, nN_lt0, nN_ge0, nN_gt0, nN_le0, nN_eq0, nN_eq1, nN_neN, pIn_n, pIx_n, eq_self, Nat.reduceLT, Bool.false_eq_true, Nat.add_zero, Nat.zero_add, Nat.reduceAdd, Nat.reduceMul, Nat.reduceSub, Nat.zero_le, Nat.reduceLeDiff, Nat.reduceEqDiff, Nat.le_refl, not_false_eq_true, not_true_eq_false, false_implies, true_implies, forall_const, true_and, and_true, if_true, if_false, implies_true, and_self, ne_eq, false_and, and_false, or_false, false_or, true_or, or_true]
    refine loopR (n := nP s.1) (J := Option Value × Option Value × Option Value) (C := fun X s z M => ([some (.ref 85), some (.ref 47), some (.int sd), some (.int (nN n)), some (.int (nN k)), some (.int (nN X)), z.1, z.2.1, z.2.2], [], M)) (f := plX) (R := fun X s M1 => PlO M a (K + 99 * k) s M1) ?_ (nP s.1) 0 s (z6, z7, z8) M1 (by omega) h ?_
    · rintro X s1 ⟨z6, z7, z8⟩ M2 hX h2 go2
      exact run_x (d := d) h85 hT (by omega) (by omega) h2 (fun M' z6 z7 z8 h3 => go2 M' (z6, z7, z8) h3)
    · rintro M2 ⟨z6, z7, z8⟩ h2
      have ed : plD k s = ((sDays (lp (nP s.1) 0 s plX).1 (nN 1)).1, (lp (nP s.1) 0 s plX).2) := rfl
      rw [ed] at go
      clear ed
      generalize lp (nP s.1) 0 s plX = s2 at *
      obtain ⟨a2, sd2, c2⟩ := s2
      obtain ⟨PK, R, e0, C, A⟩ := h2
      dsimp only at PK R e0 C go
      have eP := pk_nP PK
      have hp2 : nP s.1 = nP a2 := by rw [eP, hP0]
      have hw2 := PK.1
      have hp' := hw2.1.p'
      rw [e_166_2, hp2]
      simp (disch := omega) only [q_aload0, q_aload0N, q_iload2, q_put_i, pTag_1, q_iconst, q_istore4, q_nop, q_iload4, q_iload3, q_ic_ge, q_istore5, q_iload5, q_aload1, q_aload1N, q_get_r, pRf_s, q_get_i, q_invv0, inv_1, q_max, q_irem, q_istore6, q_iload6, q_ic_eq, q_istore7, q_bipush, q_iadd, q_invv3, q_istore8, q_iload8, q_iload7, q_ic_le, q_goto, q_invv2, q_iinc5, q_invv1, q_pop_i, q_pop_r, q_iinc4, q_vret, e_166_0, e_166_3, e_166_4, e_166_5, e_166_6, e_166_7, L_0, L_1, L_9, k_some, k_none, pRm_i, pRm_r, pRm_0, pF_1, pF_2, inv_s, R.sh.k0, R.nt, R.ne, R.nr, R.nx, R.day, R.law, R.sh.p0, R.sh.p1, R.sh.p2, R.sh.p3, R.sh.p4, R.sh.p5, R.sh.p6, R.sh.p7, R.sh.p8, R.sh.k1, R.np, R.sh.q0, R.sh.q1, R.sh.q2, R.sh.q3, R.sh.q4, w_atN R.sh.k2, w_atN R.sh.k3, w_atN R.sh.k4, w_atN R.sh.k5, w_atN R.sh.k6, R.lim, R.tmp, R.near, R.rich, R.debt, hw2.1.p, nN_le, nN_lt, nN_eq, nN_add, nN_mul, nN_lt0, nN_ge0, nN_gt0, nN_le0, nN_eq0, nN_eq1, nN_neN, pIn_n, pIx_n, eq_self, Nat.reduceLT, Bool.false_eq_true, Nat.add_zero, Nat.zero_add, Nat.reduceAdd, Nat.reduceMul, Nat.reduceSub, Nat.zero_le, Nat.reduceLeDiff, Nat.reduceEqDiff, Nat.le_refl, not_false_eq_true, not_true_eq_false, false_implies, true_implies, forall_const, true_and, and_true, if_true, if_false, implies_true, and_self, ne_eq, false_and, and_false, or_false, false_or, true_or, or_true]
      refine mw_mono (w_daysPass (d := d + 7) (n := nN 1) R hw2.1) ?_
      rintro _ M3 ⟨rfl, R3, A3⟩
      simp (disch := omega) only [q_aload0, q_aload0N, q_iload2, q_put_i, pTag_1, q_iconst, q_istore4, q_nop, q_iload4, q_iload3, q_ic_ge, q_istore5, q_iload5, q_aload1, q_aload1N, q_get_r, pRf_s, q_get_i, q_invv0, inv_1, q_max, q_irem, q_istore6, q_iload6, q_ic_eq, q_istore7, q_bipush, q_iadd, q_invv3, q_istore8, q_iload8, q_iload7, q_ic_le, q_goto, q_invv2, q_iinc5, q_invv1, q_pop_i, q_pop_r, q_iinc4, q_vret, e_166_0, e_166_3, e_166_4, e_166_5, e_166_6, e_166_7, L_0, L_1, L_9, k_some, k_none, pRm_i, pRm_r, pRm_0, pF_1, pF_2, inv_s, nN_le, nN_lt, nN_eq, nN_add, nN_mul, nN_lt0, nN_ge0, nN_gt0, nN_le0, nN_eq0, nN_eq1, nN_neN, pIn_n, pIx_n, eq_self, Nat.reduceLT, Bool.false_eq_true, Nat.add_zero, Nat.zero_add, Nat.reduceAdd, Nat.reduceMul, Nat.reduceSub, Nat.zero_le, Nat.reduceLeDiff, Nat.reduceEqDiff, Nat.le_refl, not_false_eq_true, not_true_eq_false, false_implies, true_implies, forall_const, true_and, and_true, if_true, if_false, implies_true, and_self, ne_eq, false_and, and_false, or_false, false_or, true_or, or_true]
      obtain ⟨w1, w2⟩ := wt_days (v := 1) hw2 (by omega) (by omega)
      have A3' := A3
      rw [A.S, A.P] at A3'
      have N3 : ∀ k, gI M3 85 k = gI M2 85 k := fun k => A3.I (by
        rintro (z | ⟨q, ⟨hq, -⟩, z⟩)
        · omega
        · rcases z with z | ⟨z, -⟩ <;> omega)
      refine go M3 (_, z6, z7, z8) ⟨PK.trans ⟨?_, w2, ?_⟩, R3, by rw [N3]; exact e0, ⟨by rw [N3]; exact C.1, by rw [N3]; exact C.2.1, by rw [N3]; exact C.2.2⟩, A.trans (A3'.mono fun h k z => Or.inl z)⟩
      · rw [show K + 99 * (k + 1) = K + 99 * k + 99 from by omega]; exact w1
      · exact ((sDays_ok (n := nN 1) hw2.1).2.1 1 (by omega)).trans (if_neg (by omega))
  · have A : Ag (fun h _ => h = 85) M (sI (sI (sI (sI M 85 0 sd) 85 1 (nN 0)) 85 2 (nN 0)) 85 3 (nN 0)) := Ag.put (Ag.put (Ag.put (Ag.one rfl) rfl) rfl) rfl
    refine ⟨⟨hw, Gk.rfl, rfl⟩, hR.ag A (fun h k h1 h2 h3 h4 => by omega), ?_, ⟨?_, ?_, ?_⟩, A.mono fun h k z => Or.inr z⟩
    · simp [gI_sI]
    · simp [gI_sI]
    · simp [gI_sI]
    · simp [gI_sI]
  · rintro M1 ⟨z5, z6, z7, z8⟩ h
    rw [e_166_1]
    simp (disch := omega) only [q_aload0, q_aload0N, q_iload2, q_put_i, pTag_1, q_iconst, q_istore4, q_nop, q_iload4, q_iload3, q_ic_ge, q_istore5, q_iload5, q_aload1, q_aload1N, q_get_r, pRf_s, q_get_i, q_invv0, inv_1, q_max, q_irem, q_istore6, q_iload6, q_ic_eq, q_istore7, q_bipush, q_iadd, q_invv3, q_istore8, q_iload8, q_iload7, q_ic_le, q_goto, q_invv2, q_iinc5, q_invv1, q_pop_i, q_pop_r, q_iinc4, q_vret, e_166_0, e_166_3, e_166_4, e_166_5, e_166_6, e_166_7, L_0, L_1, L_9, k_some, k_none, pRm_i, pRm_r, pRm_0, pF_1, pF_2, inv_s, nN_le, nN_lt, nN_eq, nN_add, nN_mul, nN_lt0, nN_ge0, nN_gt0, nN_le0, nN_eq0, nN_eq1, nN_neN, pIn_n, pIx_n, eq_self, Nat.reduceLT, Bool.false_eq_true, Nat.add_zero, Nat.zero_add, Nat.reduceAdd, Nat.reduceMul, Nat.reduceSub, Nat.zero_le, Nat.reduceLeDiff, Nat.reduceEqDiff, Nat.le_refl, not_false_eq_true, not_true_eq_false, false_implies, true_implies, forall_const, true_and, and_true, if_true, if_false, implies_true, and_self, ne_eq, false_and, and_false, or_false, false_or, true_or, or_true]
    exact h
end CP
