/-! play: the model's rounds, and its end -/
section KP2
variable {d t u n p q f g m e K k dd : Nat} {n' : Nat} {b b' : Nat → Nat} {a a0 a' ak : Nat → Int32} {img fc : Bool} {fl : Int32} {M M0 M1 M' : pMem} {Q : pOut → pMem → Prop} {x y z v w : Int32} {X Y : Nat} {s : tPl} {c : Int32 × Int32 × Int32}
theorem runm_x (hK : K < 2000000) (hX : X < nP a) (h : PmO M u a K s M1) {l1 l2 l3 l7 z9 z10 z11 : Option Value}
    (go : ∀ M' z9 z10 z11, PmO M u a K (plX X s) M' → bw (d + 70) 137 8 ([some (.ref u), l1, l2, l3, some (.int (plX X s).2.2.1), some (.int (plX X s).2.2.2.1), some (.int (plX X s).2.2.2.2), l7, some (.int (nN (X + 1))), z9, z10, z11], [], M') Q) :
    bw (d + 70) 137 8 ([some (.ref u), l1, l2, l3, some (.int s.2.2.1), some (.int s.2.2.2.1), some (.int s.2.2.2.2), l7, some (.int (nN X)), z9, z10, z11], [], M1) Q := by
  obtain ⟨a1, sd, c1, c2, c3⟩ := s
  obtain ⟨PK, R, e0, A⟩ := h
  dsimp only at PK R e0 ⊢
  have eP := pk_nP PK
  have hp' := PK.1.1.p'
  have A1 : ∀ v, Ag (fun h k => h = u ∧ k = 28) M1 (sI M1 u 28 v) := fun v => Ag.one ⟨rfl, rfl⟩
  have A2 : ∀ v w, Ag (fun h k => h = u ∧ k = 28) M1 (sI (sI M1 u 28 v) u 28 w) := fun v w => Ag.put (A1 v) ⟨rfl, rfl⟩
  have R2 : ∀ v, MR (sI M1 u 28 v) u a1 := fun v => R.ag (A1 v) (fun k z => by omega)
  have R3 : ∀ v w, MR (sI (sI M1 u 28 v) u 28 w) u a1 := fun v w => R.ag (A2 v w) (fun k z => by omega)
  have A3 : ∀ v w, Ag (XMp u) M (sI (sI M1 u 28 v) u 28 w) := fun v w => A.trans ((A2 v w).mono fun h k z => Or.inr z)
  have AA : ∀ v, Ag (XMp u) M (sI M1 u 28 v) := fun v => A.trans ((A1 v).mono fun h k z => Or.inr z)
  have D1 : ∀ Q, mw (d + 70) 136 [.ref u, .int (nN (nP a1))] M1 Q = Q (.inl (some (.int (nN (drN sd % nP a1))))) (sI M1 u 28 (drw sd)) := fun Q => by rw [w_draws R.1 (by omega) (by omega), e0]
  have D2 : ∀ v Q, mw (d + 70) 136 [.ref u, .int (nN 9)] (sI M1 u 28 v) Q = Q (.inl (some (.int (nN (drN v % 9))))) (sI (sI M1 u 28 v) u 28 (drw v)) := fun v Q => by
    rw [w_draws (R2 v).1 (by omega) (by omega), show gI (sI M1 u 28 v) u 28 = v from by rw [gI_sI, if_pos ⟨rfl, rfl⟩]]
  have g1 : drN sd % nP a1 = X → plX X (a1, sd, c1, c2, c3) = (a1, drw sd, c1, c2, c3) := fun h => by unfold plX; exact if_pos h
  have g2 : ¬ drN sd % nP a1 = X → plX X (a1, sd, c1, c2, c3) = ((sSet a1 X (drN sd % nP a1) (drN (drw sd) % 9 + 1)).1, drw (drw sd), plC a1 X (drN sd % nP a1) (drN (drw sd) % 9 + 1) (c1, c2, c3)) := fun h => by unfold plX; exact if_neg h
  have D2 := D2 (drw sd)
  generalize hs1 : drw sd = s1 at *
  generalize hs2 : drw s1 = s2 at *
  generalize hn1 : drN sd = n1 at *
  generalize hn2 : drN s1 = n2 at *
  refine runm_y (d := d) hK PK (by omega) R D1 D2 (R2 _) (R3 _ _) (A3 _ _) (show gI (sI (sI M1 u 28 s1) u 28 s2) u 28 = s2 from by rw [gI_sI, if_pos ⟨rfl, rfl⟩]) (fun h z9 z10 z11 => ?_) (fun h M' z9 z10 z11 e1 e2 e3 he hp => ?_)
  · rw [g1 h] at go
    exact go _ _ _ _ ⟨PK, R2 _, show gI (sI M1 u 28 s1) u 28 = s1 from by rw [gI_sI, if_pos ⟨rfl, rfl⟩], AA _⟩
  · rw [g2 h, ← he] at go
    rw [← he] at hp
    exact go _ _ _ _ hp
theorem w_runm (hR : MR M u a) (hw : Wt a K) (hn : n ≤ 60) (hK : K + 6000 < 2000000) (h28 : gI M u 28 = x) {l3 z8 z9 z10 z11 : Option Value}
    (go : ∀ M' z7 z8 z9 z10 z11, PmO M u a (K + 99 * n) (sPlay a x n) M' → bw (d + 70) 137 18 ([some (.ref u), some (.int x), some (.int (nN n)), l3, some (.int (sPlay a x n).2.2.1), some (.int (sPlay a x n).2.2.2.1), some (.int (sPlay a x n).2.2.2.2), z7, z8, z9, z10, z11], [], M') Q) :
    bw (d + 70) 137 7 ([some (.ref u), some (.int x), some (.int (nN n)), l3, some (.int (nN 0)), some (.int (nN 0)), some (.int (nN 0)), some (.int (nN 0)), z8, z9, z10, z11], [], M) Q := by
  refine loopR (n := n) (J := Option Value × Option Value × Option Value × Option Value) (C := fun k s z M => ([some (.ref u), some (.int x), some (.int (nN n)), l3, some (.int s.2.2.1), some (.int s.2.2.2.1), some (.int s.2.2.2.2), some (.int (nN k)), z.1, z.2.1, z.2.2.1, z.2.2.2], [], M)) (f := plD) (R := fun k s M1 => PmO M u a (K + 99 * k) s M1) ?_ n 0 (a, x, nN 0, nN 0, nN 0) (z8, z9, z10, z11) M (by omega) ?_ ?_
  · rintro k s ⟨z8, z9, z10, z11⟩ M1 hk h go
    have hk1 : ¬ n ≤ k := by omega
    have hP0 := pk_nP h.1
    rw [e_137_7]
    simp (disch := omega) only [q_aload0, q_aload0N, q_iload2, q_iconst, q_bipush, q_invs3_20, q_if_ne, q_goto, q_iload3, q_nop, q_put_i, pTag_1, q_get_i, pRf_s, q_if_le, q_iret, q_istore4, q_iload4, q_sipush, q_ic_ge, q_get_r, q_iald, q_iast, q_iinc4, q_iload1, q_istore5, q_istore6, q_istore7, q_iload7, q_istore8, q_iload8, q_invv1, inv_1, q_istore9, q_iload9, q_ic_ne, q_iadd, q_istore10, q_iload10, q_invv3, q_istore11, q_iload6, q_iload11, q_ic_eq, q_get_z, q_if_eq, q_iload5, q_iinc8, q_pop_i, q_pop_r, q_iinc7, q_invv2, q_iinc10, q_ic_le, e_137_0, e_137_1, e_137_2, e_137_3, e_137_4, e_137_6, e_137_9, e_137_10, e_137_11, e_137_12, e_137_13, e_137_14, e_137_15, e_137_16, e_137_17, e_137_20, e_137_21, e_137_22, e_137_24, e_137_25, e_137_26, e_137_27, e_137_29, e_137_30, e_137_31, e_137_32, e_137_33, e_137_34, e_137_35, L_0, L_1, L_2, L_3, L_4, L_5, L_9, L_60, L_940, k_some, k_none, pRm_i, pRm_r, pRm_0, pF_1, pF_2, inv_s, hk1, nN_le, nN_lt, nN_eq, nN_add, nN_mul, nN_lt0, nN_ge0, nN_gt0, nN_le0, nN_eq0, nN_eq1, nN_neN, pIn_n, pIx_n, eq_self, Nat.reduceLT, Bool.false_eq_true, Nat.add_zero, Nat.zero_add, Nat.reduceAdd, Nat.reduceMul, Nat.reduceSub, Nat.zero_le, Nat.reduceLeDiff, Nat.reduceEqDiff, Nat.le_refl, not_false_eq_true, not_true_eq_false, false_implies, true_implies, forall_const, true_and, and_true, if_true, if_false, implies_true, and_self, ne_eq, false_and, and_false, or_false, false_or, true_or, or_true]
    refine loopR (n := nP s.1) (J := Option Value × Option Value × Option Value) (C := fun X s z M => ([some (.ref u), some (.int x), some (.int (nN n)), l3, some (.int s.2.2.1), some (.int s.2.2.2.1), some (.int s.2.2.2.2), some (.int (nN k)), some (.int (nN X)), z.1, z.2.1, z.2.2], [], M)) (f := plX) (R := fun X s M1 => PmO M u a (K + 99 * k) s M1) ?_ (nP s.1) 0 s (z9, z10, z11) M1 (by omega) h ?_
    · rintro X s1 ⟨z9, z10, z11⟩ M2 hX h2 go2
      exact runm_x (d := d) (by omega) (by omega) h2 (fun M' z9 z10 z11 h3 => go2 M' (z9, z10, z11) h3)
    · rintro M2 ⟨z9, z10, z11⟩ h2
      have ed : plD k s = ((sDays (lp (nP s.1) 0 s plX).1 (nN 1)).1, (lp (nP s.1) 0 s plX).2) := rfl
      rw [ed] at go
      clear ed
      generalize lp (nP s.1) 0 s plX = s2 at *
      obtain ⟨a2, sd2, c2⟩ := s2
      obtain ⟨PK, R, e0, A⟩ := h2
      dsimp only at PK R e0 go
      have eP := pk_nP PK
      have hp2 : nP s.1 = nP a2 := by rw [eP, hP0]
      have hw2 := PK.1
      have hp' := hw2.1.p'
      rw [e_137_8, hp2]
      simp (disch := first | omega | rfl | (repeat' (first | exact gS_sI | exact gP_sI | refine Eq.trans gS_sI ?_ | refine Eq.trans gP_sI ?_ | refine Eq.trans (gIr_sI (by omega)) ?_ | rfl))) only [q_aload0, q_aload0N, q_iload2, q_iconst, q_bipush, q_invs3_20, q_if_ne, q_goto, q_iload3, q_nop, q_put_i, pTag_1, q_get_i, pRf_s, q_if_le, q_iret, q_istore4, q_iload4, q_sipush, q_ic_ge, q_get_r, q_iald, q_iast, q_iinc4, q_iload1, q_istore5, q_istore6, q_istore7, q_iload7, q_istore8, q_iload8, q_invv1, inv_1, q_istore9, q_iload9, q_ic_ne, q_iadd, q_istore10, q_iload10, q_invv3, q_istore11, q_iload6, q_iload11, q_ic_eq, q_get_z, q_if_eq, q_iload5, q_iinc8, q_pop_i, q_pop_r, q_iinc7, q_invv2, q_iinc10, q_ic_le, e_137_0, e_137_1, e_137_2, e_137_3, e_137_4, e_137_6, e_137_9, e_137_10, e_137_11, e_137_12, e_137_13, e_137_14, e_137_15, e_137_16, e_137_17, e_137_20, e_137_21, e_137_22, e_137_24, e_137_25, e_137_26, e_137_27, e_137_29, e_137_30, e_137_31, e_137_32, e_137_33, e_137_34, e_137_35, L_0, L_1, L_2, L_3, L_4, L_5, L_9, L_60, L_940, k_some, k_none, pRm_i, pRm_r, pRm_0, pF_1, pF_2, inv_s, R.1.k0, R.1.k1, R.1.k2, R.1.k3, R.1.k4, R.1.k5, R.1.k6, R.1.k7, R.1.k8, R.1.k9, R.1.k10, R.1.k11, R.1.k12, R.1.k13, R.1.p1, R.1.p2, R.1.p4, R.1.p5, R.1.p13, R.1.p18, R.1.p19, R.1.p20, R.1.p21, R.1.p22, R.1.p23, R.1.p24, R.1.p27, R.2, hw2.1.p, nN_le, nN_lt, nN_eq, nN_add, nN_mul, nN_lt0, nN_ge0, nN_gt0, nN_le0, nN_eq0, nN_eq1, nN_neN, pIn_n, pIx_n, eq_self, Nat.reduceLT, Bool.false_eq_true, Nat.add_zero, Nat.zero_add, Nat.reduceAdd, Nat.reduceMul, Nat.reduceSub, Nat.zero_le, Nat.reduceLeDiff, Nat.reduceEqDiff, Nat.le_refl, not_false_eq_true, not_true_eq_false, false_implies, true_implies, forall_const, true_and, and_true, if_true, if_false, implies_true, and_self, ne_eq, false_and, and_false, or_false, false_or, true_or, or_true]
      refine mw_mono (w_goOnM (d := d + 67) (n := nN 1) R hw2.1) ?_
      rintro _ M3 ⟨rfl, R3, A3⟩
      simp (disch := omega) only [q_aload0, q_aload0N, q_iload2, q_iconst, q_bipush, q_invs3_20, q_if_ne, q_goto, q_iload3, q_nop, q_put_i, pTag_1, q_get_i, pRf_s, q_if_le, q_iret, q_istore4, q_iload4, q_sipush, q_ic_ge, q_get_r, q_iald, q_iast, q_iinc4, q_iload1, q_istore5, q_istore6, q_istore7, q_iload7, q_istore8, q_iload8, q_invv1, inv_1, q_istore9, q_iload9, q_ic_ne, q_iadd, q_istore10, q_iload10, q_invv3, q_istore11, q_iload6, q_iload11, q_ic_eq, q_get_z, q_if_eq, q_iload5, q_iinc8, q_pop_i, q_pop_r, q_iinc7, q_invv2, q_iinc10, q_ic_le, e_137_0, e_137_1, e_137_2, e_137_3, e_137_4, e_137_6, e_137_9, e_137_10, e_137_11, e_137_12, e_137_13, e_137_14, e_137_15, e_137_16, e_137_17, e_137_20, e_137_21, e_137_22, e_137_24, e_137_25, e_137_26, e_137_27, e_137_29, e_137_30, e_137_31, e_137_32, e_137_33, e_137_34, e_137_35, L_0, L_1, L_2, L_3, L_4, L_5, L_9, L_60, L_940, k_some, k_none, pRm_i, pRm_r, pRm_0, pF_1, pF_2, inv_s, nN_le, nN_lt, nN_eq, nN_add, nN_mul, nN_lt0, nN_ge0, nN_gt0, nN_le0, nN_eq0, nN_eq1, nN_neN, pIn_n, pIx_n, eq_self, Nat.reduceLT, Bool.false_eq_true, Nat.add_zero, Nat.zero_add, Nat.reduceAdd, Nat.reduceMul, Nat.reduceSub, Nat.zero_le, Nat.reduceLeDiff, Nat.reduceEqDiff, Nat.le_refl, not_false_eq_true, not_true_eq_false, false_implies, true_implies, forall_const, true_and, and_true, if_true, if_false, implies_true, and_self, ne_eq, false_and, and_false, or_false, false_or, true_or, or_true]
      obtain ⟨w1, w2⟩ := wt_days (v := 1) hw2 (by omega) (by omega)
      have N3 : gI M3 u 28 = gI M2 u 28 := A3.I (by rintro ((z | ⟨-, z⟩) | z) <;> omega)
      refine go M3 (_, z9, z10, z11) ⟨PK.trans ⟨?_, w2, ?_⟩, R3, by rw [N3]; exact e0, A.trans (A3.mono fun h k z => Or.inl (Or.inl z))⟩
      · rw [show K + 99 * (k + 1) = K + 99 * k + 99 from by omega]; exact w1
      · exact ((sDays_ok (n := nN 1) hw2.1).2.1 1 (by omega)).trans (if_neg (by omega))
  · exact ⟨⟨hw, Gk.rfl, rfl⟩, hR, h28, Ag.rfl⟩
  · rintro M1 ⟨z8, z9, z10, z11⟩ h
    rw [e_137_7]
    simp (disch := omega) only [q_aload0, q_aload0N, q_iload2, q_iconst, q_bipush, q_invs3_20, q_if_ne, q_goto, q_iload3, q_nop, q_put_i, pTag_1, q_get_i, pRf_s, q_if_le, q_iret, q_istore4, q_iload4, q_sipush, q_ic_ge, q_get_r, q_iald, q_iast, q_iinc4, q_iload1, q_istore5, q_istore6, q_istore7, q_iload7, q_istore8, q_iload8, q_invv1, inv_1, q_istore9, q_iload9, q_ic_ne, q_iadd, q_istore10, q_iload10, q_invv3, q_istore11, q_iload6, q_iload11, q_ic_eq, q_get_z, q_if_eq, q_iload5, q_iinc8, q_pop_i, q_pop_r, q_iinc7, q_invv2, q_iinc10, q_ic_le, e_137_0, e_137_1, e_137_2, e_137_3, e_137_4, e_137_6, e_137_9, e_137_10, e_137_11, e_137_12, e_137_13, e_137_14, e_137_15, e_137_16, e_137_17, e_137_20, e_137_21, e_137_22, e_137_24, e_137_25, e_137_26, e_137_27, e_137_29, e_137_30, e_137_31, e_137_32, e_137_33, e_137_34, e_137_35, L_0, L_1, L_2, L_3, L_4, L_5, L_9, L_60, L_940, k_some, k_none, pRm_i, pRm_r, pRm_0, pF_1, pF_2, inv_s, nN_le, nN_lt, nN_eq, nN_add, nN_mul, nN_lt0, nN_ge0, nN_gt0, nN_le0, nN_eq0, nN_eq1, nN_neN, pIn_n, pIx_n, eq_self, Nat.reduceLT, Bool.false_eq_true, Nat.add_zero, Nat.zero_add, Nat.reduceAdd, Nat.reduceMul, Nat.reduceSub, Nat.zero_le, Nat.reduceLeDiff, Nat.reduceEqDiff, Nat.le_refl, not_false_eq_true, not_true_eq_false, false_implies, true_implies, forall_const, true_and, and_true, if_true, if_false, implies_true, and_self, ne_eq, false_and, and_false, or_false, false_or, true_or, or_true]
    exact go _ _ _ _ _ _ h
end KP2
