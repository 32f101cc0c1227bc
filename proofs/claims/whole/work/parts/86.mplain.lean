/-! A TEMPER'S PLAIN CONDITION, all of it -/
section PL
variable {d n u p q k m c sr i dp : Nat} {b : Nat → Nat} {fv : Nat → Int32} {M M1 M' : pMem} {Q : pOut → pMem → Prop} {x y : Int32}
theorem Bl01 (hb : Bl fv) (h1 : 6 ≤ i) (h2 : i < 9) : fv i = 0 ∨ fv i = 1 := by
  rcases hb i h1 h2 with z | z
  · left; rw [z]; decide +kernel
  · right; rw [z]; decide +kernel
theorem w_plainM (h : MdT M u n b dp fv q p) (hb : Bl fv) : mw (d + 9) 73 [.ref u] M (fun o M' => MdQ M' u n b dp fv (pPlain (th tW n b) (nx9 n b) 400 p) o ∧ Ag (MdY u) M M') := by
  have e0 : ∀ i, (i = 6 ∨ i = 7 ∨ i = 8) → th tW n b p = 1000 + i → pPlain (th tW n b) (nx9 n b) 400 p = .inr (nx9 n b p, [th tW n b p], fun fv => fv (th tW n b p - 1000)) := by
    intro i hi ht
    unfold pPlain
    rw [if_pos (by omega)]
  have T1 := h
  have B1 : Ag (MdY u) M M := Ag.rfl
  simp (disch := omega) only [m_73]
  rw [e_73_0]
  simp (disch := omega) only [q_aload0, q_aload0N, q_ldc_s, q_invv1, inv_1, q_if_eq, q_get_z, pTag_1, pRf_s, q_zret, q_invv0, q_istore1, q_get_i, q_iconst, q_ic_eq, q_bipush, q_istore2, q_iload2, q_if_ne, q_dup_i, q_dup_r, q_iadd, q_put_i, q_istore3, q_iload1, q_iload3, q_ic_ge, q_goto, q_ic_le, q_nop, L_0, L_1, L_60, L_62, k_some, k_none, pRm_i, pRm_r, pRm_0, pF_1, pF_2, inv_s, T1.sd.sh.k0, nN_le, nN_lt, nN_eq, nN_add, nN_mul, nN_lt0, nN_ge0, nN_gt0, nN_le0, nN_eq0, nN_eq1, nN_neN, pIn_n, pIx_n, eq_self, Nat.reduceLT, Bool.false_eq_true, Nat.add_zero, Nat.zero_add, Nat.reduceAdd, Nat.reduceMul, Nat.reduceSub, Nat.zero_le, Nat.reduceLeDiff, Nat.reduceEqDiff, Nat.le_refl, not_false_eq_true, not_true_eq_false, false_implies, true_implies, forall_const, true_and, and_true, if_true, if_false, implies_true, and_self, ne_eq, false_and, and_false, or_false, false_or, true_or, or_true]
  refine mw_mono (w_hasT (i := 6) T1.sd (by omega) rfl) ?_
  rintro o2 M2 ⟨h2, A2⟩
  have B2 : Ag (MdY u) M M2 := B1.trans (A2.mono MdY_9)
  by_cases c2 : th tW n b p = 1000 + 6
  · rw [if_pos c2] at h2
    obtain ⟨rfl, h2⟩ := h2
    have T := T1.st A2 X9_10 h2
    simp (disch := omega) only [q_aload0, q_aload0N, q_ldc_s, q_invv1, inv_1, q_if_eq, q_get_z, pTag_1, pRf_s, q_zret, q_invv0, q_istore1, q_get_i, q_iconst, q_ic_eq, q_bipush, q_istore2, q_iload2, q_if_ne, q_dup_i, q_dup_r, q_iadd, q_put_i, q_istore3, q_iload1, q_iload3, q_ic_ge, q_goto, q_ic_le, q_nop, L_0, L_1, L_60, L_62, k_some, k_none, pRm_i, pRm_r, pRm_0, pF_1, pF_2, inv_s, h2.sh.k0, zb_0, zb_1, nN_le, nN_lt, nN_eq, nN_add, nN_mul, nN_lt0, nN_ge0, nN_gt0, nN_le0, nN_eq0, nN_eq1, nN_neN, pIn_n, pIx_n, eq_self, Nat.reduceLT, Bool.false_eq_true, Nat.add_zero, Nat.zero_add, Nat.reduceAdd, Nat.reduceMul, Nat.reduceSub, Nat.zero_le, Nat.reduceLeDiff, Nat.reduceEqDiff, Nat.le_refl, not_false_eq_true, not_true_eq_false, false_implies, true_implies, forall_const, true_and, and_true, if_true, if_false, implies_true, and_self, ne_eq, false_and, and_false, or_false, false_or, true_or, or_true]
    rw [e0 6 (by omega) c2]
    refine ⟨by rw [T.fs.2.1]; exact Bl01 hb (by omega) (by omega), ?_⟩
    refine ⟨⟨?_, ⟨_, rfl, by rw [T.fs.2.1]; exact hb _ (by omega) (by omega)⟩⟩, by assumption⟩
    exact ⟨by rw [T.fs.2.1]; show _ = Sum.inl (some (Value.int (fv (th tW n b p - 1000)))); rw [c2], te n b p, T⟩
  rw [if_neg c2] at h2
  obtain ⟨rfl, h2⟩ := h2
  simp (disch := omega) only [q_aload0, q_aload0N, q_ldc_s, q_invv1, inv_1, q_if_eq, q_get_z, pTag_1, pRf_s, q_zret, q_invv0, q_istore1, q_get_i, q_iconst, q_ic_eq, q_bipush, q_istore2, q_iload2, q_if_ne, q_dup_i, q_dup_r, q_iadd, q_put_i, q_istore3, q_iload1, q_iload3, q_ic_ge, q_goto, q_ic_le, q_nop, L_0, L_1, L_60, L_62, k_some, k_none, pRm_i, pRm_r, pRm_0, pF_1, pF_2, inv_s, zb_0, zb_1, nN_le, nN_lt, nN_eq, nN_add, nN_mul, nN_lt0, nN_ge0, nN_gt0, nN_le0, nN_eq0, nN_eq1, nN_neN, pIn_n, pIx_n, eq_self, Nat.reduceLT, Bool.false_eq_true, Nat.add_zero, Nat.zero_add, Nat.reduceAdd, Nat.reduceMul, Nat.reduceSub, Nat.zero_le, Nat.reduceLeDiff, Nat.reduceEqDiff, Nat.le_refl, not_false_eq_true, not_true_eq_false, false_implies, true_implies, forall_const, true_and, and_true, if_true, if_false, implies_true, and_self, ne_eq, false_and, and_false, or_false, false_or, true_or, or_true]
  have T2 := T1.st A2 X9_10 h2
  rw [e_73_1]
  simp (disch := omega) only [q_aload0, q_aload0N, q_ldc_s, q_invv1, inv_1, q_if_eq, q_get_z, pTag_1, pRf_s, q_zret, q_invv0, q_istore1, q_get_i, q_iconst, q_ic_eq, q_bipush, q_istore2, q_iload2, q_if_ne, q_dup_i, q_dup_r, q_iadd, q_put_i, q_istore3, q_iload1, q_iload3, q_ic_ge, q_goto, q_ic_le, q_nop, L_0, L_1, L_60, L_62, k_some, k_none, pRm_i, pRm_r, pRm_0, pF_1, pF_2, inv_s, T2.sd.sh.k0, nN_le, nN_lt, nN_eq, nN_add, nN_mul, nN_lt0, nN_ge0, nN_gt0, nN_le0, nN_eq0, nN_eq1, nN_neN, pIn_n, pIx_n, eq_self, Nat.reduceLT, Bool.false_eq_true, Nat.add_zero, Nat.zero_add, Nat.reduceAdd, Nat.reduceMul, Nat.reduceSub, Nat.zero_le, Nat.reduceLeDiff, Nat.reduceEqDiff, Nat.le_refl, not_false_eq_true, not_true_eq_false, false_implies, true_implies, forall_const, true_and, and_true, if_true, if_false, implies_true, and_self, ne_eq, false_and, and_false, or_false, false_or, true_or, or_true]
  refine mw_mono (w_hasT (i := 7) T2.sd (by omega) rfl) ?_
  rintro o3 M3 ⟨h3, A3⟩
  have B3 : Ag (MdY u) M M3 := B2.trans (A3.mono MdY_9)
  by_cases c3 : th tW n b p = 1000 + 7
  · rw [if_pos c3] at h3
    obtain ⟨rfl, h3⟩ := h3
    have T := T2.st A3 X9_10 h3
    simp (disch := omega) only [q_aload0, q_aload0N, q_ldc_s, q_invv1, inv_1, q_if_eq, q_get_z, pTag_1, pRf_s, q_zret, q_invv0, q_istore1, q_get_i, q_iconst, q_ic_eq, q_bipush, q_istore2, q_iload2, q_if_ne, q_dup_i, q_dup_r, q_iadd, q_put_i, q_istore3, q_iload1, q_iload3, q_ic_ge, q_goto, q_ic_le, q_nop, L_0, L_1, L_60, L_62, k_some, k_none, pRm_i, pRm_r, pRm_0, pF_1, pF_2, inv_s, h3.sh.k0, zb_0, zb_1, nN_le, nN_lt, nN_eq, nN_add, nN_mul, nN_lt0, nN_ge0, nN_gt0, nN_le0, nN_eq0, nN_eq1, nN_neN, pIn_n, pIx_n, eq_self, Nat.reduceLT, Bool.false_eq_true, Nat.add_zero, Nat.zero_add, Nat.reduceAdd, Nat.reduceMul, Nat.reduceSub, Nat.zero_le, Nat.reduceLeDiff, Nat.reduceEqDiff, Nat.le_refl, not_false_eq_true, not_true_eq_false, false_implies, true_implies, forall_const, true_and, and_true, if_true, if_false, implies_true, and_self, ne_eq, false_and, and_false, or_false, false_or, true_or, or_true]
    rw [e0 7 (by omega) c3]
    refine ⟨by rw [T.fs.2.2.1]; exact Bl01 hb (by omega) (by omega), ?_⟩
    refine ⟨⟨?_, ⟨_, rfl, by rw [T.fs.2.2.1]; exact hb _ (by omega) (by omega)⟩⟩, by assumption⟩
    exact ⟨by rw [T.fs.2.2.1]; show _ = Sum.inl (some (Value.int (fv (th tW n b p - 1000)))); rw [c3], te n b p, T⟩
  rw [if_neg c3] at h3
  obtain ⟨rfl, h3⟩ := h3
  simp (disch := omega) only [q_aload0, q_aload0N, q_ldc_s, q_invv1, inv_1, q_if_eq, q_get_z, pTag_1, pRf_s, q_zret, q_invv0, q_istore1, q_get_i, q_iconst, q_ic_eq, q_bipush, q_istore2, q_iload2, q_if_ne, q_dup_i, q_dup_r, q_iadd, q_put_i, q_istore3, q_iload1, q_iload3, q_ic_ge, q_goto, q_ic_le, q_nop, L_0, L_1, L_60, L_62, k_some, k_none, pRm_i, pRm_r, pRm_0, pF_1, pF_2, inv_s, zb_0, zb_1, nN_le, nN_lt, nN_eq, nN_add, nN_mul, nN_lt0, nN_ge0, nN_gt0, nN_le0, nN_eq0, nN_eq1, nN_neN, pIn_n, pIx_n, eq_self, Nat.reduceLT, Bool.false_eq_true, Nat.add_zero, Nat.zero_add, Nat.reduceAdd, Nat.reduceMul, Nat.reduceSub, Nat.zero_le, Nat.reduceLeDiff, Nat.reduceEqDiff, Nat.le_refl, not_false_eq_true, not_true_eq_false, false_implies, true_implies, forall_const, true_and, and_true, if_true, if_false, implies_true, and_self, ne_eq, false_and, and_false, or_false, false_or, true_or, or_true]
  have T3 := T2.st A3 X9_10 h3
  rw [e_73_2]
  simp (disch := omega) only [q_aload0, q_aload0N, q_ldc_s, q_invv1, inv_1, q_if_eq, q_get_z, pTag_1, pRf_s, q_zret, q_invv0, q_istore1, q_get_i, q_iconst, q_ic_eq, q_bipush, q_istore2, q_iload2, q_if_ne, q_dup_i, q_dup_r, q_iadd, q_put_i, q_istore3, q_iload1, q_iload3, q_ic_ge, q_goto, q_ic_le, q_nop, L_0, L_1, L_60, L_62, k_some, k_none, pRm_i, pRm_r, pRm_0, pF_1, pF_2, inv_s, T3.sd.sh.k0, nN_le, nN_lt, nN_eq, nN_add, nN_mul, nN_lt0, nN_ge0, nN_gt0, nN_le0, nN_eq0, nN_eq1, nN_neN, pIn_n, pIx_n, eq_self, Nat.reduceLT, Bool.false_eq_true, Nat.add_zero, Nat.zero_add, Nat.reduceAdd, Nat.reduceMul, Nat.reduceSub, Nat.zero_le, Nat.reduceLeDiff, Nat.reduceEqDiff, Nat.le_refl, not_false_eq_true, not_true_eq_false, false_implies, true_implies, forall_const, true_and, and_true, if_true, if_false, implies_true, and_self, ne_eq, false_and, and_false, or_false, false_or, true_or, or_true]
  refine mw_mono (w_hasT (i := 8) T3.sd (by omega) rfl) ?_
  rintro o4 M4 ⟨h4, A4⟩
  have B4 : Ag (MdY u) M M4 := B3.trans (A4.mono MdY_9)
  by_cases c4 : th tW n b p = 1000 + 8
  · rw [if_pos c4] at h4
    obtain ⟨rfl, h4⟩ := h4
    have T := T3.st A4 X9_10 h4
    simp (disch := omega) only [q_aload0, q_aload0N, q_ldc_s, q_invv1, inv_1, q_if_eq, q_get_z, pTag_1, pRf_s, q_zret, q_invv0, q_istore1, q_get_i, q_iconst, q_ic_eq, q_bipush, q_istore2, q_iload2, q_if_ne, q_dup_i, q_dup_r, q_iadd, q_put_i, q_istore3, q_iload1, q_iload3, q_ic_ge, q_goto, q_ic_le, q_nop, L_0, L_1, L_60, L_62, k_some, k_none, pRm_i, pRm_r, pRm_0, pF_1, pF_2, inv_s, h4.sh.k0, zb_0, zb_1, nN_le, nN_lt, nN_eq, nN_add, nN_mul, nN_lt0, nN_ge0, nN_gt0, nN_le0, nN_eq0, nN_eq1, nN_neN, pIn_n, pIx_n, eq_self, Nat.reduceLT, Bool.false_eq_true, Nat.add_zero, Nat.zero_add, Nat.reduceAdd, Nat.reduceMul, Nat.reduceSub, Nat.zero_le, Nat.reduceLeDiff, Nat.reduceEqDiff, Nat.le_refl, not_false_eq_true, not_true_eq_false, false_implies, true_implies, forall_const, true_and, and_true, if_true, if_false, implies_true, and_self, ne_eq, false_and, and_false, or_false, false_or, true_or, or_true]
    rw [e0 8 (by omega) c4]
    refine ⟨by rw [T.fs.2.2.2]; exact Bl01 hb (by omega) (by omega), ?_⟩
    refine ⟨⟨?_, ⟨_, rfl, by rw [T.fs.2.2.2]; exact hb _ (by omega) (by omega)⟩⟩, by assumption⟩
    exact ⟨by rw [T.fs.2.2.2]; show _ = Sum.inl (some (Value.int (fv (th tW n b p - 1000)))); rw [c4], te n b p, T⟩
  rw [if_neg c4] at h4
  obtain ⟨rfl, h4⟩ := h4
  simp (disch := omega) only [q_aload0, q_aload0N, q_ldc_s, q_invv1, inv_1, q_if_eq, q_get_z, pTag_1, pRf_s, q_zret, q_invv0, q_istore1, q_get_i, q_iconst, q_ic_eq, q_bipush, q_istore2, q_iload2, q_if_ne, q_dup_i, q_dup_r, q_iadd, q_put_i, q_istore3, q_iload1, q_iload3, q_ic_ge, q_goto, q_ic_le, q_nop, L_0, L_1, L_60, L_62, k_some, k_none, pRm_i, pRm_r, pRm_0, pF_1, pF_2, inv_s, zb_0, zb_1, nN_le, nN_lt, nN_eq, nN_add, nN_mul, nN_lt0, nN_ge0, nN_gt0, nN_le0, nN_eq0, nN_eq1, nN_neN, pIn_n, pIx_n, eq_self, Nat.reduceLT, Bool.false_eq_true, Nat.add_zero, Nat.zero_add, Nat.reduceAdd, Nat.reduceMul, Nat.reduceSub, Nat.zero_le, Nat.reduceLeDiff, Nat.reduceEqDiff, Nat.le_refl, not_false_eq_true, not_true_eq_false, false_implies, true_implies, forall_const, true_and, and_true, if_true, if_false, implies_true, and_self, ne_eq, false_and, and_false, or_false, false_or, true_or, or_true]
  have T4 := T3.st A4 X9_10 h4
  have e : pPlain (th tW n b) (nx9 n b) 400 p = pComp (th tW n b) (nx9 n b) 400 p := by
    unfold pPlain
    rw [if_neg (by omega)]
  rw [e]
  refine bw_mono (w_compM T4) ?_
  rintro o M5 ⟨h5, A5⟩
  exact ⟨h5, B4.trans A5⟩
end PL
