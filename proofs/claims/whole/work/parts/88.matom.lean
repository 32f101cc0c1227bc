/-! ATOMS, in the law's model -/
section AM
variable {d n u p q k m c sr i dp K : Nat} {b : Nat → Nat} {fv : Nat → Int32} {M M1 M' : pMem} {Q : pOut → pMem → Prop} {x y : Int32} {atm : Nat → pZ}
/-- it stands as it stood, where nothing of it changed -/
theorem MdS.keep {X : Nat → Nat → Prop} (h : MdS M u n b q p) (A : Ag X M M') (n1 : ∀ k, 7 ≤ k → k ≤ 10 → ¬ X u k) (n2 : ∀ k, ¬ X (u + 4) k) (n3 : ∀ k, ¬ X (u + 1) k) : MdS M' u n b q p :=
  MdS.mk (by rw [A.S, A.P]; exact h.sh) (h.lt.ag A (n1 7 (by omega) (by omega)) n2 n3) h.n9 h.b9 (by rw [A.I (n1 8 (by omega) (by omega))]; exact h.en) (by rw [A.I (n1 10 (by omega) (by omega))]; exact h.ft) (by rw [A.I (n1 9 (by omega) (by omega))]; exact h.aq) h.cl h.nq
theorem MdT.deep {dp' : Nat} (h : MdT M u n b dp fv q p) : MdT (sI M u 11 (nN dp')) u n b dp' fv q p := by
  have A : Ag (fun h k => h = u ∧ k = 11) M (sI M u 11 (nN dp')) := Ag.one ⟨rfl, rfl⟩
  exact MdT.mk (h.sd.keep A (fun k _ _ => by omega) (fun k => by omega) (fun k => by omega)) (by rw [gI_sI, if_pos ⟨rfl, rfl⟩]) (h.fs.ag A (fun k => by omega) (fun k hk => by omega))
theorem MdY_11 : ∀ h k, (h = u ∧ k = 11) → MdY u h k := fun h k z => ⟨z.1, Or.inr (Or.inr z.2)⟩
theorem MdY_10 : ∀ h k, (h = u ∧ k = 10) → MdY u h k := fun h k z => ⟨z.1, Or.inr (Or.inl z.2)⟩
theorem w_atomM (hb : Bl fv) : ∀ (r d q p : Nat) (M : pMem), r ≤ 6 → MdT M u n b (6 - r) fv q p → mw (d + 3 * r + 10) 74 [.ref u] M (fun o M' => MdQ M' u n b (6 - r) fv (pAtom (th tW n b) (nx9 n b) 400 r p) o ∧ Ag (MdY u) M M') := by
  intro r
  induction r with
  | zero =>
    intro d q p M hr6 h
    have hW : tW.length < 100 := by decide
    have f0 := h.sd.ft
    rw [show pAtom (th tW n b) (nx9 n b) 400 0 p = if th tW n b p = 1012 ∨ th tW n b p = 2040 then .inl p else pPlain (th tW n b) (nx9 n b) 400 p from rfl]
    simp (disch := omega) only [m_74, q_aload0, q_aload0N, q_get_i, pTag_1, pRf_s, q_iconst, q_ic_eq, q_zret, q_invv0, inv_1, q_istore1, q_ldc_s, q_invv1, q_istore2, q_iload2, q_if_ne, q_bipush, q_ic_ne, q_iload1, q_dup_i, q_dup_r, q_iadd, q_put_i, q_istore3, q_if_eq, q_goto, q_nop, q_isub, q_iload3, e_74_0, L_0, L_1, L_6, L_40, L_41, k_some, k_none, pRm_i, pRm_r, pRm_0, pF_1, pF_2, inv_s, h.sd.sh.k0, f0, nN_le, nN_lt, nN_eq, nN_add, nN_mul, nN_lt0, nN_ge0, nN_gt0, nN_le0, nN_eq0, nN_eq1, nN_neN, pIn_n, pIx_n, eq_self, Nat.reduceLT, Bool.false_eq_true, Nat.add_zero, Nat.zero_add, Nat.reduceAdd, Nat.reduceMul, Nat.reduceSub, Nat.zero_le, Nat.reduceLeDiff, Nat.reduceEqDiff, Nat.le_refl, not_false_eq_true, not_true_eq_false, false_implies, true_implies, forall_const, true_and, and_true, if_true, if_false, implies_true, and_self, ne_eq, false_and, and_false, or_false, false_or, true_or, or_true]
    rw [e_74_1]
    simp (disch := omega) only [q_aload0, q_aload0N, q_get_i, pTag_1, pRf_s, q_iconst, q_ic_eq, q_zret, q_invv0, inv_1, q_istore1, q_ldc_s, q_invv1, q_istore2, q_iload2, q_if_ne, q_bipush, q_ic_ne, q_iload1, q_dup_i, q_dup_r, q_iadd, q_put_i, q_istore3, q_if_eq, q_goto, q_nop, q_isub, q_iload3, e_74_0, L_0, L_1, L_6, L_40, L_41, k_some, k_none, pRm_i, pRm_r, pRm_0, pF_1, pF_2, inv_s, h.sd.sh.k0, nN_le, nN_lt, nN_eq, nN_add, nN_mul, nN_lt0, nN_ge0, nN_gt0, nN_le0, nN_eq0, nN_eq1, nN_neN, pIn_n, pIx_n, eq_self, Nat.reduceLT, Bool.false_eq_true, Nat.add_zero, Nat.zero_add, Nat.reduceAdd, Nat.reduceMul, Nat.reduceSub, Nat.zero_le, Nat.reduceLeDiff, Nat.reduceEqDiff, Nat.le_refl, not_false_eq_true, not_true_eq_false, false_implies, true_implies, forall_const, true_and, and_true, if_true, if_false, implies_true, and_self, ne_eq, false_and, and_false, or_false, false_or, true_or, or_true]
    refine mw_mono (w_skip h.sd) ?_
    rintro _ M1 ⟨rfl, h1, A1⟩
    have T1 := h.st A1 X9_10 h1
    have hn := h1.n9
    have hpn := h1.ple.2
    simp (disch := omega) only [q_aload0, q_aload0N, q_get_i, pTag_1, pRf_s, q_iconst, q_ic_eq, q_zret, q_invv0, inv_1, q_istore1, q_ldc_s, q_invv1, q_istore2, q_iload2, q_if_ne, q_bipush, q_ic_ne, q_iload1, q_dup_i, q_dup_r, q_iadd, q_put_i, q_istore3, q_if_eq, q_goto, q_nop, q_isub, q_iload3, e_74_0, L_0, L_1, L_6, L_40, L_41, k_some, k_none, pRm_i, pRm_r, pRm_0, pF_1, pF_2, inv_s, h1.sh.k0, h1.aq, nN_le, nN_lt, nN_eq, nN_add, nN_mul, nN_lt0, nN_ge0, nN_gt0, nN_le0, nN_eq0, nN_eq1, nN_neN, pIn_n, pIx_n, eq_self, Nat.reduceLT, Bool.false_eq_true, Nat.add_zero, Nat.zero_add, Nat.reduceAdd, Nat.reduceMul, Nat.reduceSub, Nat.zero_le, Nat.reduceLeDiff, Nat.reduceEqDiff, Nat.le_refl, not_false_eq_true, not_true_eq_false, false_implies, true_implies, forall_const, true_and, and_true, if_true, if_false, implies_true, and_self, ne_eq, false_and, and_false, or_false, false_or, true_or, or_true]
    refine mw_mono (w_hasT (i := 12) h1 (by omega) rfl) ?_
    rintro o2 M2 ⟨h2, A2⟩
    have A02 : Ag (MdY u) M M2 := (A1.mono MdY_9).trans (A2.mono MdY_9)
    have bad : ∀ (M3 : pMem) (x2 : Int32) (q3 : Nat), ShM (gS M3) (gP M3) u → gI M3 u 10 = iN (-1) → gI M3 u 11 = nN 6 → gI M3 u 9 = nN q3 → q3 ≤ n → Ag (MdY u) M M3 → bw (d + 3 * 0 + 9) 74 2 ([some (.ref u), some (.int (nN p)), some (.int x2), none], [], M3) (fun o M' => MdQ M' u n b (6 - 0) fv (.inl p) o ∧ Ag (MdY u) M M') := by
      intro M3 x2 q3 s3 f3 d3 a3 b3 A3
      rw [e_74_2]
      simp (disch := omega) only [q_aload0, q_aload0N, q_get_i, pTag_1, pRf_s, q_iconst, q_ic_eq, q_zret, q_invv0, inv_1, q_istore1, q_ldc_s, q_invv1, q_istore2, q_iload2, q_if_ne, q_bipush, q_ic_ne, q_iload1, q_dup_i, q_dup_r, q_iadd, q_put_i, q_istore3, q_if_eq, q_goto, q_nop, q_isub, q_iload3, e_74_0, L_0, L_1, L_6, L_40, L_41, k_some, k_none, pRm_i, pRm_r, pRm_0, pF_1, pF_2, inv_s, s3.k0, d3, nN_le, nN_lt, nN_eq, nN_add, nN_mul, nN_lt0, nN_ge0, nN_gt0, nN_le0, nN_eq0, nN_eq1, nN_neN, pIn_n, pIx_n, eq_self, Nat.reduceLT, Bool.false_eq_true, Nat.add_zero, Nat.zero_add, Nat.reduceAdd, Nat.reduceMul, Nat.reduceSub, Nat.zero_le, Nat.reduceLeDiff, Nat.reduceEqDiff, Nat.le_refl, not_false_eq_true, not_true_eq_false, false_implies, true_implies, forall_const, true_and, and_true, if_true, if_false, implies_true, and_self, ne_eq, false_and, and_false, or_false, false_or, true_or, or_true]
      refine mw_mono (w_wrongM s3 f3) ?_
      rintro _ M4 ⟨rfl, h4, A4⟩
      simp (disch := omega) only [q_aload0, q_aload0N, q_get_i, pTag_1, pRf_s, q_iconst, q_ic_eq, q_zret, q_invv0, inv_1, q_istore1, q_ldc_s, q_invv1, q_istore2, q_iload2, q_if_ne, q_bipush, q_ic_ne, q_iload1, q_dup_i, q_dup_r, q_iadd, q_put_i, q_istore3, q_if_eq, q_goto, q_nop, q_isub, q_iload3, e_74_0, L_0, L_1, L_6, L_40, L_41, k_some, k_none, pRm_i, pRm_r, pRm_0, pF_1, pF_2, inv_s, zb_0, nN_le, nN_lt, nN_eq, nN_add, nN_mul, nN_lt0, nN_ge0, nN_gt0, nN_le0, nN_eq0, nN_eq1, nN_neN, pIn_n, pIx_n, eq_self, Nat.reduceLT, Bool.false_eq_true, Nat.add_zero, Nat.zero_add, Nat.reduceAdd, Nat.reduceMul, Nat.reduceSub, Nat.zero_le, Nat.reduceLeDiff, Nat.reduceEqDiff, Nat.le_refl, not_false_eq_true, not_true_eq_false, false_implies, true_implies, forall_const, true_and, and_true, if_true, if_false, implies_true, and_self, ne_eq, false_and, and_false, or_false, false_or, true_or, or_true]
      exact ⟨⟨⟨⟨_, rfl⟩, h4, by omega, q3, by omega, by rw [A4.I (by omega)]; exact a3⟩, zq0⟩, A3.trans (A4.mono MdY_10)⟩
    by_cases c : th tW n b p = 1012
    · rw [if_pos (show th tW n b p = 1000 + 12 from c)] at h2
      obtain ⟨rfl, h2⟩ := h2
      have T2 := T1.st A2 X9_10 h2
      rw [if_pos (Or.inl c)]
      simp (disch := omega) only [q_aload0, q_aload0N, q_get_i, pTag_1, pRf_s, q_iconst, q_ic_eq, q_zret, q_invv0, inv_1, q_istore1, q_ldc_s, q_invv1, q_istore2, q_iload2, q_if_ne, q_bipush, q_ic_ne, q_iload1, q_dup_i, q_dup_r, q_iadd, q_put_i, q_istore3, q_if_eq, q_goto, q_nop, q_isub, q_iload3, e_74_0, L_0, L_1, L_6, L_40, L_41, k_some, k_none, pRm_i, pRm_r, pRm_0, pF_1, pF_2, inv_s, h2.sh.k0, nN_le, nN_lt, nN_eq, nN_add, nN_mul, nN_lt0, nN_ge0, nN_gt0, nN_le0, nN_eq0, nN_eq1, nN_neN, pIn_n, pIx_n, eq_self, Nat.reduceLT, Bool.false_eq_true, Nat.add_zero, Nat.zero_add, Nat.reduceAdd, Nat.reduceMul, Nat.reduceSub, Nat.zero_le, Nat.reduceLeDiff, Nat.reduceEqDiff, Nat.le_refl, not_false_eq_true, not_true_eq_false, false_implies, true_implies, forall_const, true_and, and_true, if_true, if_false, implies_true, and_self, ne_eq, false_and, and_false, or_false, false_or, true_or, or_true]
      exact bad M2 _ _ h2.sh h2.ft T2.de h2.aq h2.cl.1 A02
    · rw [if_neg (show ¬ th tW n b p = 1000 + 12 from c)] at h2
      obtain ⟨rfl, h2⟩ := h2
      have T2 := T1.st A2 X9_10 h2
      simp (disch := omega) only [q_aload0, q_aload0N, q_get_i, pTag_1, pRf_s, q_iconst, q_ic_eq, q_zret, q_invv0, inv_1, q_istore1, q_ldc_s, q_invv1, q_istore2, q_iload2, q_if_ne, q_bipush, q_ic_ne, q_iload1, q_dup_i, q_dup_r, q_iadd, q_put_i, q_istore3, q_if_eq, q_goto, q_nop, q_isub, q_iload3, e_74_0, L_0, L_1, L_6, L_40, L_41, k_some, k_none, pRm_i, pRm_r, pRm_0, pF_1, pF_2, inv_s, h2.sh.k0, nN_le, nN_lt, nN_eq, nN_add, nN_mul, nN_lt0, nN_ge0, nN_gt0, nN_le0, nN_eq0, nN_eq1, nN_neN, pIn_n, pIx_n, eq_self, Nat.reduceLT, Bool.false_eq_true, Nat.add_zero, Nat.zero_add, Nat.reduceAdd, Nat.reduceMul, Nat.reduceSub, Nat.zero_le, Nat.reduceLeDiff, Nat.reduceEqDiff, Nat.le_refl, not_false_eq_true, not_true_eq_false, false_implies, true_implies, forall_const, true_and, and_true, if_true, if_false, implies_true, and_self, ne_eq, false_and, and_false, or_false, false_or, true_or, or_true]
      refine mw_mono (w_isSign (c := 40) h2 (by omega)) ?_
      rintro _ M3 ⟨rfl, h3, A3⟩
      have T3 := T2.st A3 X9_10 h3
      have A03 := A02.trans (A3.mono MdY_9)
      have t40 : th tW n b p = 2040 ↔ (p < n ∧ b p = 40) := by rw [← th_sign (W := tW) (show kd 40 = 3 from rfl) (by omega) hW]
      by_cases c2 : p < n ∧ b p = 40
      · rw [if_pos (Or.inr (t40.mpr c2))]
        simp (disch := omega) only [q_aload0, q_aload0N, q_get_i, pTag_1, pRf_s, q_iconst, q_ic_eq, q_zret, q_invv0, inv_1, q_istore1, q_ldc_s, q_invv1, q_istore2, q_iload2, q_if_ne, q_bipush, q_ic_ne, q_iload1, q_dup_i, q_dup_r, q_iadd, q_put_i, q_istore3, q_if_eq, q_goto, q_nop, q_isub, q_iload3, e_74_0, L_0, L_1, L_6, L_40, L_41, k_some, k_none, pRm_i, pRm_r, pRm_0, pF_1, pF_2, inv_s, c2, bI_T, h3.sh.k0, nN_le, nN_lt, nN_eq, nN_add, nN_mul, nN_lt0, nN_ge0, nN_gt0, nN_le0, nN_eq0, nN_eq1, nN_neN, pIn_n, pIx_n, eq_self, Nat.reduceLT, Bool.false_eq_true, Nat.add_zero, Nat.zero_add, Nat.reduceAdd, Nat.reduceMul, Nat.reduceSub, Nat.zero_le, Nat.reduceLeDiff, Nat.reduceEqDiff, Nat.le_refl, not_false_eq_true, not_true_eq_false, false_implies, true_implies, forall_const, true_and, and_true, if_true, if_false, implies_true, and_self, ne_eq, false_and, and_false, or_false, false_or, true_or, or_true]
        exact bad M3 _ _ h3.sh h3.ft T3.de h3.aq h3.cl.1 A03
      · rw [if_neg (by rw [t40]; exact fun z => z.elim c c2)]
        simp (disch := omega) only [q_aload0, q_aload0N, q_get_i, pTag_1, pRf_s, q_iconst, q_ic_eq, q_zret, q_invv0, inv_1, q_istore1, q_ldc_s, q_invv1, q_istore2, q_iload2, q_if_ne, q_bipush, q_ic_ne, q_iload1, q_dup_i, q_dup_r, q_iadd, q_put_i, q_istore3, q_if_eq, q_goto, q_nop, q_isub, q_iload3, e_74_0, L_0, L_1, L_6, L_40, L_41, k_some, k_none, pRm_i, pRm_r, pRm_0, pF_1, pF_2, inv_s, c2, bI_F, h3.sh.k0, nN_le, nN_lt, nN_eq, nN_add, nN_mul, nN_lt0, nN_ge0, nN_gt0, nN_le0, nN_eq0, nN_eq1, nN_neN, pIn_n, pIx_n, eq_self, Nat.reduceLT, Bool.false_eq_true, Nat.add_zero, Nat.zero_add, Nat.reduceAdd, Nat.reduceMul, Nat.reduceSub, Nat.zero_le, Nat.reduceLeDiff, Nat.reduceEqDiff, Nat.le_refl, not_false_eq_true, not_true_eq_false, false_implies, true_implies, forall_const, true_and, and_true, if_true, if_false, implies_true, and_self, ne_eq, false_and, and_false, or_false, false_or, true_or, or_true]
        refine mw_mono (w_plainM (d := d) T3 hb) ?_
        rintro o M4 ⟨h4, A4⟩
        obtain ⟨h5, v, rfl, hv⟩ := h4
        rcases hv with rfl | rfl
        · simp (disch := omega) only [q_aload0, q_aload0N, q_get_i, pTag_1, pRf_s, q_iconst, q_ic_eq, q_zret, q_invv0, inv_1, q_istore1, q_ldc_s, q_invv1, q_istore2, q_iload2, q_if_ne, q_bipush, q_ic_ne, q_iload1, q_dup_i, q_dup_r, q_iadd, q_put_i, q_istore3, q_if_eq, q_goto, q_nop, q_isub, q_iload3, e_74_0, L_0, L_1, L_6, L_40, L_41, k_some, k_none, pRm_i, pRm_r, pRm_0, pF_1, pF_2, inv_s, zb_0, nN_le, nN_lt, nN_eq, nN_add, nN_mul, nN_lt0, nN_ge0, nN_gt0, nN_le0, nN_eq0, nN_eq1, nN_neN, pIn_n, pIx_n, eq_self, Nat.reduceLT, Bool.false_eq_true, Nat.add_zero, Nat.zero_add, Nat.reduceAdd, Nat.reduceMul, Nat.reduceSub, Nat.zero_le, Nat.reduceLeDiff, Nat.reduceEqDiff, Nat.le_refl, not_false_eq_true, not_true_eq_false, false_implies, true_implies, forall_const, true_and, and_true, if_true, if_false, implies_true, and_self, ne_eq, false_and, and_false, or_false, false_or, true_or, or_true]
          exact ⟨⟨h5, zq0⟩, A03.trans A4⟩
        · simp (disch := omega) only [q_aload0, q_aload0N, q_get_i, pTag_1, pRf_s, q_iconst, q_ic_eq, q_zret, q_invv0, inv_1, q_istore1, q_ldc_s, q_invv1, q_istore2, q_iload2, q_if_ne, q_bipush, q_ic_ne, q_iload1, q_dup_i, q_dup_r, q_iadd, q_put_i, q_istore3, q_if_eq, q_goto, q_nop, q_isub, q_iload3, e_74_0, L_0, L_1, L_6, L_40, L_41, k_some, k_none, pRm_i, pRm_r, pRm_0, pF_1, pF_2, inv_s, zb_1, nN_le, nN_lt, nN_eq, nN_add, nN_mul, nN_lt0, nN_ge0, nN_gt0, nN_le0, nN_eq0, nN_eq1, nN_neN, pIn_n, pIx_n, eq_self, Nat.reduceLT, Bool.false_eq_true, Nat.add_zero, Nat.zero_add, Nat.reduceAdd, Nat.reduceMul, Nat.reduceSub, Nat.zero_le, Nat.reduceLeDiff, Nat.reduceEqDiff, Nat.le_refl, not_false_eq_true, not_true_eq_false, false_implies, true_implies, forall_const, true_and, and_true, if_true, if_false, implies_true, and_self, ne_eq, false_and, and_false, or_false, false_or, true_or, or_true]
          exact ⟨⟨h5, zq1⟩, A03.trans A4⟩
  | succ r ih =>
    intro d q p M hr6 h
    have hW : tW.length < 100 := by decide
    have f0 := h.sd.ft
    have d9 : d + 3 * (r + 1) + 10 = (d + 3 * r + 12) + 1 := by omega
    have e6 : 6 - (r + 1) + 1 = 6 - r := by omega
    have e7 : ¬ 6 - (r + 1) = 6 := by omega
    have e8 : nN (6 - r) - nN 1 = nN (6 - (r + 1)) := by rw [nN_subN (by omega)]; congr 1
    rw [d9]
    rw [show pAtom (th tW n b) (nx9 n b) 400 (r + 1) p = if th tW n b p = 1012 then pThen (pAtom (th tW n b) (nx9 n b) 400 r (nx9 n b p)) (fun s => .inr (s.1, s.2.1 ++ [1012], fun fv => nN 1 - s.2.2 fv)) else if th tW n b p = 2040 then pThen (pSo (th tW n b) (nx9 n b) 400 (pAtom (th tW n b) (nx9 n b) 400 r) (nx9 n b p)) (fun s => if th tW n b s.1 = 2041 then .inr (nx9 n b s.1, s.2.1, s.2.2) else .inl s.1) else pPlain (th tW n b) (nx9 n b) 400 p from rfl]
    simp (disch := omega) only [m_74, q_aload0, q_aload0N, q_get_i, pTag_1, pRf_s, q_iconst, q_ic_eq, q_zret, q_invv0, inv_1, q_istore1, q_ldc_s, q_invv1, q_istore2, q_iload2, q_if_ne, q_bipush, q_ic_ne, q_iload1, q_dup_i, q_dup_r, q_iadd, q_put_i, q_istore3, q_if_eq, q_goto, q_nop, q_isub, q_iload3, e_74_0, L_0, L_1, L_6, L_40, L_41, k_some, k_none, pRm_i, pRm_r, pRm_0, pF_1, pF_2, inv_s, h.sd.sh.k0, f0, nN_le, nN_lt, nN_eq, nN_add, nN_mul, nN_lt0, nN_ge0, nN_gt0, nN_le0, nN_eq0, nN_eq1, nN_neN, pIn_n, pIx_n, eq_self, Nat.reduceLT, Bool.false_eq_true, Nat.add_zero, Nat.zero_add, Nat.reduceAdd, Nat.reduceMul, Nat.reduceSub, Nat.zero_le, Nat.reduceLeDiff, Nat.reduceEqDiff, Nat.le_refl, not_false_eq_true, not_true_eq_false, false_implies, true_implies, forall_const, true_and, and_true, if_true, if_false, implies_true, and_self, ne_eq, false_and, and_false, or_false, false_or, true_or, or_true]
    rw [e_74_1]
    simp (disch := omega) only [q_aload0, q_aload0N, q_get_i, pTag_1, pRf_s, q_iconst, q_ic_eq, q_zret, q_invv0, inv_1, q_istore1, q_ldc_s, q_invv1, q_istore2, q_iload2, q_if_ne, q_bipush, q_ic_ne, q_iload1, q_dup_i, q_dup_r, q_iadd, q_put_i, q_istore3, q_if_eq, q_goto, q_nop, q_isub, q_iload3, e_74_0, L_0, L_1, L_6, L_40, L_41, k_some, k_none, pRm_i, pRm_r, pRm_0, pF_1, pF_2, inv_s, h.sd.sh.k0, nN_le, nN_lt, nN_eq, nN_add, nN_mul, nN_lt0, nN_ge0, nN_gt0, nN_le0, nN_eq0, nN_eq1, nN_neN, pIn_n, pIx_n, eq_self, Nat.reduceLT, Bool.false_eq_true, Nat.add_zero, Nat.zero_add, Nat.reduceAdd, Nat.reduceMul, Nat.reduceSub, Nat.zero_le, Nat.reduceLeDiff, Nat.reduceEqDiff, Nat.le_refl, not_false_eq_true, not_true_eq_false, false_implies, true_implies, forall_const, true_and, and_true, if_true, if_false, implies_true, and_self, ne_eq, false_and, and_false, or_false, false_or, true_or, or_true]
    refine mw_mono (w_skip h.sd) ?_
    rintro _ M1 ⟨rfl, h1, A1⟩
    have T1 := h.st A1 X9_10 h1
    have hn := h1.n9
    have hpn := h1.ple.2
    simp (disch := omega) only [q_aload0, q_aload0N, q_get_i, pTag_1, pRf_s, q_iconst, q_ic_eq, q_zret, q_invv0, inv_1, q_istore1, q_ldc_s, q_invv1, q_istore2, q_iload2, q_if_ne, q_bipush, q_ic_ne, q_iload1, q_dup_i, q_dup_r, q_iadd, q_put_i, q_istore3, q_if_eq, q_goto, q_nop, q_isub, q_iload3, e_74_0, L_0, L_1, L_6, L_40, L_41, k_some, k_none, pRm_i, pRm_r, pRm_0, pF_1, pF_2, inv_s, h1.sh.k0, h1.aq, nN_le, nN_lt, nN_eq, nN_add, nN_mul, nN_lt0, nN_ge0, nN_gt0, nN_le0, nN_eq0, nN_eq1, nN_neN, pIn_n, pIx_n, eq_self, Nat.reduceLT, Bool.false_eq_true, Nat.add_zero, Nat.zero_add, Nat.reduceAdd, Nat.reduceMul, Nat.reduceSub, Nat.zero_le, Nat.reduceLeDiff, Nat.reduceEqDiff, Nat.le_refl, not_false_eq_true, not_true_eq_false, false_implies, true_implies, forall_const, true_and, and_true, if_true, if_false, implies_true, and_self, ne_eq, false_and, and_false, or_false, false_or, true_or, or_true]
    refine mw_mono (w_hasT (i := 12) h1 (by omega) rfl) ?_
    rintro o2 M2 ⟨h2, A2⟩
    have A02 : Ag (MdY u) M M2 := (A1.mono MdY_9).trans (A2.mono MdY_9)
    -- the end: less deep again
    have out : ∀ (M3 : pMem) (v : Int32) (l2 : Option Value) (r9 : pZ), ShM (gS M3) (gP M3) u → (v = nN 0 ∨ v = nN 1) → Ag (MdY u) M M3 → (∀ M4, Ag (fun h k => h = u ∧ k = 11) M3 M4 → gI M4 u 11 = gI M3 u 11 - nN 1 → MdZ M4 u n b (6 - (r + 1)) fv r9 (.inl (some (.int v)))) → bw (d + 3 * r + 12) 74 8 ([some (.ref u), some (.int (nN p)), l2, some (.int v)], [], M3) (fun o M' => MdQ M' u n b (6 - (r + 1)) fv r9 o ∧ Ag (MdY u) M M') := by
      intro M3 v l2 r9 s3 hv A3 hz
      have A4 : Ag (fun h k => h = u ∧ k = 11) M3 (sI M3 u 11 (gI M3 u 11 - nN 1)) := Ag.one ⟨rfl, rfl⟩
      have hz := hz _ A4 (by rw [gI_sI, if_pos ⟨rfl, rfl⟩])
      rw [e_74_8]
      rcases hv with rfl | rfl
      · simp (disch := omega) only [q_aload0, q_aload0N, q_get_i, pTag_1, pRf_s, q_iconst, q_ic_eq, q_zret, q_invv0, inv_1, q_istore1, q_ldc_s, q_invv1, q_istore2, q_iload2, q_if_ne, q_bipush, q_ic_ne, q_iload1, q_dup_i, q_dup_r, q_iadd, q_put_i, q_istore3, q_if_eq, q_goto, q_nop, q_isub, q_iload3, e_74_0, L_0, L_1, L_6, L_40, L_41, k_some, k_none, pRm_i, pRm_r, pRm_0, pF_1, pF_2, inv_s, s3.k0, zb_0, nN_le, nN_lt, nN_eq, nN_add, nN_mul, nN_lt0, nN_ge0, nN_gt0, nN_le0, nN_eq0, nN_eq1, nN_neN, pIn_n, pIx_n, eq_self, Nat.reduceLT, Bool.false_eq_true, Nat.add_zero, Nat.zero_add, Nat.reduceAdd, Nat.reduceMul, Nat.reduceSub, Nat.zero_le, Nat.reduceLeDiff, Nat.reduceEqDiff, Nat.le_refl, not_false_eq_true, not_true_eq_false, false_implies, true_implies, forall_const, true_and, and_true, if_true, if_false, implies_true, and_self, ne_eq, false_and, and_false, or_false, false_or, true_or, or_true]
        exact ⟨⟨hz, zq0⟩, A3.trans (A4.mono MdY_11)⟩
      · simp (disch := omega) only [q_aload0, q_aload0N, q_get_i, pTag_1, pRf_s, q_iconst, q_ic_eq, q_zret, q_invv0, inv_1, q_istore1, q_ldc_s, q_invv1, q_istore2, q_iload2, q_if_ne, q_bipush, q_ic_ne, q_iload1, q_dup_i, q_dup_r, q_iadd, q_put_i, q_istore3, q_if_eq, q_goto, q_nop, q_isub, q_iload3, e_74_0, L_0, L_1, L_6, L_40, L_41, k_some, k_none, pRm_i, pRm_r, pRm_0, pF_1, pF_2, inv_s, s3.k0, zb_1, nN_le, nN_lt, nN_eq, nN_add, nN_mul, nN_lt0, nN_ge0, nN_gt0, nN_le0, nN_eq0, nN_eq1, nN_neN, pIn_n, pIx_n, eq_self, Nat.reduceLT, Bool.false_eq_true, Nat.add_zero, Nat.zero_add, Nat.reduceAdd, Nat.reduceMul, Nat.reduceSub, Nat.zero_le, Nat.reduceLeDiff, Nat.reduceEqDiff, Nat.le_refl, not_false_eq_true, not_true_eq_false, false_implies, true_implies, forall_const, true_and, and_true, if_true, if_false, implies_true, and_self, ne_eq, false_and, and_false, or_false, false_or, true_or, or_true]
        exact ⟨⟨hz, zq1⟩, A3.trans (A4.mono MdY_11)⟩
    have outE : ∀ (M3 : pMem) (v : Int32) (l2 : Option Value) (e : Nat), ShM (gS M3) (gP M3) u → (v = nN 0 ∨ v = nN 1) → Ag (MdY u) M M3 → gI M3 u 10 = nN e → e < 1000 → AtB M3 u (n + (7 - (6 - (r + 1)))) → bw (d + 3 * r + 12) 74 8 ([some (.ref u), some (.int (nN p)), l2, some (.int v)], [], M3) (fun o M' => MdQ M' u n b (6 - (r + 1)) fv (.inl e) o ∧ Ag (MdY u) M M') := by
      intro M3 v l2 e s3 hv A3 f3 he ⟨q9, z1, z2⟩
      exact out M3 v l2 (.inl e) s3 hv A3 (fun M4 A4 _ => ⟨⟨_, rfl⟩, by rw [A4.I (by omega)]; exact f3, he, q9, z1, by rw [A4.I (by omega)]; exact z2⟩)
    have outS : ∀ (M3 : pMem) (v : Int32) (l2 : Option Value) (s : pY) (q3 : Nat), (v = nN 0 ∨ v = nN 1) → Ag (MdY u) M M3 → MdT M3 u n b (6 - r) fv q3 s.1 → v = s.2.2 fv → bw (d + 3 * r + 12) 74 8 ([some (.ref u), some (.int (nN p)), l2, some (.int v)], [], M3) (fun o M' => MdQ M' u n b (6 - (r + 1)) fv (.inr s) o ∧ Ag (MdY u) M M') := by
      intro M3 v l2 s q3 hv A3 T3 he
      refine out M3 v l2 (.inr s) T3.sd.sh hv A3 (fun M4 A4 g4 => ⟨by rw [he], q3, ?_⟩)
      rw [T3.de, e8] at g4
      exact MdT.mk (T3.sd.keep A4 (fun k _ _ => by omega) (fun k => by omega) (fun k => by omega)) g4 (T3.fs.ag A4 (fun k => by omega) (fun k hk => by omega))
    by_cases c : th tW n b p = 1012
    · rw [if_pos (show th tW n b p = 1000 + 12 from c)] at h2
      obtain ⟨rfl, h2⟩ := h2
      have T2 := T1.st A2 X9_10 h2
      rw [if_pos c]
      have hp : p < n := by
        by_cases e : p < n
        · exact e
        · rw [th_3000 (by omega)] at c; omega
      have g8 := At_nx (b := b) hp
      have T3 := T2.deep (dp' := 6 - r)
      have A3 : Ag (fun h k => h = u ∧ k = 11) M2 (sI M2 u 11 (nN (6 - r))) := Ag.one ⟨rfl, rfl⟩
      have A03 := A02.trans (A3.mono MdY_11)
      simp (disch := omega) only [q_aload0, q_aload0N, q_get_i, pTag_1, pRf_s, q_iconst, q_ic_eq, q_zret, q_invv0, inv_1, q_istore1, q_ldc_s, q_invv1, q_istore2, q_iload2, q_if_ne, q_bipush, q_ic_ne, q_iload1, q_dup_i, q_dup_r, q_iadd, q_put_i, q_istore3, q_if_eq, q_goto, q_nop, q_isub, q_iload3, e_74_0, e_74_2, e_74_3, L_0, L_1, L_6, L_40, L_41, k_some, k_none, pRm_i, pRm_r, pRm_0, pF_1, pF_2, inv_s, h2.sh.k0, T2.de, e7, e6, gS_sI, nN_le, nN_lt, nN_eq, nN_add, nN_mul, nN_lt0, nN_ge0, nN_gt0, nN_le0, nN_eq0, nN_eq1, nN_neN, pIn_n, pIx_n, eq_self, Nat.reduceLT, Bool.false_eq_true, Nat.add_zero, Nat.zero_add, Nat.reduceAdd, Nat.reduceMul, Nat.reduceSub, Nat.zero_le, Nat.reduceLeDiff, Nat.reduceEqDiff, Nat.le_refl, not_false_eq_true, not_true_eq_false, false_implies, true_implies, forall_const, true_and, and_true, if_true, if_false, implies_true, and_self, ne_eq, false_and, and_false, or_false, false_or, true_or, or_true]
      have w9 := ih (d + 2) _ _ _ (by omega) T3
      rw [show d + 2 + 3 * r + 10 = d + 3 * r + 12 by omega] at w9
      refine mw_mono w9 ?_
      rintro o M4 ⟨⟨h4, v, rfl, hv⟩, A4⟩
      have s4 : ShM (gS M4) (gP M4) u := by rw [A4.S, A4.P]; exact T3.sd.sh
      have A04 := A03.trans A4
      have hgg := pB_atom (T := th tW n b) (N := nx9 n b) (F := 400) hb r (nx9 n b p)
      cases hc : pAtom (th tW n b) (nx9 n b) 400 r (nx9 n b p) with
      | inl e =>
        rw [hc] at h4
        obtain ⟨-, f4, e4, q9, z1, z2⟩ := h4
        have zz : AtB M4 u (n + (7 - (6 - (r + 1)))) := ⟨q9, by omega, z2⟩
        rcases hv with rfl | rfl
        · simp (disch := omega) only [q_aload0, q_aload0N, q_get_i, pTag_1, pRf_s, q_iconst, q_ic_eq, q_zret, q_invv0, inv_1, q_istore1, q_ldc_s, q_invv1, q_istore2, q_iload2, q_if_ne, q_bipush, q_ic_ne, q_iload1, q_dup_i, q_dup_r, q_iadd, q_put_i, q_istore3, q_if_eq, q_goto, q_nop, q_isub, q_iload3, e_74_0, e_74_4, e_74_5, L_0, L_1, L_6, L_40, L_41, k_some, k_none, pRm_i, pRm_r, pRm_0, pF_1, pF_2, inv_s, nN_le, nN_lt, nN_eq, nN_add, nN_mul, nN_lt0, nN_ge0, nN_gt0, nN_le0, nN_eq0, nN_eq1, nN_neN, pIn_n, pIx_n, eq_self, Nat.reduceLT, Bool.false_eq_true, Nat.add_zero, Nat.zero_add, Nat.reduceAdd, Nat.reduceMul, Nat.reduceSub, Nat.zero_le, Nat.reduceLeDiff, Nat.reduceEqDiff, Nat.le_refl, not_false_eq_true, not_true_eq_false, false_implies, true_implies, forall_const, true_and, and_true, if_true, if_false, implies_true, and_self, ne_eq, false_and, and_false, or_false, false_or, true_or, or_true]
          exact outE M4 _ _ e s4 (Or.inr rfl) A04 f4 e4 zz
        · simp (disch := omega) only [q_aload0, q_aload0N, q_get_i, pTag_1, pRf_s, q_iconst, q_ic_eq, q_zret, q_invv0, inv_1, q_istore1, q_ldc_s, q_invv1, q_istore2, q_iload2, q_if_ne, q_bipush, q_ic_ne, q_iload1, q_dup_i, q_dup_r, q_iadd, q_put_i, q_istore3, q_if_eq, q_goto, q_nop, q_isub, q_iload3, e_74_0, e_74_4, e_74_5, L_0, L_1, L_6, L_40, L_41, k_some, k_none, pRm_i, pRm_r, pRm_0, pF_1, pF_2, inv_s, nN_le, nN_lt, nN_eq, nN_add, nN_mul, nN_lt0, nN_ge0, nN_gt0, nN_le0, nN_eq0, nN_eq1, nN_neN, pIn_n, pIx_n, eq_self, Nat.reduceLT, Bool.false_eq_true, Nat.add_zero, Nat.zero_add, Nat.reduceAdd, Nat.reduceMul, Nat.reduceSub, Nat.zero_le, Nat.reduceLeDiff, Nat.reduceEqDiff, Nat.le_refl, not_false_eq_true, not_true_eq_false, false_implies, true_implies, forall_const, true_and, and_true, if_true, if_false, implies_true, and_self, ne_eq, false_and, and_false, or_false, false_or, true_or, or_true]
          exact outE M4 _ _ e s4 (Or.inl rfl) A04 f4 e4 zz
      | inr s =>
        rw [hc] at h4 hgg
        obtain ⟨h5, q4, T4⟩ := h4
        have h6 : v = s.2.2 fv := by injection h5 with h5; injection h5 with h5; injection h5
        rcases hv with rfl | rfl
        · simp (disch := omega) only [q_aload0, q_aload0N, q_get_i, pTag_1, pRf_s, q_iconst, q_ic_eq, q_zret, q_invv0, inv_1, q_istore1, q_ldc_s, q_invv1, q_istore2, q_iload2, q_if_ne, q_bipush, q_ic_ne, q_iload1, q_dup_i, q_dup_r, q_iadd, q_put_i, q_istore3, q_if_eq, q_goto, q_nop, q_isub, q_iload3, e_74_0, e_74_4, e_74_5, L_0, L_1, L_6, L_40, L_41, k_some, k_none, pRm_i, pRm_r, pRm_0, pF_1, pF_2, inv_s, nN_le, nN_lt, nN_eq, nN_add, nN_mul, nN_lt0, nN_ge0, nN_gt0, nN_le0, nN_eq0, nN_eq1, nN_neN, pIn_n, pIx_n, eq_self, Nat.reduceLT, Bool.false_eq_true, Nat.add_zero, Nat.zero_add, Nat.reduceAdd, Nat.reduceMul, Nat.reduceSub, Nat.zero_le, Nat.reduceLeDiff, Nat.reduceEqDiff, Nat.le_refl, not_false_eq_true, not_true_eq_false, false_implies, true_implies, forall_const, true_and, and_true, if_true, if_false, implies_true, and_self, ne_eq, false_and, and_false, or_false, false_or, true_or, or_true]
          exact outS M4 _ _ (s.1, s.2.1 ++ [1012], fun fv => nN 1 - s.2.2 fv) q4 (Or.inr rfl) A04 T4 (by show _ = nN 1 - s.2.2 fv; rw [← h6]; decide +kernel)
        · simp (disch := omega) only [q_aload0, q_aload0N, q_get_i, pTag_1, pRf_s, q_iconst, q_ic_eq, q_zret, q_invv0, inv_1, q_istore1, q_ldc_s, q_invv1, q_istore2, q_iload2, q_if_ne, q_bipush, q_ic_ne, q_iload1, q_dup_i, q_dup_r, q_iadd, q_put_i, q_istore3, q_if_eq, q_goto, q_nop, q_isub, q_iload3, e_74_0, e_74_4, e_74_5, L_0, L_1, L_6, L_40, L_41, k_some, k_none, pRm_i, pRm_r, pRm_0, pF_1, pF_2, inv_s, nN_le, nN_lt, nN_eq, nN_add, nN_mul, nN_lt0, nN_ge0, nN_gt0, nN_le0, nN_eq0, nN_eq1, nN_neN, pIn_n, pIx_n, eq_self, Nat.reduceLT, Bool.false_eq_true, Nat.add_zero, Nat.zero_add, Nat.reduceAdd, Nat.reduceMul, Nat.reduceSub, Nat.zero_le, Nat.reduceLeDiff, Nat.reduceEqDiff, Nat.le_refl, not_false_eq_true, not_true_eq_false, false_implies, true_implies, forall_const, true_and, and_true, if_true, if_false, implies_true, and_self, ne_eq, false_and, and_false, or_false, false_or, true_or, or_true]
          exact outS M4 _ _ (s.1, s.2.1 ++ [1012], fun fv => nN 1 - s.2.2 fv) q4 (Or.inl rfl) A04 T4 (by show _ = nN 1 - s.2.2 fv; rw [← h6]; decide +kernel)
    · rw [if_neg (show ¬ th tW n b p = 1000 + 12 from c)] at h2
      obtain ⟨rfl, h2⟩ := h2
      have T2 := T1.st A2 X9_10 h2
      rw [if_neg c]
      simp (disch := omega) only [q_aload0, q_aload0N, q_get_i, pTag_1, pRf_s, q_iconst, q_ic_eq, q_zret, q_invv0, inv_1, q_istore1, q_ldc_s, q_invv1, q_istore2, q_iload2, q_if_ne, q_bipush, q_ic_ne, q_iload1, q_dup_i, q_dup_r, q_iadd, q_put_i, q_istore3, q_if_eq, q_goto, q_nop, q_isub, q_iload3, e_74_0, L_0, L_1, L_6, L_40, L_41, k_some, k_none, pRm_i, pRm_r, pRm_0, pF_1, pF_2, inv_s, h2.sh.k0, nN_le, nN_lt, nN_eq, nN_add, nN_mul, nN_lt0, nN_ge0, nN_gt0, nN_le0, nN_eq0, nN_eq1, nN_neN, pIn_n, pIx_n, eq_self, Nat.reduceLT, Bool.false_eq_true, Nat.add_zero, Nat.zero_add, Nat.reduceAdd, Nat.reduceMul, Nat.reduceSub, Nat.zero_le, Nat.reduceLeDiff, Nat.reduceEqDiff, Nat.le_refl, not_false_eq_true, not_true_eq_false, false_implies, true_implies, forall_const, true_and, and_true, if_true, if_false, implies_true, and_self, ne_eq, false_and, and_false, or_false, false_or, true_or, or_true]
      refine mw_mono (w_isSign (c := 40) h2 (by omega)) ?_
      rintro _ M3 ⟨rfl, h3, A3⟩
      have T3 := T2.st A3 X9_10 h3
      have A03 := A02.trans (A3.mono MdY_9)
      have t40 : th tW n b p = 2040 ↔ (p < n ∧ b p = 40) := by rw [← th_sign (W := tW) (show kd 40 = 3 from rfl) (by omega) hW]
      by_cases c2 : p < n ∧ b p = 40
      · rw [if_pos (t40.mpr c2)]
        have g8 := At_nx (b := b) c2.1
        have T4 := (T3.deep (dp' := 6 - r)).sign rfl c2.1 (by rw [c2.2]; rfl)
        have A4 : Ag (MdY u) M3 (sI (sI M3 u 11 (nN (6 - r))) u 9 (nN (p + 1))) := Ag.put (Ag.one (Or.inr (Or.inr rfl) |> fun z => ⟨rfl, z⟩)) ⟨rfl, Or.inl rfl⟩
        have A04 := A03.trans A4
        have i9 : gI (sI M3 u 11 (nN (6 - r))) u 9 = nN p := by rw [gI_sI, if_neg (by omega)]; exact h3.aq
        simp (disch := omega) only [q_aload0, q_aload0N, q_get_i, pTag_1, pRf_s, q_iconst, q_ic_eq, q_zret, q_invv0, inv_1, q_istore1, q_ldc_s, q_invv1, q_istore2, q_iload2, q_if_ne, q_bipush, q_ic_ne, q_iload1, q_dup_i, q_dup_r, q_iadd, q_put_i, q_istore3, q_if_eq, q_goto, q_nop, q_isub, q_iload3, e_74_0, e_74_2, e_74_3, L_0, L_1, L_6, L_40, L_41, k_some, k_none, pRm_i, pRm_r, pRm_0, pF_1, pF_2, inv_s, c2, bI_T, h3.sh.k0, T3.de, e7, e6, gS_sI, nN_le, nN_lt, nN_eq, nN_add, nN_mul, nN_lt0, nN_ge0, nN_gt0, nN_le0, nN_eq0, nN_eq1, nN_neN, pIn_n, pIx_n, eq_self, Nat.reduceLT, Bool.false_eq_true, Nat.add_zero, Nat.zero_add, Nat.reduceAdd, Nat.reduceMul, Nat.reduceSub, Nat.zero_le, Nat.reduceLeDiff, Nat.reduceEqDiff, Nat.le_refl, not_false_eq_true, not_true_eq_false, false_implies, true_implies, forall_const, true_and, and_true, if_true, if_false, implies_true, and_self, ne_eq, false_and, and_false, or_false, false_or, true_or, or_true]
        rw [e_74_6]
        simp (disch := omega) only [q_aload0, q_aload0N, q_get_i, pTag_1, pRf_s, q_iconst, q_ic_eq, q_zret, q_invv0, inv_1, q_istore1, q_ldc_s, q_invv1, q_istore2, q_iload2, q_if_ne, q_bipush, q_ic_ne, q_iload1, q_dup_i, q_dup_r, q_iadd, q_put_i, q_istore3, q_if_eq, q_goto, q_nop, q_isub, q_iload3, e_74_0, L_0, L_1, L_6, L_40, L_41, k_some, k_none, pRm_i, pRm_r, pRm_0, pF_1, pF_2, inv_s, h3.sh.k0, i9, gS_sI, nN_le, nN_lt, nN_eq, nN_add, nN_mul, nN_lt0, nN_ge0, nN_gt0, nN_le0, nN_eq0, nN_eq1, nN_neN, pIn_n, pIx_n, eq_self, Nat.reduceLT, Bool.false_eq_true, Nat.add_zero, Nat.zero_add, Nat.reduceAdd, Nat.reduceMul, Nat.reduceSub, Nat.zero_le, Nat.reduceLeDiff, Nat.reduceEqDiff, Nat.le_refl, not_false_eq_true, not_true_eq_false, false_implies, true_implies, forall_const, true_and, and_true, if_true, if_false, implies_true, and_self, ne_eq, false_and, and_false, or_false, false_or, true_or, or_true]
        refine mw_mono (w_someM (d := d + 3 * r) (K := 3 + 2 * r) (atm := pAtom (th tW n b) (nx9 n b) 400 r) (fun M q p h => ih d q p M (by omega) h) (fun q h1 h2 => Gd_atom r q h1 h2) (pB_atom hb r) T4) ?_
        rintro o M5 ⟨⟨h5, v, rfl, hv⟩, A5⟩
        have s5 : ShM (gS M5) (gP M5) u := by rw [A5.S, A5.P]; exact T4.sd.sh
        have A05 := A04.trans A5
        cases hc : pSo (th tW n b) (nx9 n b) 400 (pAtom (th tW n b) (nx9 n b) 400 r) (nx9 n b p) with
        | inl e =>
          rw [hc] at h5
          obtain ⟨-, f5, e5, q9, z1, z2⟩ := h5
          have f6 := nN_ft e5
          have A6 : Ag (MdY u) M5 (sI M5 u 9 (gI M5 u 9 + nN 1)) := Ag.one ⟨rfl, Or.inl rfl⟩
          simp (disch := omega) only [q_aload0, q_aload0N, q_get_i, pTag_1, pRf_s, q_iconst, q_ic_eq, q_zret, q_invv0, inv_1, q_istore1, q_ldc_s, q_invv1, q_istore2, q_iload2, q_if_ne, q_bipush, q_ic_ne, q_iload1, q_dup_i, q_dup_r, q_iadd, q_put_i, q_istore3, q_if_eq, q_goto, q_nop, q_isub, q_iload3, e_74_0, e_74_7, L_0, L_1, L_6, L_40, L_41, k_some, k_none, pRm_i, pRm_r, pRm_0, pF_1, pF_2, inv_s, s5.k0, f5, f6, nN_le, nN_lt, nN_eq, nN_add, nN_mul, nN_lt0, nN_ge0, nN_gt0, nN_le0, nN_eq0, nN_eq1, nN_neN, pIn_n, pIx_n, eq_self, Nat.reduceLT, Bool.false_eq_true, Nat.add_zero, Nat.zero_add, Nat.reduceAdd, Nat.reduceMul, Nat.reduceSub, Nat.zero_le, Nat.reduceLeDiff, Nat.reduceEqDiff, Nat.le_refl, not_false_eq_true, not_true_eq_false, false_implies, true_implies, forall_const, true_and, and_true, if_true, if_false, implies_true, and_self, ne_eq, false_and, and_false, or_false, false_or, true_or, or_true]
          exact outE _ v _ e s5 hv (A05.trans A6) (by rw [gI_sI, if_neg (by omega)]; exact f5) e5 ⟨q9 + 1, by omega, by rw [gI_sI, if_pos ⟨rfl, rfl⟩, z2, nN_add]⟩
        | inr s =>
          rw [hc] at h5
          obtain ⟨h6, q5, T5⟩ := h5
          have h7 : v = s.2.2 fv := by injection h6 with h6; injection h6 with h6; injection h6
          have f5 := T5.sd.ft
          simp (disch := omega) only [q_aload0, q_aload0N, q_get_i, pTag_1, pRf_s, q_iconst, q_ic_eq, q_zret, q_invv0, inv_1, q_istore1, q_ldc_s, q_invv1, q_istore2, q_iload2, q_if_ne, q_bipush, q_ic_ne, q_iload1, q_dup_i, q_dup_r, q_iadd, q_put_i, q_istore3, q_if_eq, q_goto, q_nop, q_isub, q_iload3, e_74_0, L_0, L_1, L_6, L_40, L_41, k_some, k_none, pRm_i, pRm_r, pRm_0, pF_1, pF_2, inv_s, s5.k0, f5, nN_le, nN_lt, nN_eq, nN_add, nN_mul, nN_lt0, nN_ge0, nN_gt0, nN_le0, nN_eq0, nN_eq1, nN_neN, pIn_n, pIx_n, eq_self, Nat.reduceLT, Bool.false_eq_true, Nat.add_zero, Nat.zero_add, Nat.reduceAdd, Nat.reduceMul, Nat.reduceSub, Nat.zero_le, Nat.reduceLeDiff, Nat.reduceEqDiff, Nat.le_refl, not_false_eq_true, not_true_eq_false, false_implies, true_implies, forall_const, true_and, and_true, if_true, if_false, implies_true, and_self, ne_eq, false_and, and_false, or_false, false_or, true_or, or_true]
          refine mw_mono (w_isSign (c := 41) T5.sd (by omega)) ?_
          rintro _ M6 ⟨rfl, h8, A6⟩
          have T6 := T5.st A6 X9_10 h8
          have A06 := A05.trans (A6.mono MdY_9)
          have t41 : th tW n b s.1 = 2041 ↔ (s.1 < n ∧ b s.1 = 41) := by rw [← th_sign (W := tW) (show kd 41 = 3 from rfl) (by omega) hW]
          have hs1 := h8.ple.2
          simp only [pThen]
          by_cases c3 : s.1 < n ∧ b s.1 = 41
          · rw [if_pos (t41.mpr c3)]
            have T7 := T6.sign rfl c3.1 (by rw [c3.2]; rfl)
            have A7 : Ag (MdY u) M6 (sI M6 u 9 (nN (s.1 + 1))) := Ag.one ⟨rfl, Or.inl rfl⟩
            simp (disch := omega) only [q_aload0, q_aload0N, q_get_i, pTag_1, pRf_s, q_iconst, q_ic_eq, q_zret, q_invv0, inv_1, q_istore1, q_ldc_s, q_invv1, q_istore2, q_iload2, q_if_ne, q_bipush, q_ic_ne, q_iload1, q_dup_i, q_dup_r, q_iadd, q_put_i, q_istore3, q_if_eq, q_goto, q_nop, q_isub, q_iload3, e_74_0, e_74_7, L_0, L_1, L_6, L_40, L_41, k_some, k_none, pRm_i, pRm_r, pRm_0, pF_1, pF_2, inv_s, c3, bI_T, h8.sh.k0, h8.aq, nN_le, nN_lt, nN_eq, nN_add, nN_mul, nN_lt0, nN_ge0, nN_gt0, nN_le0, nN_eq0, nN_eq1, nN_neN, pIn_n, pIx_n, eq_self, Nat.reduceLT, Bool.false_eq_true, Nat.add_zero, Nat.zero_add, Nat.reduceAdd, Nat.reduceMul, Nat.reduceSub, Nat.zero_le, Nat.reduceLeDiff, Nat.reduceEqDiff, Nat.le_refl, not_false_eq_true, not_true_eq_false, false_implies, true_implies, forall_const, true_and, and_true, if_true, if_false, implies_true, and_self, ne_eq, false_and, and_false, or_false, false_or, true_or, or_true]
            exact outS _ v _ (nx9 n b s.1, s.2.1, s.2.2) (s.1 + 1) hv (A06.trans A7) T7 h7
          · rw [if_neg (fun z => c3 (t41.mp z))]
            simp (disch := omega) only [q_aload0, q_aload0N, q_get_i, pTag_1, pRf_s, q_iconst, q_ic_eq, q_zret, q_invv0, inv_1, q_istore1, q_ldc_s, q_invv1, q_istore2, q_iload2, q_if_ne, q_bipush, q_ic_ne, q_iload1, q_dup_i, q_dup_r, q_iadd, q_put_i, q_istore3, q_if_eq, q_goto, q_nop, q_isub, q_iload3, e_74_0, L_0, L_1, L_6, L_40, L_41, k_some, k_none, pRm_i, pRm_r, pRm_0, pF_1, pF_2, inv_s, c3, bI_F, h8.sh.k0, h8.aq, nN_le, nN_lt, nN_eq, nN_add, nN_mul, nN_lt0, nN_ge0, nN_gt0, nN_le0, nN_eq0, nN_eq1, nN_neN, pIn_n, pIx_n, eq_self, Nat.reduceLT, Bool.false_eq_true, Nat.add_zero, Nat.zero_add, Nat.reduceAdd, Nat.reduceMul, Nat.reduceSub, Nat.zero_le, Nat.reduceLeDiff, Nat.reduceEqDiff, Nat.le_refl, not_false_eq_true, not_true_eq_false, false_implies, true_implies, forall_const, true_and, and_true, if_true, if_false, implies_true, and_self, ne_eq, false_and, and_false, or_false, false_or, true_or, or_true]
            refine mw_mono (w_wrongM h8.sh h8.ft) ?_
            rintro _ M7 ⟨rfl, h9, A7⟩
            have s7 : ShM (gS M7) (gP M7) u := by rw [A7.S, A7.P]; exact h8.sh
            have A8 : Ag (MdY u) M7 (sI M7 u 9 (gI M7 u 9 + nN 1)) := Ag.one ⟨rfl, Or.inl rfl⟩
            simp (disch := omega) only [q_aload0, q_aload0N, q_get_i, pTag_1, pRf_s, q_iconst, q_ic_eq, q_zret, q_invv0, inv_1, q_istore1, q_ldc_s, q_invv1, q_istore2, q_iload2, q_if_ne, q_bipush, q_ic_ne, q_iload1, q_dup_i, q_dup_r, q_iadd, q_put_i, q_istore3, q_if_eq, q_goto, q_nop, q_isub, q_iload3, e_74_0, e_74_7, L_0, L_1, L_6, L_40, L_41, k_some, k_none, pRm_i, pRm_r, pRm_0, pF_1, pF_2, inv_s, s7.k0, nN_le, nN_lt, nN_eq, nN_add, nN_mul, nN_lt0, nN_ge0, nN_gt0, nN_le0, nN_eq0, nN_eq1, nN_neN, pIn_n, pIx_n, eq_self, Nat.reduceLT, Bool.false_eq_true, Nat.add_zero, Nat.zero_add, Nat.reduceAdd, Nat.reduceMul, Nat.reduceSub, Nat.zero_le, Nat.reduceLeDiff, Nat.reduceEqDiff, Nat.le_refl, not_false_eq_true, not_true_eq_false, false_implies, true_implies, forall_const, true_and, and_true, if_true, if_false, implies_true, and_self, ne_eq, false_and, and_false, or_false, false_or, true_or, or_true]
            exact outE _ v _ s.1 s7 hv ((A06.trans (A7.mono MdY_10)).trans A8) (by rw [gI_sI, if_neg (by omega)]; exact h9) (by omega) ⟨s.1 + 1, by omega, by rw [gI_sI, if_pos ⟨rfl, rfl⟩, A7.I (by omega), h8.aq, nN_add]⟩
      · rw [if_neg (by rw [t40]; exact c2)]
        simp (disch := omega) only [q_aload0, q_aload0N, q_get_i, pTag_1, pRf_s, q_iconst, q_ic_eq, q_zret, q_invv0, inv_1, q_istore1, q_ldc_s, q_invv1, q_istore2, q_iload2, q_if_ne, q_bipush, q_ic_ne, q_iload1, q_dup_i, q_dup_r, q_iadd, q_put_i, q_istore3, q_if_eq, q_goto, q_nop, q_isub, q_iload3, e_74_0, L_0, L_1, L_6, L_40, L_41, k_some, k_none, pRm_i, pRm_r, pRm_0, pF_1, pF_2, inv_s, c2, bI_F, h3.sh.k0, nN_le, nN_lt, nN_eq, nN_add, nN_mul, nN_lt0, nN_ge0, nN_gt0, nN_le0, nN_eq0, nN_eq1, nN_neN, pIn_n, pIx_n, eq_self, Nat.reduceLT, Bool.false_eq_true, Nat.add_zero, Nat.zero_add, Nat.reduceAdd, Nat.reduceMul, Nat.reduceSub, Nat.zero_le, Nat.reduceLeDiff, Nat.reduceEqDiff, Nat.le_refl, not_false_eq_true, not_true_eq_false, false_implies, true_implies, forall_const, true_and, and_true, if_true, if_false, implies_true, and_self, ne_eq, false_and, and_false, or_false, false_or, true_or, or_true]
        refine mw_mono (w_plainM (d := d + 3 * r + 3) T3 hb) ?_
        rintro o M4 ⟨h4, A4⟩
        obtain ⟨h5, v, rfl, hv⟩ := h4
        rcases hv with rfl | rfl
        · simp (disch := omega) only [q_aload0, q_aload0N, q_get_i, pTag_1, pRf_s, q_iconst, q_ic_eq, q_zret, q_invv0, inv_1, q_istore1, q_ldc_s, q_invv1, q_istore2, q_iload2, q_if_ne, q_bipush, q_ic_ne, q_iload1, q_dup_i, q_dup_r, q_iadd, q_put_i, q_istore3, q_if_eq, q_goto, q_nop, q_isub, q_iload3, e_74_0, L_0, L_1, L_6, L_40, L_41, k_some, k_none, pRm_i, pRm_r, pRm_0, pF_1, pF_2, inv_s, zb_0, nN_le, nN_lt, nN_eq, nN_add, nN_mul, nN_lt0, nN_ge0, nN_gt0, nN_le0, nN_eq0, nN_eq1, nN_neN, pIn_n, pIx_n, eq_self, Nat.reduceLT, Bool.false_eq_true, Nat.add_zero, Nat.zero_add, Nat.reduceAdd, Nat.reduceMul, Nat.reduceSub, Nat.zero_le, Nat.reduceLeDiff, Nat.reduceEqDiff, Nat.le_refl, not_false_eq_true, not_true_eq_false, false_implies, true_implies, forall_const, true_and, and_true, if_true, if_false, implies_true, and_self, ne_eq, false_and, and_false, or_false, false_or, true_or, or_true]
          exact ⟨⟨h5, zq0⟩, A03.trans A4⟩
        · simp (disch := omega) only [q_aload0, q_aload0N, q_get_i, pTag_1, pRf_s, q_iconst, q_ic_eq, q_zret, q_invv0, inv_1, q_istore1, q_ldc_s, q_invv1, q_istore2, q_iload2, q_if_ne, q_bipush, q_ic_ne, q_iload1, q_dup_i, q_dup_r, q_iadd, q_put_i, q_istore3, q_if_eq, q_goto, q_nop, q_isub, q_iload3, e_74_0, L_0, L_1, L_6, L_40, L_41, k_some, k_none, pRm_i, pRm_r, pRm_0, pF_1, pF_2, inv_s, zb_1, nN_le, nN_lt, nN_eq, nN_add, nN_mul, nN_lt0, nN_ge0, nN_gt0, nN_le0, nN_eq0, nN_eq1, nN_neN, pIn_n, pIx_n, eq_self, Nat.reduceLT, Bool.false_eq_true, Nat.add_zero, Nat.zero_add, Nat.reduceAdd, Nat.reduceMul, Nat.reduceSub, Nat.zero_le, Nat.reduceLeDiff, Nat.reduceEqDiff, Nat.le_refl, not_false_eq_true, not_true_eq_false, false_implies, true_implies, forall_const, true_and, and_true, if_true, if_false, implies_true, and_self, ne_eq, false_and, and_false, or_false, false_or, true_or, or_true]
          exact ⟨⟨h5, zq1⟩, A03.trans A4⟩
end AM
