/-! THE LAW'S MODEL READS A TEXT OF THE TOWN -/
def XTr (u h k : Nat) : Prop := XTm u h k ∨ (h = u ∧ k = 12)
def RdT (M' : pMem) (u : Nat) (a : Nat → Int32) (r : Nat ⊕ (Nat → Int32)) : Prop := match r with
  | .inl e => (∃ a', gI M' (u + 1) = a' ∧ ∀ j, 940 ≤ j → a' j = a j) ∧ gI M' u 10 = nN e ∧ e < 1000
  | .inr a' => gI M' (u + 1) = a' ∧ gI M' u 10 = iN (-1)
section RT8
variable {d n u p q k m c lo sr i e K : Nat} {b : Nat → Nat} {a a' : Nat → Int32} {M M1 M' : pMem} {Q : pOut → pMem → Prop} {x y but : Int32} {r : Nat ⊕ Nat}
theorem XTr_T : ∀ h k, XTm u h k → XTr u h k := fun _ _ z => Or.inl z
theorem XTr_9 : ∀ h k, (h = u ∧ k = 9) → XTr u h k := fun h k z => Or.inl (X9_T h k z)
theorem XTr_10 : ∀ h k, (h = u ∧ k = 10) → XTr u h k := fun h k z => Or.inl (MdX_T h k (MdX_10 h k z))
theorem XTr_12 : ∀ h k, (h = u ∧ k = 12) → XTr u h k := fun h k z => Or.inr z
theorem MdU.keep {X : Nat → Nat → Prop} (h : MdU M u n b a q p) (A : Ag X M M') (n1 : ∀ k, 7 ≤ k → k ≤ 10 → ¬ X u k) (n2 : ∀ k, ¬ X (u + 4) k) (n3 : ∀ k, ¬ X (u + 1) k) : MdU M' u n b a q p :=
  MdU.mk (h.sd.keep A n1 n2 n3) (by rw [A.I (n1 7 (by omega) (by omega))]; exact h.t7) (fun k hk => by rw [A.I (n2 k)]; exact h.tl k hk) (by rw [A.row n3]; exact h.tb)
theorem w_readTownLoop (hK9 : K + 1386 < 2000000) : ∀ (j l q p : Nat) (a2 : Nat → Int32) (M2 : pMem), l + j = 14 → MdU M2 u n b a2 q p → Wt a2 (K + 99 * l) → gI M2 u 12 = nN l → (∀ j, 940 ≤ j → a2 j = a j) → Ag (XTr u) M M2 →
    bw (d + 71) 69 3 ([some (.ref u), some (.int (nN 0)), some (.int (nN 1))], [], M2) (fun o M' => (o = .inl none ∧ RdT M' u a (pTT (th uW n b) (nx9 n b) j p a2)) ∧ Ag (XTr u) M M') := by
  have outF : ∀ (M3 : pMem) (l3 e : Nat) (a3 : Nat → Int32), MfU M3 u n b a3 e → (∀ j, 940 ≤ j → a3 j = a j) → gI M3 u 12 = nN l3 → Ag (XTr u) M M3 →
      bw (d + 71) 69 8 ([some (.ref u), some (.int (nN 0)), some (.int (nN 1))], [], M3) (fun o M' => (o = .inl none ∧ (∃ a', gI M' (u + 1) = a' ∧ ∀ j, 940 ≤ j → a' j = a j) ∧ gI M' u 10 = nN e ∧ e < 1000) ∧ Ag (XTr u) M M') := by
    intro M3 l3 e a3 h3 hi i3 A3
    obtain ⟨q9, z1, z2⟩ := h3.at9
    have hn := h3.n9
    have A4 : Ag (fun h k => h = u ∧ k = 12) M3 (sI M3 u 12 (nN (l3 + 1))) := Ag.one ⟨rfl, rfl⟩
    have i4 : gI M3 u 12 + nN 1 = nN (l3 + 1) := by rw [i3, nN_add]
    rw [e_69_8]
    simp (disch := omega) only [q_aload0, q_aload0N, q_iconst, q_put_i, pTag_1, q_invv0, inv_1, q_get_i, pRf_s, q_ic_ge, q_goto, q_nop, q_istore2, q_iload2, q_if_eq, q_ic_ne, q_iload1, q_bipush, q_invv1, q_dup_i, q_dup_r, q_iadd, q_vret, L_0, L_1, L_12, L_14, L_59, k_some, k_none, pRm_i, pRm_r, pRm_0, pF_1, pF_2, inv_s, h3.sh.k0, i4, gS_sI, nN_le, nN_lt, nN_eq, nN_add, nN_mul, nN_lt0, nN_ge0, nN_gt0, nN_le0, nN_eq0, nN_eq1, nN_neN, pIn_n, pIx_n, eq_self, Nat.reduceLT, Bool.false_eq_true, Nat.add_zero, Nat.zero_add, Nat.reduceAdd, Nat.reduceMul, Nat.reduceSub, Nat.zero_le, Nat.reduceLeDiff, Nat.reduceEqDiff, Nat.le_refl, not_false_eq_true, not_true_eq_false, false_implies, true_implies, forall_const, true_and, and_true, if_true, if_false, implies_true, and_self, ne_eq, false_and, and_false, or_false, false_or, true_or, or_true]
    refine mw_mono (w_skipF (M := sI M3 u 12 (nN (l3 + 1))) (q := q9) h3.sh (h3.lt.ag A4 (by omega) (by omega) (by omega)) h3.b9 hn (by rw [gI_sI, if_neg (by omega)]; exact h3.en) (by rw [gI_sI, if_neg (by omega)]; exact z2) (by omega)) ?_
    rintro _ M5 ⟨rfl, A5⟩
    have s5 : ShM (gS M5) (gP M5) u := by rw [A5.S, A5.P]; exact h3.sh
    have f5 : gI M5 u 10 = nN e := by rw [A5.I (by omega), gI_sI, if_neg (by omega)]; exact h3.ft
    have t5 : gI M5 (u + 1) = a3 := by rw [A5.row (by omega), A4.row (by omega)]; exact h3.tb
    have f6 := nN_ft h3.e9
    simp (disch := omega) only [q_aload0, q_aload0N, q_iconst, q_put_i, pTag_1, q_invv0, inv_1, q_get_i, pRf_s, q_ic_ge, q_goto, q_nop, q_istore2, q_iload2, q_if_eq, q_ic_ne, q_iload1, q_bipush, q_invv1, q_dup_i, q_dup_r, q_iadd, q_vret, e_69_3, e_69_9, e_69_12, L_0, L_1, L_12, L_14, L_59, k_some, k_none, pRm_i, pRm_r, pRm_0, pF_1, pF_2, inv_s, s5.k0, f5, f6, nN_le, nN_lt, nN_eq, nN_add, nN_mul, nN_lt0, nN_ge0, nN_gt0, nN_le0, nN_eq0, nN_eq1, nN_neN, pIn_n, pIx_n, eq_self, Nat.reduceLT, Bool.false_eq_true, Nat.add_zero, Nat.zero_add, Nat.reduceAdd, Nat.reduceMul, Nat.reduceSub, Nat.zero_le, Nat.reduceLeDiff, Nat.reduceEqDiff, Nat.le_refl, not_false_eq_true, not_true_eq_false, false_implies, true_implies, forall_const, true_and, and_true, if_true, if_false, implies_true, and_self, ne_eq, false_and, and_false, or_false, false_or, true_or, or_true]
    exact ⟨⟨⟨a3, t5, hi⟩, h3.e9⟩, (A3.trans (A4.mono XTr_12)).trans (A5.mono XTr_9)⟩
  intro j
  induction j with
  | zero =>
    intro l q p a2 M2 hl h hw h12 hi A
    have el : l = 14 := by omega
    subst el
    have f2 := h.sd.ft
    have hn := h.sd.n9
    have hpn := h.sd.ple.2
    rw [e_69_3]
    simp (disch := omega) only [q_aload0, q_aload0N, q_iconst, q_put_i, pTag_1, q_invv0, inv_1, q_get_i, pRf_s, q_ic_ge, q_goto, q_nop, q_istore2, q_iload2, q_if_eq, q_ic_ne, q_iload1, q_bipush, q_invv1, q_dup_i, q_dup_r, q_iadd, q_vret, L_0, L_1, L_12, L_14, L_59, k_some, k_none, pRm_i, pRm_r, pRm_0, pF_1, pF_2, inv_s, h.sd.sh.k0, f2, nN_le, nN_lt, nN_eq, nN_add, nN_mul, nN_lt0, nN_ge0, nN_gt0, nN_le0, nN_eq0, nN_eq1, nN_neN, pIn_n, pIx_n, eq_self, Nat.reduceLT, Bool.false_eq_true, Nat.add_zero, Nat.zero_add, Nat.reduceAdd, Nat.reduceMul, Nat.reduceSub, Nat.zero_le, Nat.reduceLeDiff, Nat.reduceEqDiff, Nat.le_refl, not_false_eq_true, not_true_eq_false, false_implies, true_implies, forall_const, true_and, and_true, if_true, if_false, implies_true, and_self, ne_eq, false_and, and_false, or_false, false_or, true_or, or_true]
    refine mw_mono (w_skip h.sd) ?_
    rintro _ M3 ⟨rfl, s3, A3⟩
    have h3 := h.st A3 X9_U s3
    have i3 : gI M3 u 12 = nN 14 := by rw [A3.I (by omega)]; exact h12
    simp (disch := omega) only [q_aload0, q_aload0N, q_iconst, q_put_i, pTag_1, q_invv0, inv_1, q_get_i, pRf_s, q_ic_ge, q_goto, q_nop, q_istore2, q_iload2, q_if_eq, q_ic_ne, q_iload1, q_bipush, q_invv1, q_dup_i, q_dup_r, q_iadd, q_vret, e_69_4, e_69_5, L_0, L_1, L_12, L_14, L_59, k_some, k_none, pRm_i, pRm_r, pRm_0, pF_1, pF_2, inv_s, s3.sh.k0, i3, s3.aq, nN_le, nN_lt, nN_eq, nN_add, nN_mul, nN_lt0, nN_ge0, nN_gt0, nN_le0, nN_eq0, nN_eq1, nN_neN, pIn_n, pIx_n, eq_self, Nat.reduceLT, Bool.false_eq_true, Nat.add_zero, Nat.zero_add, Nat.reduceAdd, Nat.reduceMul, Nat.reduceSub, Nat.zero_le, Nat.reduceLeDiff, Nat.reduceEqDiff, Nat.le_refl, not_false_eq_true, not_true_eq_false, false_implies, true_implies, forall_const, true_and, and_true, if_true, if_false, implies_true, and_self, ne_eq, false_and, and_false, or_false, false_or, true_or, or_true]
    refine mw_mono (w_wrongM s3.sh s3.ft) ?_
    rintro _ M4 ⟨rfl, f4, A4⟩
    simp (disch := omega) only [q_aload0, q_aload0N, q_iconst, q_put_i, pTag_1, q_invv0, inv_1, q_get_i, pRf_s, q_ic_ge, q_goto, q_nop, q_istore2, q_iload2, q_if_eq, q_ic_ne, q_iload1, q_bipush, q_invv1, q_dup_i, q_dup_r, q_iadd, q_vret, e_69_4, e_69_5, L_0, L_1, L_12, L_14, L_59, k_some, k_none, pRm_i, pRm_r, pRm_0, pF_1, pF_2, inv_s, nN_le, nN_lt, nN_eq, nN_add, nN_mul, nN_lt0, nN_ge0, nN_gt0, nN_le0, nN_eq0, nN_eq1, nN_neN, pIn_n, pIx_n, eq_self, Nat.reduceLT, Bool.false_eq_true, Nat.add_zero, Nat.zero_add, Nat.reduceAdd, Nat.reduceMul, Nat.reduceSub, Nat.zero_le, Nat.reduceLeDiff, Nat.reduceEqDiff, Nat.le_refl, not_false_eq_true, not_true_eq_false, false_implies, true_implies, forall_const, true_and, and_true, if_true, if_false, implies_true, and_self, ne_eq, false_and, and_false, or_false, false_or, true_or, or_true]
    exact outF M4 14 p a2 (h3.bad A4 X10_U f4 (by omega) ⟨p, by omega, by rw [A4.I (by omega)]; exact s3.aq⟩) hi (by rw [A4.I (by omega)]; exact i3) ((A.trans (A3.mono XTr_9)).trans (A4.mono XTr_10))
  | succ j ih =>
    intro l q p a2 M2 hl h hw h12 hi A
    have f2 := h.sd.ft
    have hn := h.sd.n9
    have hpn := h.sd.ple.2
    have hpo : PosO n b p := ⟨hpn, h.sd.at9⟩
    have hW : uW.length < 100 := by decide
    have el : ¬ l = 14 := by omega
    rw [e_69_3]
    simp (disch := omega) only [q_aload0, q_aload0N, q_iconst, q_put_i, pTag_1, q_invv0, inv_1, q_get_i, pRf_s, q_ic_ge, q_goto, q_nop, q_istore2, q_iload2, q_if_eq, q_ic_ne, q_iload1, q_bipush, q_invv1, q_dup_i, q_dup_r, q_iadd, q_vret, L_0, L_1, L_12, L_14, L_59, k_some, k_none, pRm_i, pRm_r, pRm_0, pF_1, pF_2, inv_s, h.sd.sh.k0, f2, nN_le, nN_lt, nN_eq, nN_add, nN_mul, nN_lt0, nN_ge0, nN_gt0, nN_le0, nN_eq0, nN_eq1, nN_neN, pIn_n, pIx_n, eq_self, Nat.reduceLT, Bool.false_eq_true, Nat.add_zero, Nat.zero_add, Nat.reduceAdd, Nat.reduceMul, Nat.reduceSub, Nat.zero_le, Nat.reduceLeDiff, Nat.reduceEqDiff, Nat.le_refl, not_false_eq_true, not_true_eq_false, false_implies, true_implies, forall_const, true_and, and_true, if_true, if_false, implies_true, and_self, ne_eq, false_and, and_false, or_false, false_or, true_or, or_true]
    refine mw_mono (w_skip h.sd) ?_
    rintro _ M3 ⟨rfl, s3, A3⟩
    have h3 := h.st A3 X9_U s3
    have A03 := A.trans (A3.mono XTr_9)
    have i3 : gI M3 u 12 = nN l := by rw [A3.I (by omega)]; exact h12
    simp (disch := omega) only [q_aload0, q_aload0N, q_iconst, q_put_i, pTag_1, q_invv0, inv_1, q_get_i, pRf_s, q_ic_ge, q_goto, q_nop, q_istore2, q_iload2, q_if_eq, q_ic_ne, q_iload1, q_bipush, q_invv1, q_dup_i, q_dup_r, q_iadd, q_vret, e_69_4, e_69_5, e_69_6, e_69_7, L_0, L_1, L_12, L_14, L_59, k_some, k_none, pRm_i, pRm_r, pRm_0, pF_1, pF_2, inv_s, s3.sh.k0, i3, el, nN_le, nN_lt, nN_eq, nN_add, nN_mul, nN_lt0, nN_ge0, nN_gt0, nN_le0, nN_eq0, nN_eq1, nN_neN, pIn_n, pIx_n, eq_self, Nat.reduceLT, Bool.false_eq_true, Nat.add_zero, Nat.zero_add, Nat.reduceAdd, Nat.reduceMul, Nat.reduceSub, Nat.zero_le, Nat.reduceLeDiff, Nat.reduceEqDiff, Nat.le_refl, not_false_eq_true, not_true_eq_false, false_implies, true_implies, forall_const, true_and, and_true, if_true, if_false, implies_true, and_self, ne_eq, false_and, and_false, or_false, false_or, true_or, or_true]
    refine mw_mono (w_townLine (d := d + 1) h3 hw (by omega)) ?_
    rintro o M4 ⟨⟨rfl, h4⟩, A4⟩
    have A04 := A03.trans (A4.mono XTr_T)
    have n12 : ¬ XTm u u 12 := by rintro (z | z | ⟨-, z⟩) <;> omega
    have i4 : gI M4 u 12 = nN l := by rw [A4.I n12]; exact i3
    simp (disch := omega) only [q_aload0, q_aload0N, q_iconst, q_put_i, pTag_1, q_invv0, inv_1, q_get_i, pRf_s, q_ic_ge, q_goto, q_nop, q_istore2, q_iload2, q_if_eq, q_ic_ne, q_iload1, q_bipush, q_invv1, q_dup_i, q_dup_r, q_iadd, q_vret, e_69_4, e_69_5, L_0, L_1, L_12, L_14, L_59, k_some, k_none, pRm_i, pRm_r, pRm_0, pF_1, pF_2, inv_s, nN_le, nN_lt, nN_eq, nN_add, nN_mul, nN_lt0, nN_ge0, nN_gt0, nN_le0, nN_eq0, nN_eq1, nN_neN, pIn_n, pIx_n, eq_self, Nat.reduceLT, Bool.false_eq_true, Nat.add_zero, Nat.zero_add, Nat.reduceAdd, Nat.reduceMul, Nat.reduceSub, Nat.zero_le, Nat.reduceLeDiff, Nat.reduceEqDiff, Nat.le_refl, not_false_eq_true, not_true_eq_false, false_implies, true_implies, forall_const, true_and, and_true, if_true, if_false, implies_true, and_self, ne_eq, false_and, and_false, or_false, false_or, true_or, or_true]
    unfold pTT
    cases hs : pTL (th uW n b) (nx9 n b) a2 p with
    | inl e =>
      rw [hs] at h4
      obtain ⟨a3, h4, hi4⟩ := h4
      exact outF M4 l e a3 h4 (fun j hj => (hi4 j hj).trans (hi j hj)) i4 A04
    | inr s =>
      rw [hs] at h4
      obtain ⟨q4, h4⟩ := h4
      obtain ⟨⟨w1, G1⟩, p1, -⟩ := pTL_ok hw (by omega) hpo hs
      have hi4 : ∀ j, 940 ≤ j → s.2 j = a j := fun j hj => (G1.1 j hj).trans (hi j hj)
      have A5 : Ag (fun h k => h = u ∧ k = 12) M4 (sI M4 u 12 (nN (l + 1))) := Ag.one ⟨rfl, rfl⟩
      have h5 := h4.keep A5 (by omega) (by omega) (by omega)
      have i5 : gI M4 u 12 + nN 1 = nN (l + 1) := by rw [i4, nN_add]
      rw [e_69_8]
      simp (disch := omega) only [q_aload0, q_aload0N, q_iconst, q_put_i, pTag_1, q_invv0, inv_1, q_get_i, pRf_s, q_ic_ge, q_goto, q_nop, q_istore2, q_iload2, q_if_eq, q_ic_ne, q_iload1, q_bipush, q_invv1, q_dup_i, q_dup_r, q_iadd, q_vret, L_0, L_1, L_12, L_14, L_59, k_some, k_none, pRm_i, pRm_r, pRm_0, pF_1, pF_2, inv_s, h4.sd.sh.k0, i5, gS_sI, nN_le, nN_lt, nN_eq, nN_add, nN_mul, nN_lt0, nN_ge0, nN_gt0, nN_le0, nN_eq0, nN_eq1, nN_neN, pIn_n, pIx_n, eq_self, Nat.reduceLT, Bool.false_eq_true, Nat.add_zero, Nat.zero_add, Nat.reduceAdd, Nat.reduceMul, Nat.reduceSub, Nat.zero_le, Nat.reduceLeDiff, Nat.reduceEqDiff, Nat.le_refl, not_false_eq_true, not_true_eq_false, false_implies, true_implies, forall_const, true_and, and_true, if_true, if_false, implies_true, and_self, ne_eq, false_and, and_false, or_false, false_or, true_or, or_true]
      refine mw_mono (w_skip h5.sd) ?_
      rintro _ M6 ⟨rfl, s6, A6⟩
      have h6 := h5.st A6 X9_U s6
      have A06 := (A04.trans (A5.mono XTr_12)).trans (A6.mono XTr_9)
      have f6 := s6.ft
      have i6 : gI M6 u 12 = nN (l + 1) := by rw [A6.I (by omega), gI_sI, if_pos ⟨rfl, rfl⟩]
      have hs1 := s6.ple.2
      have h3000 := th_end9 (n := n) (p := s.1) hW s6.b9
      have t59 : th uW n b s.1 = 2059 ↔ (s.1 < n ∧ b s.1 = 59) := by rw [← th_sign (W := uW) (show kd 59 = 3 from rfl) (by omega) hW]
      by_cases c3 : s.1 = n
      · rw [if_pos (h3000.mpr (by omega))]
        simp (disch := omega) only [q_aload0, q_aload0N, q_iconst, q_put_i, pTag_1, q_invv0, inv_1, q_get_i, pRf_s, q_ic_ge, q_goto, q_nop, q_istore2, q_iload2, q_if_eq, q_ic_ne, q_iload1, q_bipush, q_invv1, q_dup_i, q_dup_r, q_iadd, q_vret, e_69_3, e_69_9, e_69_12, L_0, L_1, L_12, L_14, L_59, k_some, k_none, pRm_i, pRm_r, pRm_0, pF_1, pF_2, inv_s, s6.sh.k0, s6.en, s6.aq, f6, c3, nN_le, nN_lt, nN_eq, nN_add, nN_mul, nN_lt0, nN_ge0, nN_gt0, nN_le0, nN_eq0, nN_eq1, nN_neN, pIn_n, pIx_n, eq_self, Nat.reduceLT, Bool.false_eq_true, Nat.add_zero, Nat.zero_add, Nat.reduceAdd, Nat.reduceMul, Nat.reduceSub, Nat.zero_le, Nat.reduceLeDiff, Nat.reduceEqDiff, Nat.le_refl, not_false_eq_true, not_true_eq_false, false_implies, true_implies, forall_const, true_and, and_true, if_true, if_false, implies_true, and_self, ne_eq, false_and, and_false, or_false, false_or, true_or, or_true]
        exact ⟨⟨h6.tb, f6⟩, A06⟩
      · rw [if_neg (fun z => c3 (by have := h3000.mp z; omega))]
        simp (disch := omega) only [q_aload0, q_aload0N, q_iconst, q_put_i, pTag_1, q_invv0, inv_1, q_get_i, pRf_s, q_ic_ge, q_goto, q_nop, q_istore2, q_iload2, q_if_eq, q_ic_ne, q_iload1, q_bipush, q_invv1, q_dup_i, q_dup_r, q_iadd, q_vret, e_69_10, L_0, L_1, L_12, L_14, L_59, k_some, k_none, pRm_i, pRm_r, pRm_0, pF_1, pF_2, inv_s, s6.sh.k0, s6.en, s6.aq, f6, c3, nN_le, nN_lt, nN_eq, nN_add, nN_mul, nN_lt0, nN_ge0, nN_gt0, nN_le0, nN_eq0, nN_eq1, nN_neN, pIn_n, pIx_n, eq_self, Nat.reduceLT, Bool.false_eq_true, Nat.add_zero, Nat.zero_add, Nat.reduceAdd, Nat.reduceMul, Nat.reduceSub, Nat.zero_le, Nat.reduceLeDiff, Nat.reduceEqDiff, Nat.le_refl, not_false_eq_true, not_true_eq_false, false_implies, true_implies, forall_const, true_and, and_true, if_true, if_false, implies_true, and_self, ne_eq, false_and, and_false, or_false, false_or, true_or, or_true]
        refine mw_mono (w_isSign (c := 59) s6 (by omega)) ?_
        rintro _ M7 ⟨rfl, s7, A7⟩
        have h7 := h6.st A7 X9_U s7
        have A07 := A06.trans (A7.mono XTr_9)
        by_cases c : s.1 < n ∧ b s.1 = 59
        · rw [if_pos (t59.mpr c)]
          have hk : kd (b s.1) = 3 := by rw [c.2]; rfl
          have hB : isB b s.1 = true := by
            rcases s7.at9 with z | z
            · omega
            · exact z.2
          have et : te n b s.1 = s.1 + 1 := (te_spec (b := b) c.1).2.2.2.2 hk
          have A8 : Ag (fun h k => h = u ∧ k = 9) M7 (sI M7 u 9 (nN (s.1 + 1))) := Ag.one ⟨rfl, rfl⟩
          have s8 : MdS (sI M7 u 9 (nN (s.1 + 1))) u n b (s.1 + 1) (nx9 n b s.1) := s7.mv A8 (by rw [gI_sI, if_pos ⟨rfl, rfl⟩]) (by rw [← et]; exact Cl_te c.1 hB) (by unfold nx9; rw [et])
          simp (disch := omega) only [q_aload0, q_aload0N, q_iconst, q_put_i, pTag_1, q_invv0, inv_1, q_get_i, pRf_s, q_ic_ge, q_goto, q_nop, q_istore2, q_iload2, q_if_eq, q_ic_ne, q_iload1, q_bipush, q_invv1, q_dup_i, q_dup_r, q_iadd, q_vret, L_0, L_1, L_12, L_14, L_59, k_some, k_none, pRm_i, pRm_r, pRm_0, pF_1, pF_2, inv_s, c, bI_T, s7.sh.k0, s7.aq, nN_le, nN_lt, nN_eq, nN_add, nN_mul, nN_lt0, nN_ge0, nN_gt0, nN_le0, nN_eq0, nN_eq1, nN_neN, pIn_n, pIx_n, eq_self, Nat.reduceLT, Bool.false_eq_true, Nat.add_zero, Nat.zero_add, Nat.reduceAdd, Nat.reduceMul, Nat.reduceSub, Nat.zero_le, Nat.reduceLeDiff, Nat.reduceEqDiff, Nat.le_refl, not_false_eq_true, not_true_eq_false, false_implies, true_implies, forall_const, true_and, and_true, if_true, if_false, implies_true, and_self, ne_eq, false_and, and_false, or_false, false_or, true_or, or_true]
          exact ih (l + 1) _ _ s.2 _ (by omega) (h7.st A8 X9_U s8) (w1.mono (by omega)) (by rw [gI_sI, if_neg (by omega), A7.I (by omega)]; exact i6) hi4 (A07.trans (A8.mono XTr_9))
        · rw [if_neg (fun z => c (t59.mp z))]
          simp (disch := omega) only [q_aload0, q_aload0N, q_iconst, q_put_i, pTag_1, q_invv0, inv_1, q_get_i, pRf_s, q_ic_ge, q_goto, q_nop, q_istore2, q_iload2, q_if_eq, q_ic_ne, q_iload1, q_bipush, q_invv1, q_dup_i, q_dup_r, q_iadd, q_vret, e_69_11, L_0, L_1, L_12, L_14, L_59, k_some, k_none, pRm_i, pRm_r, pRm_0, pF_1, pF_2, inv_s, c, bI_F, s7.sh.k0, s7.aq, nN_le, nN_lt, nN_eq, nN_add, nN_mul, nN_lt0, nN_ge0, nN_gt0, nN_le0, nN_eq0, nN_eq1, nN_neN, pIn_n, pIx_n, eq_self, Nat.reduceLT, Bool.false_eq_true, Nat.add_zero, Nat.zero_add, Nat.reduceAdd, Nat.reduceMul, Nat.reduceSub, Nat.zero_le, Nat.reduceLeDiff, Nat.reduceEqDiff, Nat.le_refl, not_false_eq_true, not_true_eq_false, false_implies, true_implies, forall_const, true_and, and_true, if_true, if_false, implies_true, and_self, ne_eq, false_and, and_false, or_false, false_or, true_or, or_true]
          refine mw_mono (w_wrongM s7.sh s7.ft) ?_
          rintro _ M8 ⟨rfl, f8, A8⟩
          have s9 : ShM (gS M8) (gP M8) u := by rw [A8.S, A8.P]; exact s7.sh
          have f9 := nN_ft (e := s.1) (by omega)
          simp (disch := omega) only [q_aload0, q_aload0N, q_iconst, q_put_i, pTag_1, q_invv0, inv_1, q_get_i, pRf_s, q_ic_ge, q_goto, q_nop, q_istore2, q_iload2, q_if_eq, q_ic_ne, q_iload1, q_bipush, q_invv1, q_dup_i, q_dup_r, q_iadd, q_vret, e_69_3, e_69_12, L_0, L_1, L_12, L_14, L_59, k_some, k_none, pRm_i, pRm_r, pRm_0, pF_1, pF_2, inv_s, s9.k0, f8, f9, nN_le, nN_lt, nN_eq, nN_add, nN_mul, nN_lt0, nN_ge0, nN_gt0, nN_le0, nN_eq0, nN_eq1, nN_neN, pIn_n, pIx_n, eq_self, Nat.reduceLT, Bool.false_eq_true, Nat.add_zero, Nat.zero_add, Nat.reduceAdd, Nat.reduceMul, Nat.reduceSub, Nat.zero_le, Nat.reduceLeDiff, Nat.reduceEqDiff, Nat.le_refl, not_false_eq_true, not_true_eq_false, false_implies, true_implies, forall_const, true_and, and_true, if_true, if_false, implies_true, and_self, ne_eq, false_and, and_false, or_false, false_or, true_or, or_true]
          exact ⟨⟨⟨s.2, by rw [A8.row (by omega)]; exact h7.tb, hi4⟩, f8, by omega⟩, A07.trans (A8.mono XTr_10)⟩
theorem w_readTown (hs : ShM (gS M) (gP M) u) (h7 : gI M u 7 = iN (-1)) (hl : ∀ k, k < n → gI M (u + 4) k = nN (b k)) (hn : n ≤ 400) (h9 : ∀ k, b k < 256) (he : gI M u 8 = nN n) (hf : gI M u 10 = iN (-1)) (ha : gI M (u + 1) = a) (hw : Wt a K) (hK : K + 1386 < 2000000) :
    mw (d + 72) 69 [.ref u, .int (nN 0)] M (fun o M' => (o = .inl none ∧ RdT M' u a (pTown (th uW n b) (nx9 n b) (nb n b 0) a)) ∧ Ag (XTr u) M M') := by
  have hW : uW.length < 100 := by decide
  have hL : LtM M u n b := Or.inl ⟨h7, hn, hl⟩
  have A0 : Ag (fun h k => h = u ∧ (k = 9 ∨ k = 11 ∨ k = 12)) M (sI (sI (sI M u 9 (nN 0)) u 11 (nN 0)) u 12 (nN 0)) := Ag.put (Ag.put (Ag.one ⟨rfl, by omega⟩) ⟨rfl, by omega⟩) ⟨rfl, by omega⟩
  have S0 : MdS (sI (sI (sI M u 9 (nN 0)) u 11 (nN 0)) u 12 (nN 0)) u n b 0 (nb n b 0) := by
    refine MdS.mk hs (hL.ag A0 (by omega) (by omega) (by omega)) hn h9 ?_ ?_ ?_ Cl_0 rfl
    · rw [A0.I (by omega)]; exact he
    · rw [A0.I (by omega)]; exact hf
    · rw [gI_sI, if_neg (by omega), gI_sI, if_neg (by omega), gI_sI, if_pos ⟨rfl, rfl⟩]
  have T0 : MdU (sI (sI (sI M u 9 (nN 0)) u 11 (nN 0)) u 12 (nN 0)) u n b a 0 (nb n b 0) := by
    refine MdU.mk S0 (by rw [A0.I (by omega)]; exact h7) (fun k hk => by rw [A0.I (by omega)]; exact hl k hk) (by rw [A0.row (by omega)]; exact ha)
  simp (disch := omega) only [m_69, q_aload0, q_aload0N, q_iconst, q_put_i, pTag_1, q_invv0, inv_1, q_get_i, pRf_s, q_ic_ge, q_goto, q_nop, q_istore2, q_iload2, q_if_eq, q_ic_ne, q_iload1, q_bipush, q_invv1, q_dup_i, q_dup_r, q_iadd, q_vret, e_69_0, L_0, L_1, L_12, L_14, L_59, k_some, k_none, pRm_i, pRm_r, pRm_0, pF_1, pF_2, inv_s, hs.k0, gS_sI, nN_le, nN_lt, nN_eq, nN_add, nN_mul, nN_lt0, nN_ge0, nN_gt0, nN_le0, nN_eq0, nN_eq1, nN_neN, pIn_n, pIx_n, eq_self, Nat.reduceLT, Bool.false_eq_true, Nat.add_zero, Nat.zero_add, Nat.reduceAdd, Nat.reduceMul, Nat.reduceSub, Nat.zero_le, Nat.reduceLeDiff, Nat.reduceEqDiff, Nat.le_refl, not_false_eq_true, not_true_eq_false, false_implies, true_implies, forall_const, true_and, and_true, if_true, if_false, implies_true, and_self, ne_eq, false_and, and_false, or_false, false_or, true_or, or_true]
  refine mw_mono (w_skip S0) ?_
  rintro _ M1 ⟨rfl, s1, A1⟩
  have h1 := T0.st A1 X9_U s1
  have A01 : Ag (XTr u) M M1 := (A0.mono fun h k z => by
    by_cases c : k = 12
    · exact Or.inr ⟨z.1, c⟩
    · exact Or.inl (Or.inr (Or.inr ⟨z.1, by omega⟩))).trans (A1.mono XTr_9)
  have hpn := s1.ple.2
  have i1 : gI M1 u 12 = nN 0 := by rw [A1.I (by omega), gI_sI, if_pos ⟨rfl, rfl⟩]
  have h3000 := th_end9 (n := n) (p := nb n b 0) hW h9
  unfold pTown
  by_cases c : n ≤ nb n b 0
  · rw [if_pos (h3000.mpr c)]
    have f1 := s1.ft
    simp (disch := omega) only [q_aload0, q_aload0N, q_iconst, q_put_i, pTag_1, q_invv0, inv_1, q_get_i, pRf_s, q_ic_ge, q_goto, q_nop, q_istore2, q_iload2, q_if_eq, q_ic_ne, q_iload1, q_bipush, q_invv1, q_dup_i, q_dup_r, q_iadd, q_vret, e_69_1, e_69_2, e_69_3, e_69_12, L_0, L_1, L_12, L_14, L_59, k_some, k_none, pRm_i, pRm_r, pRm_0, pF_1, pF_2, inv_s, s1.sh.k0, s1.aq, s1.en, c, nN_le, nN_lt, nN_eq, nN_add, nN_mul, nN_lt0, nN_ge0, nN_gt0, nN_le0, nN_eq0, nN_eq1, nN_neN, pIn_n, pIx_n, eq_self, Nat.reduceLT, Bool.false_eq_true, Nat.add_zero, Nat.zero_add, Nat.reduceAdd, Nat.reduceMul, Nat.reduceSub, Nat.zero_le, Nat.reduceLeDiff, Nat.reduceEqDiff, Nat.le_refl, not_false_eq_true, not_true_eq_false, false_implies, true_implies, forall_const, true_and, and_true, if_true, if_false, implies_true, and_self, ne_eq, false_and, and_false, or_false, false_or, true_or, or_true]
    exact ⟨⟨h1.tb, f1⟩, A01⟩
  · rw [if_neg (fun z => c (h3000.mp z))]
    simp (disch := omega) only [q_aload0, q_aload0N, q_iconst, q_put_i, pTag_1, q_invv0, inv_1, q_get_i, pRf_s, q_ic_ge, q_goto, q_nop, q_istore2, q_iload2, q_if_eq, q_ic_ne, q_iload1, q_bipush, q_invv1, q_dup_i, q_dup_r, q_iadd, q_vret, e_69_2, L_0, L_1, L_12, L_14, L_59, k_some, k_none, pRm_i, pRm_r, pRm_0, pF_1, pF_2, inv_s, s1.sh.k0, s1.aq, s1.en, c, nN_le, nN_lt, nN_eq, nN_add, nN_mul, nN_lt0, nN_ge0, nN_gt0, nN_le0, nN_eq0, nN_eq1, nN_neN, pIn_n, pIx_n, eq_self, Nat.reduceLT, Bool.false_eq_true, Nat.add_zero, Nat.zero_add, Nat.reduceAdd, Nat.reduceMul, Nat.reduceSub, Nat.zero_le, Nat.reduceLeDiff, Nat.reduceEqDiff, Nat.le_refl, not_false_eq_true, not_true_eq_false, false_implies, true_implies, forall_const, true_and, and_true, if_true, if_false, implies_true, and_self, ne_eq, false_and, and_false, or_false, false_or, true_or, or_true]
    exact w_readTownLoop (d := d) (M := M) (a := a) hK 14 0 _ _ a M1 (by omega) h1 (hw.mono (by omega)) i1 (fun j _ => rfl) A01
end RT8
