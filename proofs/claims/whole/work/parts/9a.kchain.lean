/-! chain: the model -/
def nxP (cp lv : Nat → Int32) (t : Int32) (v j : Nat) : Bool := !(decide (lv j = lv v - nN 1) && decide (t ≤ cp (12 * v + j)))
def nxJ (cp lv : Nat → Int32) (n : Nat) (t : Int32) (v : Nat) : Nat := fstN (nxP cp lv t v) n 0
def wkJ (cp lv : Nat → Int32) (n : Nat) (t : Int32) : Nat → Nat → Nat
  | 0, v => v
  | k + 1, v => wkJ cp lv n t k (nxJ cp lv n t v)
section KCH
variable {d u n dd i j k x y v : Nat} {cp lv : Nat → Int32} {t : Int32} {a : Nat → Int32} {M M1 M' : pMem} {Q : pOut → pMem → Prop}
theorem nx_ok (hI : LvI cp n t (n - 1) lv) (hd : dd < 50) (hv : lv v = nN (dd + 1)) : nxJ cp lv n t v < n ∧ lv (nxJ cp lv n t v) = nN dd ∧ t ≤ cp (12 * v + nxJ cp lv n t v) := by
  obtain ⟨j, h1, h2, h3⟩ := hI.2 v dd (by omega) hv
  have e1 : nN (dd + 1) - nN 1 = nN dd := by rw [nN_subN (by omega)]; rfl
  have hj : ¬ nxP cp lv t v j = true := by unfold nxP; rw [hv, e1, h2]; simp [h3]
  obtain ⟨z1, z2⟩ := fstN_le (P := nxP cp lv t v) n 0
  have lt : nxJ cp lv n t v < n := by
    refine Classical.byContradiction fun z => hj ?_
    exact fstN_pre (P := nxP cp lv t v) n 0 j (by omega) (by unfold nxJ at z; omega)
  have := fstN_at (P := nxP cp lv t v) n 0 (by unfold nxJ at lt; omega)
  refine ⟨lt, ?_⟩
  have h : ¬ nxP cp lv t v (nxJ cp lv n t v) = true := this
  unfold nxP at h
  rw [hv, e1] at h
  simpa using h
theorem walk_k (hr : MR M u a) (hw : Wf a) (hc : CpM M u (nP a) cp) (hl : ∀ k, k < nP a → gI M (u + 9) k = lv k) (hI : LvI cp (nP a) t (nP a - 1) lv) {kk : Nat} (hk9 : kk < 50) {l1 l2 : Option Value} : ∀ (k c v L : Nat) (z7 : Option Value), c + k = kk → v < nP a → lv v = nN L → k ≤ L → L < 50 → bw d 126 19 ([some (.ref u), l1, l2, some (.int t), some (.int (nN kk)), some (.int (nN v)), some (.int (nN c)), z7], [], M) Q = Q (.inl (some (.int (nN (wkJ cp lv (nP a) t k v))))) M := by
  have hp' := hw.p'
  have s9 := hr.1
  intro k
  induction k with
  | zero =>
    intro c v L z7 hc9 hv hL hk hL50
    have e : kk = c := by omega
    subst e
    rw [e_126_19]
    simp (disch := omega) only [q_aload0, q_aload0N, q_iload1, q_iload2, q_invv2, inv_1, q_put_i, pTag_1, q_get_i, pRf_s, q_if_ne, q_iload3, q_iconst, q_bipush, q_invs3_20, q_if_eq, q_iload4, q_ic_ge, q_nop, q_if_le, q_iret, q_invv0, q_istore5, q_iload5, q_get_r, q_ic_ne, q_goto, q_iast, q_iinc5, q_iald, q_istore6, q_iload6, q_ic_eq, q_istore7, q_iload7, q_isub, q_imul, q_iadd, q_ic_lt, q_iinc7, q_iinc6, q_ic_le, e_126_0, e_126_1, e_126_2, e_126_3, e_126_5, e_126_6, e_126_7, e_126_10, e_126_12, e_126_13, e_126_16, e_126_17, e_126_18, e_126_21, e_126_22, e_126_23, L_0, L_1, L_2, L_12, L_99, k_some, k_none, pRm_i, pRm_r, pRm_0, pF_1, pF_2, inv_s, nN_le, nN_lt, nN_eq, nN_add, nN_mul, nN_lt0, nN_ge0, nN_gt0, nN_le0, nN_eq0, nN_eq1, nN_neN, pIn_n, pIx_n, eq_self, Nat.reduceLT, Bool.false_eq_true, Nat.add_zero, Nat.zero_add, Nat.reduceAdd, Nat.reduceMul, Nat.reduceSub, Nat.zero_le, Nat.reduceLeDiff, Nat.reduceEqDiff, Nat.le_refl, not_false_eq_true, not_true_eq_false, false_implies, true_implies, forall_const, true_and, and_true, if_true, if_false, implies_true, and_self, ne_eq, false_and, and_false, or_false, false_or, true_or, or_true]
    rfl
  | succ k ih =>
    intro c v L z7 hc9 hv hL hk hL50
    have h3 : ¬ kk ≤ c := by omega
    obtain ⟨L', rfl⟩ : ∃ L', L = L' + 1 := ⟨L - 1, by omega⟩
    obtain ⟨n1, n2, n3⟩ := nx_ok (v := v) hI (dd := L') (by omega) hL
    have v12 : v < 12 := by omega
    have gv := hl v hv
    rw [e_126_19]
    simp (disch := omega) only [q_aload0, q_aload0N, q_iload1, q_iload2, q_invv2, inv_1, q_put_i, pTag_1, q_get_i, pRf_s, q_if_ne, q_iload3, q_iconst, q_bipush, q_invs3_20, q_if_eq, q_iload4, q_ic_ge, q_nop, q_if_le, q_iret, q_invv0, q_istore5, q_iload5, q_get_r, q_ic_ne, q_goto, q_iast, q_iinc5, q_iald, q_istore6, q_iload6, q_ic_eq, q_istore7, q_iload7, q_isub, q_imul, q_iadd, q_ic_lt, q_iinc7, q_iinc6, q_ic_le, e_126_0, e_126_1, e_126_2, e_126_3, e_126_5, e_126_6, e_126_7, e_126_10, e_126_12, e_126_13, e_126_16, e_126_17, e_126_18, e_126_21, e_126_22, e_126_23, L_0, L_1, L_2, L_12, L_99, k_some, k_none, pRm_i, pRm_r, pRm_0, pF_1, pF_2, inv_s, h3, nN_le, nN_lt, nN_eq, nN_add, nN_mul, nN_lt0, nN_ge0, nN_gt0, nN_le0, nN_eq0, nN_eq1, nN_neN, pIn_n, pIx_n, eq_self, Nat.reduceLT, Bool.false_eq_true, Nat.add_zero, Nat.zero_add, Nat.reduceAdd, Nat.reduceMul, Nat.reduceSub, Nat.zero_le, Nat.reduceLeDiff, Nat.reduceEqDiff, Nat.le_refl, not_false_eq_true, not_true_eq_false, false_implies, true_implies, forall_const, true_and, and_true, if_true, if_false, implies_true, and_self, ne_eq, false_and, and_false, or_false, false_or, true_or, or_true]
    rw [fst_rule (n := nP a) (P := nxP cp lv t v) (C := fun j => ([some (.ref u), l1, l2, some (.int t), some (.int (nN kk)), some (.int (nN v)), some (.int (nN c)), some (.int (nN j))], [], M)) ?_ (nP a) 0 (by omega)]
    · show bw d 126 20 ([some (.ref u), l1, l2, some (.int t), some (.int (nN kk)), some (.int (nN v)), some (.int (nN c)), some (.int (nN (nxJ cp lv (nP a) t v)))], [], M) Q = _
      have hw2 : wkJ cp lv (nP a) t (k + 1) v = wkJ cp lv (nP a) t k (nxJ cp lv (nP a) t v) := rfl
      rw [hw2]
      generalize nxJ cp lv (nP a) t v = j at *
      have gj := hl j n1
      have g6 := hc v j hv n1
      have j12 : j < 12 := by omega
      have i9 : 12 * v + j < 144 := by omega
      have e1 : lv v - nN 1 = lv j := by rw [hL, n2, nN_subN (by omega)]; rfl
      rw [e_126_20]
      simp (disch := omega) only [q_aload0, q_aload0N, q_iload1, q_iload2, q_invv2, inv_1, q_put_i, pTag_1, q_get_i, pRf_s, q_if_ne, q_iload3, q_iconst, q_bipush, q_invs3_20, q_if_eq, q_iload4, q_ic_ge, q_nop, q_if_le, q_iret, q_invv0, q_istore5, q_iload5, q_get_r, q_ic_ne, q_goto, q_iast, q_iinc5, q_iald, q_istore6, q_iload6, q_ic_eq, q_istore7, q_iload7, q_isub, q_imul, q_iadd, q_ic_lt, q_iinc7, q_iinc6, q_ic_le, e_126_0, e_126_1, e_126_2, e_126_3, e_126_5, e_126_6, e_126_7, e_126_10, e_126_12, e_126_13, e_126_16, e_126_17, e_126_18, e_126_21, e_126_22, e_126_23, L_0, L_1, L_2, L_12, L_99, k_some, k_none, pRm_i, pRm_r, pRm_0, pF_1, pF_2, inv_s, s9.k0, s9.k6, s9.k9, s9.p18, s9.p21, pIn_n, pIx_n, gv, gj, g6, e1, n3, v12, j12, i9, nN_le, nN_lt, nN_eq, nN_add, nN_mul, nN_lt0, nN_ge0, nN_gt0, nN_le0, nN_eq0, nN_eq1, nN_neN, pIn_n, pIx_n, eq_self, Nat.reduceLT, Bool.false_eq_true, Nat.add_zero, Nat.zero_add, Nat.reduceAdd, Nat.reduceMul, Nat.reduceSub, Nat.zero_le, Nat.reduceLeDiff, Nat.reduceEqDiff, Nat.le_refl, not_false_eq_true, not_true_eq_false, false_implies, true_implies, forall_const, true_and, and_true, if_true, if_false, implies_true, and_self, ne_eq, false_and, and_false, or_false, false_or, true_or, or_true]
      exact ih (c + 1) j L' _ (by omega) n1 n2 (by omega) (by omega)
    · intro j hj hP
      have gj := hl j hj
      have g6 := hc v j hv hj
      have j12 : j < 12 := by omega
      have i9 : 12 * v + j < 144 := by omega
      unfold nxP at hP
      rw [e_126_20]
      by_cases c1 : lv j = lv v - nN 1
      · have c2 : ¬ t ≤ cp (12 * v + j) := fun z => by simp [c1, z] at hP
        simp (disch := omega) only [q_aload0, q_aload0N, q_iload1, q_iload2, q_invv2, inv_1, q_put_i, pTag_1, q_get_i, pRf_s, q_if_ne, q_iload3, q_iconst, q_bipush, q_invs3_20, q_if_eq, q_iload4, q_ic_ge, q_nop, q_if_le, q_iret, q_invv0, q_istore5, q_iload5, q_get_r, q_ic_ne, q_goto, q_iast, q_iinc5, q_iald, q_istore6, q_iload6, q_ic_eq, q_istore7, q_iload7, q_isub, q_imul, q_iadd, q_ic_lt, q_iinc7, q_iinc6, q_ic_le, e_126_0, e_126_1, e_126_2, e_126_3, e_126_5, e_126_6, e_126_7, e_126_10, e_126_12, e_126_13, e_126_16, e_126_17, e_126_18, e_126_21, e_126_22, e_126_23, L_0, L_1, L_2, L_12, L_99, k_some, k_none, pRm_i, pRm_r, pRm_0, pF_1, pF_2, inv_s, s9.k0, s9.k6, s9.k9, s9.p18, s9.p21, pIn_n, pIx_n, gv, gj, g6, c1, c2, v12, j12, i9, nN_le, nN_lt, nN_eq, nN_add, nN_mul, nN_lt0, nN_ge0, nN_gt0, nN_le0, nN_eq0, nN_eq1, nN_neN, pIn_n, pIx_n, eq_self, Nat.reduceLT, Bool.false_eq_true, Nat.add_zero, Nat.zero_add, Nat.reduceAdd, Nat.reduceMul, Nat.reduceSub, Nat.zero_le, Nat.reduceLeDiff, Nat.reduceEqDiff, Nat.le_refl, not_false_eq_true, not_true_eq_false, false_implies, true_implies, forall_const, true_and, and_true, if_true, if_false, implies_true, and_self, ne_eq, false_and, and_false, or_false, false_or, true_or, or_true]
      · simp (disch := omega) only [q_aload0, q_aload0N, q_iload1, q_iload2, q_invv2, inv_1, q_put_i, pTag_1, q_get_i, pRf_s, q_if_ne, q_iload3, q_iconst, q_bipush, q_invs3_20, q_if_eq, q_iload4, q_ic_ge, q_nop, q_if_le, q_iret, q_invv0, q_istore5, q_iload5, q_get_r, q_ic_ne, q_goto, q_iast, q_iinc5, q_iald, q_istore6, q_iload6, q_ic_eq, q_istore7, q_iload7, q_isub, q_imul, q_iadd, q_ic_lt, q_iinc7, q_iinc6, q_ic_le, e_126_0, e_126_1, e_126_2, e_126_3, e_126_5, e_126_6, e_126_7, e_126_10, e_126_12, e_126_13, e_126_16, e_126_17, e_126_18, e_126_21, e_126_22, e_126_23, L_0, L_1, L_2, L_12, L_99, k_some, k_none, pRm_i, pRm_r, pRm_0, pF_1, pF_2, inv_s, s9.k0, s9.k6, s9.k9, s9.p18, s9.p21, pIn_n, pIx_n, gv, gj, g6, c1, v12, j12, i9, nN_le, nN_lt, nN_eq, nN_add, nN_mul, nN_lt0, nN_ge0, nN_gt0, nN_le0, nN_eq0, nN_eq1, nN_neN, pIn_n, pIx_n, eq_self, Nat.reduceLT, Bool.false_eq_true, Nat.add_zero, Nat.zero_add, Nat.reduceAdd, Nat.reduceMul, Nat.reduceSub, Nat.zero_le, Nat.reduceLeDiff, Nat.reduceEqDiff, Nat.le_refl, not_false_eq_true, not_true_eq_false, false_implies, true_implies, forall_const, true_and, and_true, if_true, if_false, implies_true, and_self, ne_eq, false_and, and_false, or_false, false_or, true_or, or_true]
end KCH
