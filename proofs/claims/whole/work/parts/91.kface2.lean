/-! THE LAW'S MODEL: its face, more calls -/
section KG
variable {d u n p q f g m c e K k dd : Nat} {b : Nat → Nat} {a a' ak : Nat → Int32} {img fc : Bool} {fl : Int32} {M M1 M' : pMem} {Q : pOut → pMem → Prop} {x y z v w : Int32}
theorem KO.th (h : gI M u 0 = nN k) (e : k = 0 → w = v) : KO M u k v (.inl (some (.int w))) := ⟨⟨w, rfl, e⟩, h⟩
theorem ix (h : p < m) : Ix m (nN p) := ⟨p, h, rfl⟩
theorem hasI {c : Nat} (hc : c ≤ 4000) : (iN (-1) ≤ v ∧ v ≤ nN c - nN 1) = (v = iN (-1) ∨ Ix c v) := by
  rw [nN_sub1]
  obtain ⟨z, hz, rfl⟩ := iN_ex v
  have hz' := hz
  unfold Sm at hz'
  have s1 : Sm (-1) := ⟨by decide, by decide⟩
  have s2 : Sm ((c : Int) - 1) := by unfold Sm; omega
  rw [iN_le s1 hz, iN_le hz s2, iN_eq hz s1, ← Ix_lt hc, iN_ge0 hz, show (iN z < nN c) = (z < (c : Int)) from propext (iN_lt hz (sm_n (by omega)))]
  exact propext ⟨fun h => by omega, fun h => by omega⟩
theorem MI.m1 (m : MI M u a ak img n b fl) (A : Ag (XMs u) (sI M u 0 v) M') : MI M' u a ak img n b fl := m.th.go A XMs_go
theorem A_0s (A : Ag (XMs u) (sI M u 0 v) M') : Ag (XU u) M M' := XU_0.trans (A.mono XMs_U)
theorem A_0w (A : Ag (XMw u) (sI M u 0 v) M') : Ag (XU u) M M' := XU_0.trans (A.mono XMw_U)
theorem g0 (A : Ag (XMs u) (sI M u 0 v) M') : gI M' u 0 = v := by
  rw [A.I (by rintro (z | ⟨-, z⟩) <;> omega), gI_sI, if_pos ⟨rfl, rfl⟩]
theorem g0w (A : Ag (XMw u) (sI M u 0 v) M') : gI M' u 0 = v := by
  rw [A.I (by rintro ((z | ⟨-, z⟩) | z) <;> omega), gI_sI, if_pos ⟨rfl, rfl⟩]
theorem k_takes (m : MI M u a ak img n b fl) (hw : Wg a) (hp : p < nP a) (hf : f < nF a) : mw (d + 75) 97 [.ref u, .int (nN p), .int (nN f)] M (fun o M' => KO M' u 0 (bI (sTakeF a p f = true)) o ∧ MI M' u a ak img n b fl ∧ Ag (XU u) M M') := by
  have s := m.mr.1
  have hm := m.mr
  have hp' := hw.1.p'
  have hf' := hw.1.f'
  have hn' := hw.1.n'
  simp (disch := omega) only [m_97, q_aload0, q_aload0N, q_iload1, q_invv1, inv_1, q_if_eq, q_iload2, q_if_ne, q_nop, q_iconst, q_goto, q_put_i, pTag_1, q_get_i, pRf_s, q_if_le, q_zret, q_invv2, e_97_0, e_97_1, e_97_2, e_97_3, e_97_4, L_0, L_1, k_some, k_none, pRm_i, pRm_r, pRm_0, pF_1, pF_2, inv_s, s.k0, gS_sI, isP_t hm hw.1 (ix hp), isF_t hm hw.1 (ix hf), gS_sI, gP_sI, gI_sI, Nat.add_left_cancel_iff, Nat.add_eq_left, Nat.left_eq_add, nN_le, nN_lt, nN_eq, nN_add, nN_mul, nN_lt0, nN_ge0, nN_gt0, nN_le0, nN_eq0, nN_eq1, nN_neN, pIn_n, pIx_n, eq_self, Nat.reduceLT, Bool.false_eq_true, Nat.add_zero, Nat.zero_add, Nat.reduceAdd, Nat.reduceMul, Nat.reduceSub, Nat.zero_le, Nat.reduceLeDiff, Nat.reduceEqDiff, Nat.le_refl, not_false_eq_true, not_true_eq_false, false_implies, true_implies, forall_const, true_and, and_true, if_true, if_false, implies_true, and_self, ne_eq, false_and, and_false, or_false, false_or, true_or, or_true]
  refine mw_mono (w_wouldPass (d := d + 10) (m.th (v := nN 0)).mr hw.1 hw.2.2.1 hw.2.2.2 hp hf) ?_
  rintro _ M1 ⟨rfl, A1⟩
  simp (disch := omega) only [q_aload0, q_aload0N, q_iload1, q_invv1, inv_1, q_if_eq, q_iload2, q_if_ne, q_nop, q_iconst, q_goto, q_put_i, pTag_1, q_get_i, pRf_s, q_if_le, q_zret, q_invv2, e_97_0, e_97_1, e_97_2, e_97_3, e_97_4, L_0, L_1, k_some, k_none, pRm_i, pRm_r, pRm_0, pF_1, pF_2, inv_s, bI_z, eq_self, Nat.reduceLT, Bool.false_eq_true, Nat.add_zero, Nat.zero_add, Nat.reduceAdd, Nat.reduceMul, Nat.reduceSub, Nat.zero_le, Nat.reduceLeDiff, Nat.reduceEqDiff, Nat.le_refl, not_false_eq_true, not_true_eq_false, false_implies, true_implies, forall_const, true_and, and_true, if_true, if_false, implies_true, and_self, ne_eq, false_and, and_false, or_false, false_or, true_or, or_true]
  exact ⟨KO.th (g0 A1) (fun _ => rfl), m.m1 A1, A_0s A1⟩
theorem k_takes_n1 (m : MI M u a ak img n b fl) (hw : Wf a) (hx : ¬ Ix (nP a) x) : mw (d + 4) 97 [.ref u, .int x, .int y] M (fun o M' => KO M' u 1 0 o ∧ MI M' u a ak img n b fl ∧ Ag (XU u) M M') := by
  have s := m.mr.1
  have hm := m.mr
  have hp' := hw.p'
  have hf' := hw.f'
  have hn' := hw.n'
  simp (disch := omega) only [m_97, q_aload0, q_aload0N, q_iload1, q_invv1, inv_1, q_if_eq, q_iload2, q_if_ne, q_nop, q_iconst, q_goto, q_put_i, pTag_1, q_get_i, pRf_s, q_if_le, q_zret, q_invv2, e_97_0, e_97_1, e_97_2, e_97_3, e_97_4, L_0, L_1, k_some, k_none, pRm_i, pRm_r, pRm_0, pF_1, pF_2, inv_s, s.k0, gS_sI, isP_f hm hw hx, gS_sI, gP_sI, gI_sI, Nat.add_left_cancel_iff, Nat.add_eq_left, Nat.left_eq_add, zb_0, nN_le, nN_lt, nN_eq, nN_add, nN_mul, nN_lt0, nN_ge0, nN_gt0, nN_le0, nN_eq0, nN_eq1, nN_neN, pIn_n, pIx_n, eq_self, Nat.reduceLT, Bool.false_eq_true, Nat.add_zero, Nat.zero_add, Nat.reduceAdd, Nat.reduceMul, Nat.reduceSub, Nat.zero_le, Nat.reduceLeDiff, Nat.reduceEqDiff, Nat.le_refl, not_false_eq_true, not_true_eq_false, false_implies, true_implies, forall_const, true_and, and_true, if_true, if_false, implies_true, and_self, ne_eq, false_and, and_false, or_false, false_or, true_or, or_true]
  exact ⟨KO.one.mpr (fun h => absurd h (by omega)), m.th, XU_0⟩
theorem k_takes_n2 (m : MI M u a ak img n b fl) (hw : Wf a) (hx : Ix (nP a) x) (hy : ¬ Ix (nF a) y) : mw (d + 4) 97 [.ref u, .int x, .int y] M (fun o M' => KO M' u 1 0 o ∧ MI M' u a ak img n b fl ∧ Ag (XU u) M M') := by
  have s := m.mr.1
  have hm := m.mr
  have hp' := hw.p'
  have hf' := hw.f'
  have hn' := hw.n'
  simp (disch := omega) only [m_97, q_aload0, q_aload0N, q_iload1, q_invv1, inv_1, q_if_eq, q_iload2, q_if_ne, q_nop, q_iconst, q_goto, q_put_i, pTag_1, q_get_i, pRf_s, q_if_le, q_zret, q_invv2, e_97_0, e_97_1, e_97_2, e_97_3, e_97_4, L_0, L_1, k_some, k_none, pRm_i, pRm_r, pRm_0, pF_1, pF_2, inv_s, s.k0, gS_sI, isP_t hm hw hx, isF_f hm hw hy, gS_sI, gP_sI, gI_sI, Nat.add_left_cancel_iff, Nat.add_eq_left, Nat.left_eq_add, zb_0, nN_le, nN_lt, nN_eq, nN_add, nN_mul, nN_lt0, nN_ge0, nN_gt0, nN_le0, nN_eq0, nN_eq1, nN_neN, pIn_n, pIx_n, eq_self, Nat.reduceLT, Bool.false_eq_true, Nat.add_zero, Nat.zero_add, Nat.reduceAdd, Nat.reduceMul, Nat.reduceSub, Nat.zero_le, Nat.reduceLeDiff, Nat.reduceEqDiff, Nat.le_refl, not_false_eq_true, not_true_eq_false, false_implies, true_implies, forall_const, true_and, and_true, if_true, if_false, implies_true, and_self, ne_eq, false_and, and_false, or_false, false_or, true_or, or_true]
  exact ⟨KO.one.mpr (fun h => absurd h (by omega)), m.th, XU_0⟩
theorem k_has (m : MI M u a ak img n b fl) (hw : Wf a) (hp : p < nP a) (hv : v = iN (-1) ∨ Ix (nT a) v) : mw (d + 4) 80 [.ref u, .int (nN p), .int v] M (fun o M' => KO M' u 0 (pa a p 1) o ∧ MI M' u (sHas a p v) ak img n b fl ∧ Ag (XU u) M M') := by
  have s := m.mr.1
  have hm := m.mr
  have hp' := hw.p'
  have ht' := hw.t'
  have e : gI M (u + 1) 2 = nN (nT a) := by rw [hm.2]; exact hw.t
  have i1 : 10 + 3 * p + 1 < 3346 := by omega
  have e2 : gI M (u + 1) (10 + 3 * p + 1) = pa a p 1 := by rw [hm.2]; rfl
  have e0 : ¬ (u + 1 = u) := by omega
  simp (disch := omega) only [m_80, q_aload0, q_aload0N, q_iload1, q_invv1, inv_1, q_if_eq, q_iload2, q_iconst, q_get_r, pTag_1, pRf_s, q_iald, q_isub, q_invs3_20, q_if_ne, q_nop, q_goto, q_put_i, q_get_i, q_if_le, q_iret, q_bipush, q_imul, q_iadd, q_istore3, q_iast, q_iload3, e_80_0, e_80_1, e_80_2, e_80_3, e_80_4, L_0, L_1, L_2, L_3, L_10, k_some, k_none, pRm_i, pRm_r, pRm_0, pF_1, pF_2, inv_s, s.k0, s.k1, s.p1, gS_sI, gP_sI, isP_t hm hw (ix hp), e, pIn_n, pIx_n, eq_self, Nat.reduceLT, Bool.false_eq_true, Nat.add_zero, Nat.zero_add, Nat.reduceAdd, Nat.reduceMul, Nat.reduceSub, Nat.zero_le, Nat.reduceLeDiff, Nat.reduceEqDiff, Nat.le_refl, not_false_eq_true, not_true_eq_false, false_implies, true_implies, forall_const, true_and, and_true, if_true, if_false, implies_true, and_self, ne_eq, false_and, and_false, or_false, false_or, true_or, or_true]
  rw [isI_t (by rw [hasI (by omega)]; exact hv)]
  simp (disch := omega) only [q_aload0, q_aload0N, q_iload1, q_invv1, inv_1, q_if_eq, q_iload2, q_iconst, q_get_r, pTag_1, pRf_s, q_iald, q_isub, q_invs3_20, q_if_ne, q_nop, q_goto, q_put_i, q_get_i, q_if_le, q_iret, q_bipush, q_imul, q_iadd, q_istore3, q_iast, q_iload3, e_80_0, e_80_1, e_80_2, e_80_3, e_80_4, L_0, L_1, L_2, L_3, L_10, k_some, k_none, pRm_i, pRm_r, pRm_0, pF_1, pF_2, inv_s, s.k0, s.k1, s.p1, gS_sI, gP_sI, gI_sI, e0, e2, i1, pIn_n, pIx_n, nN_mul, nN_add, nN_le0, nN_eq0, eq_self, Nat.reduceLT, Bool.false_eq_true, Nat.add_zero, Nat.zero_add, Nat.reduceAdd, Nat.reduceMul, Nat.reduceSub, Nat.zero_le, Nat.reduceLeDiff, Nat.reduceEqDiff, Nat.le_refl, not_false_eq_true, not_true_eq_false, false_implies, true_implies, forall_const, true_and, and_true, if_true, if_false, implies_true, and_self, ne_eq, false_and, and_false, or_false, false_or, true_or, or_true]
  have A : Ag (fun h k => h = u + 1) (sI M u 0 (nN 0)) (sI (sI M u 0 (nN 0)) (u + 1) (10 + 3 * p + 1) v) := Ag.one rfl
  have A0 : Ag (XU u) M (sI M u 0 (nN 0)) := XU_0
  refine ⟨KO.th ?_ (fun _ => rfl), (m.th (v := nN 0)).tab A (fun h k z => Or.inr (Or.inl z)) ⟨s, ?_⟩, A0.trans (A.mono fun h k z => ⟨by omega, by omega⟩)⟩
  · rw [gI_sI, if_neg (by omega), gI_sI, if_pos ⟨rfl, rfl⟩]
  · funext j
    rw [gI_sI]
    unfold sHas aU
    by_cases c : j = 10 + 3 * p + 1
    · rw [if_pos ⟨rfl, c⟩, if_pos c]
    · rw [if_neg (fun z => c z.2), if_neg c, gI_sI, if_neg (fun z => e0 z.1), hm.2]
theorem k_has_n1 (m : MI M u a ak img n b fl) (hw : Wf a) (hx : ¬ Ix (nP a) x) : mw (d + 4) 80 [.ref u, .int x, .int y] M (fun o M' => KO M' u 1 0 o ∧ MI M' u a ak img n b fl ∧ Ag (XU u) M M') := by
  have s := m.mr.1
  have hm := m.mr
  simp (disch := omega) only [m_80, q_aload0, q_aload0N, q_iload1, q_invv1, inv_1, q_if_eq, q_iload2, q_iconst, q_get_r, pTag_1, pRf_s, q_iald, q_isub, q_invs3_20, q_if_ne, q_nop, q_goto, q_put_i, q_get_i, q_if_le, q_iret, q_bipush, q_imul, q_iadd, q_istore3, q_iast, q_iload3, e_80_0, e_80_1, e_80_2, e_80_3, e_80_4, L_0, L_1, L_2, L_3, L_10, k_some, k_none, pRm_i, pRm_r, pRm_0, pF_1, pF_2, inv_s, s.k0, gS_sI, isP_f hm hw hx, gS_sI, gP_sI, gI_sI, Nat.add_left_cancel_iff, Nat.add_eq_left, Nat.left_eq_add, nN_le, nN_lt, nN_eq, nN_add, nN_mul, nN_lt0, nN_ge0, nN_gt0, nN_le0, nN_eq0, nN_eq1, nN_neN, pIn_n, pIx_n, eq_self, Nat.reduceLT, Bool.false_eq_true, Nat.add_zero, Nat.zero_add, Nat.reduceAdd, Nat.reduceMul, Nat.reduceSub, Nat.zero_le, Nat.reduceLeDiff, Nat.reduceEqDiff, Nat.le_refl, not_false_eq_true, not_true_eq_false, false_implies, true_implies, forall_const, true_and, and_true, if_true, if_false, implies_true, and_self, ne_eq, false_and, and_false, or_false, false_or, true_or, or_true]
  exact ⟨KO.one.mpr (fun h => absurd h (by omega)), m.th, XU_0⟩
theorem k_has_n2 (m : MI M u a ak img n b fl) (hw : Wf a) (hx : Ix (nP a) x) (hv : ¬ (v = iN (-1) ∨ Ix (nT a) v)) : mw (d + 4) 80 [.ref u, .int x, .int v] M (fun o M' => KO M' u 1 0 o ∧ MI M' u a ak img n b fl ∧ Ag (XU u) M M') := by
  have s := m.mr.1
  have hm := m.mr
  have ht' := hw.t'
  have e : gI M (u + 1) 2 = nN (nT a) := by rw [hm.2]; exact hw.t
  simp (disch := omega) only [m_80, q_aload0, q_aload0N, q_iload1, q_invv1, inv_1, q_if_eq, q_iload2, q_iconst, q_get_r, pTag_1, pRf_s, q_iald, q_isub, q_invs3_20, q_if_ne, q_nop, q_goto, q_put_i, q_get_i, q_if_le, q_iret, q_bipush, q_imul, q_iadd, q_istore3, q_iast, q_iload3, e_80_0, e_80_1, e_80_2, e_80_3, e_80_4, L_0, L_1, L_2, L_3, L_10, k_some, k_none, pRm_i, pRm_r, pRm_0, pF_1, pF_2, inv_s, s.k0, s.k1, s.p1, gS_sI, gP_sI, isP_t hm hw hx, e, pIn_n, pIx_n, eq_self, Nat.reduceLT, Bool.false_eq_true, Nat.add_zero, Nat.zero_add, Nat.reduceAdd, Nat.reduceMul, Nat.reduceSub, Nat.zero_le, Nat.reduceLeDiff, Nat.reduceEqDiff, Nat.le_refl, not_false_eq_true, not_true_eq_false, false_implies, true_implies, forall_const, true_and, and_true, if_true, if_false, implies_true, and_self, ne_eq, false_and, and_false, or_false, false_or, true_or, or_true]
  rw [isI_f (by rw [hasI (by omega)]; exact hv)]
  simp (disch := omega) only [q_aload0, q_aload0N, q_iload1, q_invv1, inv_1, q_if_eq, q_iload2, q_iconst, q_get_r, pTag_1, pRf_s, q_iald, q_isub, q_invs3_20, q_if_ne, q_nop, q_goto, q_put_i, q_get_i, q_if_le, q_iret, q_bipush, q_imul, q_iadd, q_istore3, q_iast, q_iload3, e_80_0, e_80_1, e_80_2, e_80_3, e_80_4, L_0, L_1, L_2, L_3, L_10, k_some, k_none, pRm_i, pRm_r, pRm_0, pF_1, pF_2, inv_s, s.k0, gS_sI, gS_sI, gP_sI, gI_sI, Nat.add_left_cancel_iff, Nat.add_eq_left, Nat.left_eq_add, nN_le, nN_lt, nN_eq, nN_add, nN_mul, nN_lt0, nN_ge0, nN_gt0, nN_le0, nN_eq0, nN_eq1, nN_neN, pIn_n, pIx_n, eq_self, Nat.reduceLT, Bool.false_eq_true, Nat.add_zero, Nat.zero_add, Nat.reduceAdd, Nat.reduceMul, Nat.reduceSub, Nat.zero_le, Nat.reduceLeDiff, Nat.reduceEqDiff, Nat.le_refl, not_false_eq_true, not_true_eq_false, false_implies, true_implies, forall_const, true_and, and_true, if_true, if_false, implies_true, and_self, ne_eq, false_and, and_false, or_false, false_or, true_or, or_true]
  exact ⟨KO.one.mpr (fun h => absurd h (by omega)), m.th, XU_0⟩
theorem k_give (m : MI M u a ak img n b fl) (hw : Wg a) (hp : p < nP a) (hq : q < nP a) (hne : p ≠ q) (h1 : 1 ≤ g) (h2 : g ≤ 99) (hdd : dd < 100) : mw (d + 75) 91 [.ref u, .int (nN p), .int (nN q), .int (nN g), .int (nN dd), .int (bI (fc = true))] M (fun o M' => (if sCanGive a p q g dd fc = true then KO M' u 0 (nN (nF a)) o ∧ MI M' u (gTail a p q g dd fc) ak img n b fl else KO M' u 0 (iN (-1)) o ∧ MI M' u a ak img n b fl) ∧ Ag (XU u) M M') := by
  have s := m.mr.1
  have hm := m.mr
  have hp' := hw.1.p'
  have i1 : nN 1 ≤ nN g ∧ nN g ≤ nN 99 := by rw [nN_le (by omega) (by omega), nN_le (by omega) (by omega)]; omega
  have i2 : nN 0 ≤ nN dd ∧ nN dd ≤ nN 99 := by rw [nN_le (by omega) (by omega), nN_le (by omega) (by omega)]; omega
  simp (disch := omega) only [m_91, q_aload0, q_aload0N, q_iload1, q_invv1, inv_1, q_if_eq, q_iload2, q_if_ne, q_nop, q_iconst, q_goto, q_ic_eq, q_iload3, q_bipush, q_invs3_20, q_iload4, q_put_i, pTag_1, q_get_i, pRf_s, q_if_le, q_iret, q_iload5, q_invv5, e_91_0, e_91_1, e_91_2, e_91_3, e_91_4, e_91_5, e_91_6, L_0, L_1, L_2, L_99, k_some, k_none, pRm_i, pRm_r, pRm_0, pF_1, pF_2, inv_s, s.k0, gS_sI, isP_t hm hw.1 (ix hp), isP_t hm hw.1 (ix hq), isI_t i1, isI_t i2, hne, gS_sI, gP_sI, gI_sI, Nat.add_left_cancel_iff, Nat.add_eq_left, Nat.left_eq_add, nN_le, nN_lt, nN_eq, nN_add, nN_mul, nN_lt0, nN_ge0, nN_gt0, nN_le0, nN_eq0, nN_eq1, nN_neN, pIn_n, pIx_n, eq_self, Nat.reduceLT, Bool.false_eq_true, Nat.add_zero, Nat.zero_add, Nat.reduceAdd, Nat.reduceMul, Nat.reduceSub, Nat.zero_le, Nat.reduceLeDiff, Nat.reduceEqDiff, Nat.le_refl, not_false_eq_true, not_true_eq_false, false_implies, true_implies, forall_const, true_and, and_true, if_true, if_false, implies_true, and_self, ne_eq, false_and, and_false, or_false, false_or, true_or, or_true]
  refine mw_mono (w_givesM (d := d + 8) (fc := fc) (m.th (v := nN 0)).mr hw.1 hw.2.2.1 hw.2.2.2 hw.2.1 hp hq (by omega) hdd) ?_
  rintro o M1 ⟨h, A1⟩
  by_cases c : sCanGive a p q g dd fc = true
  · simp only [if_pos c] at h ⊢
    obtain ⟨rfl, r1⟩ := h
    simp (disch := omega) only [q_aload0, q_aload0N, q_iload1, q_invv1, inv_1, q_if_eq, q_iload2, q_if_ne, q_nop, q_iconst, q_goto, q_ic_eq, q_iload3, q_bipush, q_invs3_20, q_iload4, q_put_i, pTag_1, q_get_i, pRf_s, q_if_le, q_iret, q_iload5, q_invv5, e_91_0, e_91_1, e_91_2, e_91_3, e_91_4, e_91_5, e_91_6, L_0, L_1, L_2, L_99, k_some, k_none, pRm_i, pRm_r, pRm_0, pF_1, pF_2, inv_s, eq_self, Nat.reduceLT, Bool.false_eq_true, Nat.add_zero, Nat.zero_add, Nat.reduceAdd, Nat.reduceMul, Nat.reduceSub, Nat.zero_le, Nat.reduceLeDiff, Nat.reduceEqDiff, Nat.le_refl, not_false_eq_true, not_true_eq_false, false_implies, true_implies, forall_const, true_and, and_true, if_true, if_false, implies_true, and_self, ne_eq, false_and, and_false, or_false, false_or, true_or, or_true]
    exact ⟨⟨KO.th (g0w A1) (fun _ => rfl), (m.th (v := nN 0)).tab A1 XMw_tab r1⟩, A_0w A1⟩
  · simp only [if_neg c] at h ⊢
    obtain ⟨rfl, r1⟩ := h
    simp (disch := omega) only [q_aload0, q_aload0N, q_iload1, q_invv1, inv_1, q_if_eq, q_iload2, q_if_ne, q_nop, q_iconst, q_goto, q_ic_eq, q_iload3, q_bipush, q_invs3_20, q_iload4, q_put_i, pTag_1, q_get_i, pRf_s, q_if_le, q_iret, q_iload5, q_invv5, e_91_0, e_91_1, e_91_2, e_91_3, e_91_4, e_91_5, e_91_6, L_0, L_1, L_2, L_99, k_some, k_none, pRm_i, pRm_r, pRm_0, pF_1, pF_2, inv_s, eq_self, Nat.reduceLT, Bool.false_eq_true, Nat.add_zero, Nat.zero_add, Nat.reduceAdd, Nat.reduceMul, Nat.reduceSub, Nat.zero_le, Nat.reduceLeDiff, Nat.reduceEqDiff, Nat.le_refl, not_false_eq_true, not_true_eq_false, false_implies, true_implies, forall_const, true_and, and_true, if_true, if_false, implies_true, and_self, ne_eq, false_and, and_false, or_false, false_or, true_or, or_true]
    exact ⟨⟨KO.th (g0w A1) (fun _ => rfl), (m.th (v := nN 0)).tab A1 XMw_tab r1⟩, A_0w A1⟩
theorem k_give_n1 (m : MI M u a ak img n b fl) (hw : Wf a) (hx : ¬ Ix (nP a) x) : mw (d + 4) 91 [.ref u, .int x, .int y, .int z, .int v, .int w] M (fun o M' => KO M' u 1 0 o ∧ MI M' u a ak img n b fl ∧ Ag (XU u) M M') := by
  have s := m.mr.1
  have hm := m.mr
  have hp' := hw.p'
  have hf' := hw.f'
  have hn' := hw.n'
  simp (disch := omega) only [m_91, q_aload0, q_aload0N, q_iload1, q_invv1, inv_1, q_if_eq, q_iload2, q_if_ne, q_nop, q_iconst, q_goto, q_ic_eq, q_iload3, q_bipush, q_invs3_20, q_iload4, q_put_i, pTag_1, q_get_i, pRf_s, q_if_le, q_iret, q_iload5, q_invv5, e_91_0, e_91_1, e_91_2, e_91_3, e_91_4, e_91_5, e_91_6, L_0, L_1, L_2, L_99, k_some, k_none, pRm_i, pRm_r, pRm_0, pF_1, pF_2, inv_s, s.k0, gS_sI, isP_f hm hw hx, gS_sI, gP_sI, gI_sI, Nat.add_left_cancel_iff, Nat.add_eq_left, Nat.left_eq_add, zb_0, nN_le, nN_lt, nN_eq, nN_add, nN_mul, nN_lt0, nN_ge0, nN_gt0, nN_le0, nN_eq0, nN_eq1, nN_neN, pIn_n, pIx_n, eq_self, Nat.reduceLT, Bool.false_eq_true, Nat.add_zero, Nat.zero_add, Nat.reduceAdd, Nat.reduceMul, Nat.reduceSub, Nat.zero_le, Nat.reduceLeDiff, Nat.reduceEqDiff, Nat.le_refl, not_false_eq_true, not_true_eq_false, false_implies, true_implies, forall_const, true_and, and_true, if_true, if_false, implies_true, and_self, ne_eq, false_and, and_false, or_false, false_or, true_or, or_true]
  exact ⟨KO.one.mpr (fun h => absurd h (by omega)), m.th, XU_0⟩
theorem k_give_n2 (m : MI M u a ak img n b fl) (hw : Wf a) (hx : Ix (nP a) x) (hy : ¬ Ix (nP a) y) : mw (d + 4) 91 [.ref u, .int x, .int y, .int z, .int v, .int w] M (fun o M' => KO M' u 1 0 o ∧ MI M' u a ak img n b fl ∧ Ag (XU u) M M') := by
  have s := m.mr.1
  have hm := m.mr
  have hp' := hw.p'
  have hf' := hw.f'
  have hn' := hw.n'
  simp (disch := omega) only [m_91, q_aload0, q_aload0N, q_iload1, q_invv1, inv_1, q_if_eq, q_iload2, q_if_ne, q_nop, q_iconst, q_goto, q_ic_eq, q_iload3, q_bipush, q_invs3_20, q_iload4, q_put_i, pTag_1, q_get_i, pRf_s, q_if_le, q_iret, q_iload5, q_invv5, e_91_0, e_91_1, e_91_2, e_91_3, e_91_4, e_91_5, e_91_6, L_0, L_1, L_2, L_99, k_some, k_none, pRm_i, pRm_r, pRm_0, pF_1, pF_2, inv_s, s.k0, gS_sI, isP_t hm hw hx, isP_f hm hw hy, gS_sI, gP_sI, gI_sI, Nat.add_left_cancel_iff, Nat.add_eq_left, Nat.left_eq_add, zb_0, nN_le, nN_lt, nN_eq, nN_add, nN_mul, nN_lt0, nN_ge0, nN_gt0, nN_le0, nN_eq0, nN_eq1, nN_neN, pIn_n, pIx_n, eq_self, Nat.reduceLT, Bool.false_eq_true, Nat.add_zero, Nat.zero_add, Nat.reduceAdd, Nat.reduceMul, Nat.reduceSub, Nat.zero_le, Nat.reduceLeDiff, Nat.reduceEqDiff, Nat.le_refl, not_false_eq_true, not_true_eq_false, false_implies, true_implies, forall_const, true_and, and_true, if_true, if_false, implies_true, and_self, ne_eq, false_and, and_false, or_false, false_or, true_or, or_true]
  exact ⟨KO.one.mpr (fun h => absurd h (by omega)), m.th, XU_0⟩
theorem k_give_n3 (m : MI M u a ak img n b fl) (hw : Wf a) (hx : Ix (nP a) x) : mw (d + 4) 91 [.ref u, .int x, .int x, .int z, .int v, .int w] M (fun o M' => KO M' u 2 0 o ∧ MI M' u a ak img n b fl ∧ Ag (XU u) M M') := by
  have s := m.mr.1
  have hm := m.mr
  have hp' := hw.p'
  have hf' := hw.f'
  have hn' := hw.n'
  simp (disch := omega) only [m_91, q_aload0, q_aload0N, q_iload1, q_invv1, inv_1, q_if_eq, q_iload2, q_if_ne, q_nop, q_iconst, q_goto, q_ic_eq, q_iload3, q_bipush, q_invs3_20, q_iload4, q_put_i, pTag_1, q_get_i, pRf_s, q_if_le, q_iret, q_iload5, q_invv5, e_91_0, e_91_1, e_91_2, e_91_3, e_91_4, e_91_5, e_91_6, L_0, L_1, L_2, L_99, k_some, k_none, pRm_i, pRm_r, pRm_0, pF_1, pF_2, inv_s, s.k0, gS_sI, isP_t hm hw hx, gS_sI, gP_sI, gI_sI, Nat.add_left_cancel_iff, Nat.add_eq_left, Nat.left_eq_add, zb_0, nN_le, nN_lt, nN_eq, nN_add, nN_mul, nN_lt0, nN_ge0, nN_gt0, nN_le0, nN_eq0, nN_eq1, nN_neN, pIn_n, pIx_n, eq_self, Nat.reduceLT, Bool.false_eq_true, Nat.add_zero, Nat.zero_add, Nat.reduceAdd, Nat.reduceMul, Nat.reduceSub, Nat.zero_le, Nat.reduceLeDiff, Nat.reduceEqDiff, Nat.le_refl, not_false_eq_true, not_true_eq_false, false_implies, true_implies, forall_const, true_and, and_true, if_true, if_false, implies_true, and_self, ne_eq, false_and, and_false, or_false, false_or, true_or, or_true]
  exact ⟨KO.one.mpr (fun h => absurd h (by omega)), m.th, XU_0⟩
theorem k_give_n4 (m : MI M u a ak img n b fl) (hw : Wf a) (hp : p < nP a) (hq : q < nP a) (hne : p ≠ q) (hz : ¬ Wh z) : mw (d + 4) 91 [.ref u, .int (nN p), .int (nN q), .int z, .int v, .int w] M (fun o M' => KO M' u 2 0 o ∧ MI M' u a ak img n b fl ∧ Ag (XU u) M M') := by
  have s := m.mr.1
  have hm := m.mr
  have hp' := hw.p'
  have hf' := hw.f'
  have hn' := hw.n'
  simp (disch := omega) only [m_91, q_aload0, q_aload0N, q_iload1, q_invv1, inv_1, q_if_eq, q_iload2, q_if_ne, q_nop, q_iconst, q_goto, q_ic_eq, q_iload3, q_bipush, q_invs3_20, q_iload4, q_put_i, pTag_1, q_get_i, pRf_s, q_if_le, q_iret, q_iload5, q_invv5, e_91_0, e_91_1, e_91_2, e_91_3, e_91_4, e_91_5, e_91_6, L_0, L_1, L_2, L_99, k_some, k_none, pRm_i, pRm_r, pRm_0, pF_1, pF_2, inv_s, s.k0, gS_sI, isP_t hm hw (ix hp), isP_t hm hw (ix hq), hne, isI_f (show ¬ (nN 1 ≤ z ∧ z ≤ nN 99) from by rw [Wh_eq]; exact hz), gS_sI, gP_sI, gI_sI, Nat.add_left_cancel_iff, Nat.add_eq_left, Nat.left_eq_add, zb_0, nN_le, nN_lt, nN_eq, nN_add, nN_mul, nN_lt0, nN_ge0, nN_gt0, nN_le0, nN_eq0, nN_eq1, nN_neN, pIn_n, pIx_n, eq_self, Nat.reduceLT, Bool.false_eq_true, Nat.add_zero, Nat.zero_add, Nat.reduceAdd, Nat.reduceMul, Nat.reduceSub, Nat.zero_le, Nat.reduceLeDiff, Nat.reduceEqDiff, Nat.le_refl, not_false_eq_true, not_true_eq_false, false_implies, true_implies, forall_const, true_and, and_true, if_true, if_false, implies_true, and_self, ne_eq, false_and, and_false, or_false, false_or, true_or, or_true]
  exact ⟨KO.one.mpr (fun h => absurd h (by omega)), m.th, XU_0⟩
theorem k_give_n5 (m : MI M u a ak img n b fl) (hw : Wf a) (hp : p < nP a) (hq : q < nP a) (hne : p ≠ q) (hz : Wh z) (hv : ¬ (0 ≤ v ∧ v ≤ nN 99)) : mw (d + 4) 91 [.ref u, .int (nN p), .int (nN q), .int z, .int v, .int w] M (fun o M' => KO M' u 2 0 o ∧ MI M' u a ak img n b fl ∧ Ag (XU u) M M') := by
  have s := m.mr.1
  have hm := m.mr
  have hp' := hw.p'
  have hf' := hw.f'
  have hn' := hw.n'
  simp (disch := omega) only [m_91, q_aload0, q_aload0N, q_iload1, q_invv1, inv_1, q_if_eq, q_iload2, q_if_ne, q_nop, q_iconst, q_goto, q_ic_eq, q_iload3, q_bipush, q_invs3_20, q_iload4, q_put_i, pTag_1, q_get_i, pRf_s, q_if_le, q_iret, q_iload5, q_invv5, e_91_0, e_91_1, e_91_2, e_91_3, e_91_4, e_91_5, e_91_6, L_0, L_1, L_2, L_99, k_some, k_none, pRm_i, pRm_r, pRm_0, pF_1, pF_2, inv_s, s.k0, gS_sI, isP_t hm hw (ix hp), isP_t hm hw (ix hq), hne, isI_t (show nN 1 ≤ z ∧ z ≤ nN 99 from by rw [Wh_eq]; exact hz), isI_f (show ¬ (nN 0 ≤ v ∧ v ≤ nN 99) from by rw [← nN_0]; exact hv), gS_sI, gP_sI, gI_sI, Nat.add_left_cancel_iff, Nat.add_eq_left, Nat.left_eq_add, zb_0, nN_le, nN_lt, nN_eq, nN_add, nN_mul, nN_lt0, nN_ge0, nN_gt0, nN_le0, nN_eq0, nN_eq1, nN_neN, pIn_n, pIx_n, eq_self, Nat.reduceLT, Bool.false_eq_true, Nat.add_zero, Nat.zero_add, Nat.reduceAdd, Nat.reduceMul, Nat.reduceSub, Nat.zero_le, Nat.reduceLeDiff, Nat.reduceEqDiff, Nat.le_refl, not_false_eq_true, not_true_eq_false, false_implies, true_implies, forall_const, true_and, and_true, if_true, if_false, implies_true, and_self, ne_eq, false_and, and_false, or_false, false_or, true_or, or_true]
  exact ⟨KO.one.mpr (fun h => absurd h (by omega)), m.th, XU_0⟩
theorem k_pass (m : MI M u a ak img n b fl) (hw : Wg a) (hf : f < nF a) (hp : p < nP a) (hne : ¬ fa a f 2 = nN p) : mw (d + 75) 92 [.ref u, .int (nN f), .int (nN p)] M (fun o M' => (if sCanP a f p = true then KO M' u 0 (sPassV a f p) o ∧ MI M' u (sPassA a f p) ak img n b fl else KO M' u 0 (iN (-1)) o ∧ MI M' u a ak img n b fl) ∧ Ag (XU u) M M') := by
  have s := m.mr.1
  have hm := m.mr
  have hp' := hw.1.p'
  have hf' := hw.1.f'
  simp (disch := first | omega | rfl | (repeat' (first | exact gS_sI | exact gP_sI | refine Eq.trans gS_sI ?_ | refine Eq.trans gP_sI ?_ | refine Eq.trans (gIr_sI (by omega)) ?_ | rfl))) only [m_92, q_aload0, q_aload0N, q_iload1, q_invv1, inv_1, q_if_eq, q_iload2, q_if_ne, q_nop, q_iconst, q_goto, q_invv2, q_ic_ne, q_put_i, pTag_1, q_get_i, pRf_s, q_if_le, q_iret, e_92_0, e_92_1, e_92_2, e_92_3, e_92_4, e_92_5, L_0, L_1, L_2, k_some, k_none, pRm_i, pRm_r, pRm_0, pF_1, pF_2, inv_s, s.k0, gS_sI, isF_t hm hw.1 (ix hf), isP_t hm hw.1 (ix hp), w_ofX hm, hne, gS_sI, gP_sI, gI_sI, Nat.add_left_cancel_iff, Nat.add_eq_left, Nat.left_eq_add, nN_le, nN_lt, nN_eq, nN_add, nN_mul, nN_lt0, nN_ge0, nN_gt0, nN_le0, nN_eq0, nN_eq1, nN_neN, pIn_n, pIx_n, eq_self, Nat.reduceLT, Bool.false_eq_true, Nat.add_zero, Nat.zero_add, Nat.reduceAdd, Nat.reduceMul, Nat.reduceSub, Nat.zero_le, Nat.reduceLeDiff, Nat.reduceEqDiff, Nat.le_refl, not_false_eq_true, not_true_eq_false, false_implies, true_implies, forall_const, true_and, and_true, if_true, if_false, implies_true, and_self, ne_eq, false_and, and_false, or_false, false_or, true_or, or_true]
  refine mw_mono (w_passesM (d := d + 7) (m.th (v := nN 0)).mr hw.1 hw.2.2.1 hw.2.2.2 hf hp) ?_
  rintro o M1 ⟨h, A1⟩
  by_cases c : sCanP a f p = true
  · simp only [if_pos c] at h ⊢
    obtain ⟨rfl, r1⟩ := h
    simp (disch := omega) only [q_aload0, q_aload0N, q_iload1, q_invv1, inv_1, q_if_eq, q_iload2, q_if_ne, q_nop, q_iconst, q_goto, q_invv2, q_ic_ne, q_put_i, pTag_1, q_get_i, pRf_s, q_if_le, q_iret, e_92_0, e_92_1, e_92_2, e_92_3, e_92_4, e_92_5, L_0, L_1, L_2, k_some, k_none, pRm_i, pRm_r, pRm_0, pF_1, pF_2, inv_s, eq_self, Nat.reduceLT, Bool.false_eq_true, Nat.add_zero, Nat.zero_add, Nat.reduceAdd, Nat.reduceMul, Nat.reduceSub, Nat.zero_le, Nat.reduceLeDiff, Nat.reduceEqDiff, Nat.le_refl, not_false_eq_true, not_true_eq_false, false_implies, true_implies, forall_const, true_and, and_true, if_true, if_false, implies_true, and_self, ne_eq, false_and, and_false, or_false, false_or, true_or, or_true]
    exact ⟨⟨KO.th (g0w A1) (fun _ => rfl), (m.th (v := nN 0)).tab A1 XMw_tab r1⟩, A_0w A1⟩
  · simp only [if_neg c] at h ⊢
    obtain ⟨rfl, r1⟩ := h
    simp (disch := omega) only [q_aload0, q_aload0N, q_iload1, q_invv1, inv_1, q_if_eq, q_iload2, q_if_ne, q_nop, q_iconst, q_goto, q_invv2, q_ic_ne, q_put_i, pTag_1, q_get_i, pRf_s, q_if_le, q_iret, e_92_0, e_92_1, e_92_2, e_92_3, e_92_4, e_92_5, L_0, L_1, L_2, k_some, k_none, pRm_i, pRm_r, pRm_0, pF_1, pF_2, inv_s, eq_self, Nat.reduceLT, Bool.false_eq_true, Nat.add_zero, Nat.zero_add, Nat.reduceAdd, Nat.reduceMul, Nat.reduceSub, Nat.zero_le, Nat.reduceLeDiff, Nat.reduceEqDiff, Nat.le_refl, not_false_eq_true, not_true_eq_false, false_implies, true_implies, forall_const, true_and, and_true, if_true, if_false, implies_true, and_self, ne_eq, false_and, and_false, or_false, false_or, true_or, or_true]
    exact ⟨⟨KO.th (g0w A1) (fun _ => rfl), (m.th (v := nN 0)).tab A1 XMw_tab r1⟩, A_0w A1⟩
theorem k_pass_n1 (m : MI M u a ak img n b fl) (hw : Wf a) (hx : ¬ Ix (nF a) x) : mw (d + 4) 92 [.ref u, .int x, .int y] M (fun o M' => KO M' u 1 0 o ∧ MI M' u a ak img n b fl ∧ Ag (XU u) M M') := by
  have s := m.mr.1
  have hm := m.mr
  have hp' := hw.p'
  have hf' := hw.f'
  have hn' := hw.n'
  simp (disch := omega) only [m_92, q_aload0, q_aload0N, q_iload1, q_invv1, inv_1, q_if_eq, q_iload2, q_if_ne, q_nop, q_iconst, q_goto, q_invv2, q_ic_ne, q_put_i, pTag_1, q_get_i, pRf_s, q_if_le, q_iret, e_92_0, e_92_1, e_92_2, e_92_3, e_92_4, e_92_5, L_0, L_1, L_2, k_some, k_none, pRm_i, pRm_r, pRm_0, pF_1, pF_2, inv_s, s.k0, gS_sI, isF_f hm hw hx, gS_sI, gP_sI, gI_sI, Nat.add_left_cancel_iff, Nat.add_eq_left, Nat.left_eq_add, zb_0, nN_le, nN_lt, nN_eq, nN_add, nN_mul, nN_lt0, nN_ge0, nN_gt0, nN_le0, nN_eq0, nN_eq1, nN_neN, pIn_n, pIx_n, eq_self, Nat.reduceLT, Bool.false_eq_true, Nat.add_zero, Nat.zero_add, Nat.reduceAdd, Nat.reduceMul, Nat.reduceSub, Nat.zero_le, Nat.reduceLeDiff, Nat.reduceEqDiff, Nat.le_refl, not_false_eq_true, not_true_eq_false, false_implies, true_implies, forall_const, true_and, and_true, if_true, if_false, implies_true, and_self, ne_eq, false_and, and_false, or_false, false_or, true_or, or_true]
  exact ⟨KO.one.mpr (fun h => absurd h (by omega)), m.th, XU_0⟩
theorem k_pass_n2 (m : MI M u a ak img n b fl) (hw : Wf a) (hx : Ix (nF a) x) (hy : ¬ Ix (nP a) y) : mw (d + 4) 92 [.ref u, .int x, .int y] M (fun o M' => KO M' u 1 0 o ∧ MI M' u a ak img n b fl ∧ Ag (XU u) M M') := by
  have s := m.mr.1
  have hm := m.mr
  have hp' := hw.p'
  have hf' := hw.f'
  have hn' := hw.n'
  simp (disch := omega) only [m_92, q_aload0, q_aload0N, q_iload1, q_invv1, inv_1, q_if_eq, q_iload2, q_if_ne, q_nop, q_iconst, q_goto, q_invv2, q_ic_ne, q_put_i, pTag_1, q_get_i, pRf_s, q_if_le, q_iret, e_92_0, e_92_1, e_92_2, e_92_3, e_92_4, e_92_5, L_0, L_1, L_2, k_some, k_none, pRm_i, pRm_r, pRm_0, pF_1, pF_2, inv_s, s.k0, gS_sI, isF_t hm hw hx, isP_f hm hw hy, gS_sI, gP_sI, gI_sI, Nat.add_left_cancel_iff, Nat.add_eq_left, Nat.left_eq_add, zb_0, nN_le, nN_lt, nN_eq, nN_add, nN_mul, nN_lt0, nN_ge0, nN_gt0, nN_le0, nN_eq0, nN_eq1, nN_neN, pIn_n, pIx_n, eq_self, Nat.reduceLT, Bool.false_eq_true, Nat.add_zero, Nat.zero_add, Nat.reduceAdd, Nat.reduceMul, Nat.reduceSub, Nat.zero_le, Nat.reduceLeDiff, Nat.reduceEqDiff, Nat.le_refl, not_false_eq_true, not_true_eq_false, false_implies, true_implies, forall_const, true_and, and_true, if_true, if_false, implies_true, and_self, ne_eq, false_and, and_false, or_false, false_or, true_or, or_true]
  exact ⟨KO.one.mpr (fun h => absurd h (by omega)), m.th, XU_0⟩
theorem k_pass_n3 (m : MI M u a ak img n b fl) (hw : Wf a) (hf : f < nF a) (hp : p < nP a) (he : fa a f 2 = nN p) : mw (d + 4) 92 [.ref u, .int (nN f), .int (nN p)] M (fun o M' => KO M' u 2 0 o ∧ MI M' u a ak img n b fl ∧ Ag (XU u) M M') := by
  have s := m.mr.1
  have hm := m.mr
  have hf' := hw.f'
  simp (disch := first | omega | rfl | (repeat' (first | exact gS_sI | exact gP_sI | refine Eq.trans gS_sI ?_ | refine Eq.trans gP_sI ?_ | refine Eq.trans (gIr_sI (by omega)) ?_ | rfl))) only [m_92, q_aload0, q_aload0N, q_iload1, q_invv1, inv_1, q_if_eq, q_iload2, q_if_ne, q_nop, q_iconst, q_goto, q_invv2, q_ic_ne, q_put_i, pTag_1, q_get_i, pRf_s, q_if_le, q_iret, e_92_0, e_92_1, e_92_2, e_92_3, e_92_4, e_92_5, L_0, L_1, L_2, k_some, k_none, pRm_i, pRm_r, pRm_0, pF_1, pF_2, inv_s, s.k0, gS_sI, isF_t hm hw (ix hf), isP_t hm hw (ix hp), w_ofX hm, he, gS_sI, gP_sI, gI_sI, Nat.add_left_cancel_iff, Nat.add_eq_left, Nat.left_eq_add, nN_le, nN_lt, nN_eq, nN_add, nN_mul, nN_lt0, nN_ge0, nN_gt0, nN_le0, nN_eq0, nN_eq1, nN_neN, pIn_n, pIx_n, eq_self, Nat.reduceLT, Bool.false_eq_true, Nat.add_zero, Nat.zero_add, Nat.reduceAdd, Nat.reduceMul, Nat.reduceSub, Nat.zero_le, Nat.reduceLeDiff, Nat.reduceEqDiff, Nat.le_refl, not_false_eq_true, not_true_eq_false, false_implies, true_implies, forall_const, true_and, and_true, if_true, if_false, implies_true, and_self, ne_eq, false_and, and_false, or_false, false_or, true_or, or_true]
  exact ⟨KO.one.mpr (fun h => absurd h (by omega)), m.th, XU_0⟩
theorem k_call (m : MI M u a ak img n b fl) (hw : Wf a) (hf : f < nF a) : mw (d + 4) 93 [.ref u, .int (nN f)] M (fun o M' => (if fa a f 2 = iN (-1) then KO M' u 0 (iN (-1)) o ∧ MI M' u a ak img n b fl else KO M' u 0 (sWorth (fa a f 1) (fa a f 3)) o ∧ MI M' u (sGone a f) ak img n b fl) ∧ Ag (XU u) M M') := by
  have s := m.mr.1
  have hm := m.mr
  have hf' := hw.f'
  have hm0 := (m.th (v := nN 0)).mr
  have A0 : Ag (XU u) M (sI M u 0 (nN 0)) := XU_0
  have e0 : ¬ (u + 1 = u) := by omega
  by_cases c : fa a f 2 = iN (-1)
  · simp (disch := first | omega | rfl | (repeat' (first | exact gS_sI | exact gP_sI | refine Eq.trans gS_sI ?_ | refine Eq.trans gP_sI ?_ | refine Eq.trans (gIr_sI (by omega)) ?_ | rfl))) only [m_93, q_aload0, q_aload0N, q_iload1, q_invv1, inv_1, q_if_ne, q_iconst, q_goto, q_nop, q_put_i, pTag_1, q_get_i, pRf_s, q_if_le, q_iret, q_invv2, q_ic_ne, q_invv3, q_invs2_20, e_93_0, e_93_1, e_93_2, e_93_3, e_93_4, L_0, L_1, L_2, L_3, k_some, k_none, pRm_i, pRm_r, pRm_0, pF_1, pF_2, inv_s, s.k0, gS_sI, isF_t hm hw (ix hf), w_ofX hm, c, gS_sI, gP_sI, gI_sI, Nat.add_left_cancel_iff, Nat.add_eq_left, Nat.left_eq_add, nN_le, nN_lt, nN_eq, nN_add, nN_mul, nN_lt0, nN_ge0, nN_gt0, nN_le0, nN_eq0, nN_eq1, nN_neN, pIn_n, pIx_n, eq_self, Nat.reduceLT, Bool.false_eq_true, Nat.add_zero, Nat.zero_add, Nat.reduceAdd, Nat.reduceMul, Nat.reduceSub, Nat.zero_le, Nat.reduceLeDiff, Nat.reduceEqDiff, Nat.le_refl, not_false_eq_true, not_true_eq_false, false_implies, true_implies, forall_const, true_and, and_true, if_true, if_false, implies_true, and_self, ne_eq, false_and, and_false, or_false, false_or, true_or, or_true]
    exact ⟨⟨KO.one.mpr (fun _ => rfl), m.th⟩, XU_0⟩
  · have hm2 : MR (sI (sI M u 0 (nN 0)) (u + 1) (140 + 20 * f + 2) (iN (-1))) u (sGone a f) := hm0.gone
    have f1 : fa (sGone a f) f 1 = fa a f 1 := by unfold sGone; rw [fS_ne (by omega) (by omega) (Or.inr (by omega))]
    have f3 : fa (sGone a f) f 3 = fa a f 3 := by unfold sGone; rw [fS_ne (by omega) (by omega) (Or.inr (by omega))]
    simp (disch := first | omega | rfl | (repeat' (first | exact gS_sI | exact gP_sI | refine Eq.trans gS_sI ?_ | refine Eq.trans gP_sI ?_ | refine Eq.trans (gIr_sI (by omega)) ?_ | rfl))) only [m_93, q_aload0, q_aload0N, q_iload1, q_invv1, inv_1, q_if_ne, q_iconst, q_goto, q_nop, q_put_i, pTag_1, q_get_i, pRf_s, q_if_le, q_iret, q_invv2, q_ic_ne, q_invv3, q_invs2_20, e_93_0, e_93_1, e_93_2, e_93_3, L_0, L_1, L_2, L_3, k_some, k_none, pRm_i, pRm_r, pRm_0, pF_1, pF_2, inv_s, s.k0, gS_sI, isF_t hm hw (ix hf), w_ofX hm, c, gS_sI, gP_sI, gI_sI, Nat.add_left_cancel_iff, Nat.add_eq_left, Nat.left_eq_add, nN_le, nN_lt, nN_eq, nN_add, nN_mul, nN_lt0, nN_ge0, nN_gt0, nN_le0, nN_eq0, nN_eq1, nN_neN, pIn_n, pIx_n, eq_self, Nat.reduceLT, Bool.false_eq_true, Nat.add_zero, Nat.zero_add, Nat.reduceAdd, Nat.reduceMul, Nat.reduceSub, Nat.zero_le, Nat.reduceLeDiff, Nat.reduceEqDiff, Nat.le_refl, not_false_eq_true, not_true_eq_false, false_implies, true_implies, forall_const, true_and, and_true, if_true, if_false, implies_true, and_self, ne_eq, false_and, and_false, or_false, false_or, true_or, or_true]
    rw [e_93_4]
    simp (disch := first | omega | rfl | (repeat' (first | exact gS_sI | exact gP_sI | refine Eq.trans gS_sI ?_ | refine Eq.trans gP_sI ?_ | refine Eq.trans (gIr_sI (by omega)) ?_ | rfl))) only [q_aload0, q_aload0N, q_iload1, q_invv1, inv_1, q_if_ne, q_iconst, q_goto, q_nop, q_put_i, pTag_1, q_get_i, pRf_s, q_if_le, q_iret, q_invv2, q_ic_ne, q_invv3, q_invs2_20, e_93_0, e_93_1, e_93_2, e_93_3, L_0, L_1, L_2, L_3, k_some, k_none, pRm_i, pRm_r, pRm_0, pF_1, pF_2, inv_s, s.k0, gS_sI, gP_sI, w_setsX hm0, eq_self, Nat.reduceLT, Bool.false_eq_true, Nat.add_zero, Nat.zero_add, Nat.reduceAdd, Nat.reduceMul, Nat.reduceSub, Nat.zero_le, Nat.reduceLeDiff, Nat.reduceEqDiff, Nat.le_refl, not_false_eq_true, not_true_eq_false, false_implies, true_implies, forall_const, true_and, and_true, if_true, if_false, implies_true, and_self, ne_eq, false_and, and_false, or_false, false_or, true_or, or_true]
    simp (disch := first | omega | rfl | (repeat' (first | exact gS_sI | exact gP_sI | refine Eq.trans gS_sI ?_ | refine Eq.trans gP_sI ?_ | refine Eq.trans (gIr_sI (by omega)) ?_ | rfl))) only [q_aload0, q_aload0N, q_iload1, q_invv1, inv_1, q_if_ne, q_iconst, q_goto, q_nop, q_put_i, pTag_1, q_get_i, pRf_s, q_if_le, q_iret, q_invv2, q_ic_ne, q_invv3, q_invs2_20, e_93_0, e_93_1, e_93_2, e_93_3, L_0, L_1, L_2, L_3, k_some, k_none, pRm_i, pRm_r, pRm_0, pF_1, pF_2, inv_s, s.k0, gS_sI, gP_sI, w_ofX hm2, f1, f3, w_worthOf, eq_self, Nat.reduceLT, Bool.false_eq_true, Nat.add_zero, Nat.zero_add, Nat.reduceAdd, Nat.reduceMul, Nat.reduceSub, Nat.zero_le, Nat.reduceLeDiff, Nat.reduceEqDiff, Nat.le_refl, not_false_eq_true, not_true_eq_false, false_implies, true_implies, forall_const, true_and, and_true, if_true, if_false, implies_true, and_self, ne_eq, false_and, and_false, or_false, false_or, true_or, or_true]
    have A : Ag (fun h k => h = u + 1) (sI M u 0 (nN 0)) (sI (sI M u 0 (nN 0)) (u + 1) (140 + 20 * f + 2) (iN (-1))) := Ag.one rfl
    refine ⟨⟨KO.th ?_ (fun _ => rfl), (m.th (v := nN 0)).tab A (fun h k z => Or.inr (Or.inl z)) hm2⟩, A0.trans (A.mono fun h k z => ⟨by omega, by omega⟩)⟩
    rw [gI_sI, if_neg (by omega), gI_sI, if_pos ⟨rfl, rfl⟩]
theorem k_call_n (m : MI M u a ak img n b fl) (hw : Wf a) (hx : ¬ Ix (nF a) x) : mw (d + 4) 93 [.ref u, .int x] M (fun o M' => KO M' u 1 0 o ∧ MI M' u a ak img n b fl ∧ Ag (XU u) M M') := by
  have s := m.mr.1
  have hm := m.mr
  have hp' := hw.p'
  have hf' := hw.f'
  have hn' := hw.n'
  simp (disch := omega) only [m_93, q_aload0, q_aload0N, q_iload1, q_invv1, inv_1, q_if_ne, q_iconst, q_goto, q_nop, q_put_i, pTag_1, q_get_i, pRf_s, q_if_le, q_iret, q_invv2, q_ic_ne, q_invv3, q_invs2_20, e_93_0, e_93_1, e_93_2, e_93_3, e_93_4, L_0, L_1, L_2, L_3, k_some, k_none, pRm_i, pRm_r, pRm_0, pF_1, pF_2, inv_s, s.k0, gS_sI, isF_f hm hw hx, gS_sI, gP_sI, gI_sI, Nat.add_left_cancel_iff, Nat.add_eq_left, Nat.left_eq_add, zb_0, nN_le, nN_lt, nN_eq, nN_add, nN_mul, nN_lt0, nN_ge0, nN_gt0, nN_le0, nN_eq0, nN_eq1, nN_neN, pIn_n, pIx_n, eq_self, Nat.reduceLT, Bool.false_eq_true, Nat.add_zero, Nat.zero_add, Nat.reduceAdd, Nat.reduceMul, Nat.reduceSub, Nat.zero_le, Nat.reduceLeDiff, Nat.reduceEqDiff, Nat.le_refl, not_false_eq_true, not_true_eq_false, false_implies, true_implies, forall_const, true_and, and_true, if_true, if_false, implies_true, and_self, ne_eq, false_and, and_false, or_false, false_or, true_or, or_true]
  exact ⟨KO.one.mpr (fun h => absurd h (by omega)), m.th, XU_0⟩
theorem k_days (m : MI M u a ak img n b fl) (hw : Wf a) (h1 : 1 ≤ g) (h2 : g ≤ 99) : mw (d + 5) 94 [.ref u, .int (nN g)] M (fun o M' => KO M' u 0 (sDays a (nN g)).2 o ∧ MI M' u (sDays a (nN g)).1 ak img n b fl ∧ Ag (XU u) M M') := by
  have s := m.mr.1
  have hm0 := (m.th (v := nN 0)).mr
  have i1 : nN 1 ≤ nN g ∧ nN g ≤ nN 99 := by rw [nN_le (by omega) (by omega), nN_le (by omega) (by omega)]; omega
  simp (disch := omega) only [m_94, q_aload0, q_aload0N, q_iload1, q_iconst, q_bipush, q_invs3_20, q_if_ne, q_goto, q_nop, q_put_i, pTag_1, q_get_i, pRf_s, q_if_le, q_iret, q_invv1, inv_1, e_94_0, e_94_1, e_94_2, e_94_3, L_0, L_1, L_99, k_some, k_none, pRm_i, pRm_r, pRm_0, pF_1, pF_2, inv_s, s.k0, gS_sI, isI_t i1, gS_sI, gP_sI, gI_sI, Nat.add_left_cancel_iff, Nat.add_eq_left, Nat.left_eq_add, nN_le, nN_lt, nN_eq, nN_add, nN_mul, nN_lt0, nN_ge0, nN_gt0, nN_le0, nN_eq0, nN_eq1, nN_neN, pIn_n, pIx_n, eq_self, Nat.reduceLT, Bool.false_eq_true, Nat.add_zero, Nat.zero_add, Nat.reduceAdd, Nat.reduceMul, Nat.reduceSub, Nat.zero_le, Nat.reduceLeDiff, Nat.reduceEqDiff, Nat.le_refl, not_false_eq_true, not_true_eq_false, false_implies, true_implies, forall_const, true_and, and_true, if_true, if_false, implies_true, and_self, ne_eq, false_and, and_false, or_false, false_or, true_or, or_true]
  refine mw_mono (w_goOnM (d := d + 1) (n := nN g) hm0 hw) ?_
  rintro _ M1 ⟨rfl, r1, A1⟩
  simp (disch := omega) only [q_aload0, q_aload0N, q_iload1, q_iconst, q_bipush, q_invs3_20, q_if_ne, q_goto, q_nop, q_put_i, pTag_1, q_get_i, pRf_s, q_if_le, q_iret, q_invv1, inv_1, e_94_0, e_94_1, e_94_2, e_94_3, L_0, L_1, L_99, k_some, k_none, pRm_i, pRm_r, pRm_0, pF_1, pF_2, inv_s, eq_self, Nat.reduceLT, Bool.false_eq_true, Nat.add_zero, Nat.zero_add, Nat.reduceAdd, Nat.reduceMul, Nat.reduceSub, Nat.zero_le, Nat.reduceLeDiff, Nat.reduceEqDiff, Nat.le_refl, not_false_eq_true, not_true_eq_false, false_implies, true_implies, forall_const, true_and, and_true, if_true, if_false, implies_true, and_self, ne_eq, false_and, and_false, or_false, false_or, true_or, or_true]
  exact ⟨KO.th (g0w A1) (fun _ => rfl), (m.th (v := nN 0)).tab A1 XMw_tab r1, A_0w A1⟩
theorem k_days_n (m : MI M u a ak img n b fl) (hw : Wf a) (hx : ¬ Wh x) : mw (d + 4) 94 [.ref u, .int x] M (fun o M' => KO M' u 1 0 o ∧ MI M' u a ak img n b fl ∧ Ag (XU u) M M') := by
  have s := m.mr.1
  have hm := m.mr
  have hp' := hw.p'
  have hf' := hw.f'
  have hn' := hw.n'
  simp (disch := omega) only [m_94, q_aload0, q_aload0N, q_iload1, q_iconst, q_bipush, q_invs3_20, q_if_ne, q_goto, q_nop, q_put_i, pTag_1, q_get_i, pRf_s, q_if_le, q_iret, q_invv1, inv_1, e_94_0, e_94_1, e_94_2, e_94_3, L_0, L_1, L_99, k_some, k_none, pRm_i, pRm_r, pRm_0, pF_1, pF_2, inv_s, s.k0, gS_sI, isI_f (show ¬ (nN 1 ≤ x ∧ x ≤ nN 99) from by rw [Wh_eq]; exact hx), gS_sI, gP_sI, gI_sI, Nat.add_left_cancel_iff, Nat.add_eq_left, Nat.left_eq_add, zb_0, nN_le, nN_lt, nN_eq, nN_add, nN_mul, nN_lt0, nN_ge0, nN_gt0, nN_le0, nN_eq0, nN_eq1, nN_neN, pIn_n, pIx_n, eq_self, Nat.reduceLT, Bool.false_eq_true, Nat.add_zero, Nat.zero_add, Nat.reduceAdd, Nat.reduceMul, Nat.reduceSub, Nat.zero_le, Nat.reduceLeDiff, Nat.reduceEqDiff, Nat.le_refl, not_false_eq_true, not_true_eq_false, false_implies, true_implies, forall_const, true_and, and_true, if_true, if_false, implies_true, and_self, ne_eq, false_and, and_false, or_false, false_or, true_or, or_true]
  exact ⟨KO.one.mpr (fun h => absurd h (by omega)), m.th, XU_0⟩
end KG
