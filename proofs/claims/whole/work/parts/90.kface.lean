/-! THE LAW'S MODEL: its face -/
def KO (M' : pMem) (u k : Nat) (v : Int32) (o : pOut) : Prop := (∃ w, o = .inl (some (.int w)) ∧ (k = 0 → w = v)) ∧ gI M' u 0 = nN k
section KF9
variable {d u n p q f g m c e K dd : Nat} {b : Nat → Nat} {a a' ak : Nat → Int32} {img fc : Bool} {fl : Int32} {M M1 M' : pMem} {Q : pOut → pMem → Prop} {x y z v w : Int32}
theorem KO.one {k : Nat} : KO (sI M u 0 (nN k)) u k v (.inl (some (.int w))) ↔ (k = 0 → w = v) := by
  constructor
  · rintro ⟨⟨w', h, h2⟩, -⟩ hk
    injection h with h; injection h with h; injection h with h
    rw [h]; exact h2 hk
  · intro h
    exact ⟨⟨w, rfl, h⟩, by rw [gI_sI, if_pos ⟨rfl, rfl⟩]⟩
theorem MI.tab {X : Nat → Nat → Prop} (m : MI M u a ak img n b fl) (A : Ag X M M') (hX : ∀ h k, X h k → h = u ∧ (k = 0 ∨ (7 ≤ k ∧ k ≠ 10)) ∨ h = u + 1 ∨ h = u + 3 ∨ (u + 5 ≤ h)) (r : MR M' u a') : MI M' u a' ak img n b fl := by
  refine MI.mk r ?_ ?_ ?_ ?_ ?_
  · intro h k hk; rw [A.I (fun z => by have := hX _ _ z; omega)]; exact m.ik h k hk
  · rw [A.I (fun z => by have := hX _ _ z; omega)]; exact m.hi
  · rw [A.I (fun z => by have := hX _ _ z; omega)]; exact m.tn
  · intro k hk; rw [A.I (fun z => by have := hX _ _ z; omega)]; exact m.tb k hk
  · rw [A.I (fun z => by have := hX _ _ z; omega)]; exact m.fo
theorem MI.th (m : MI M u a ak img n b fl) : MI (sI M u 0 v) u a ak img n b fl := m.go (X := fun h k => h = u ∧ k = 0) (Ag.one ⟨rfl, rfl⟩) (fun h k z => Or.inl ⟨z.1, Or.inl z.2⟩)
theorem XU_0 : Ag (XU u) M (sI M u 0 v) := Ag.one ⟨Nat.le_refl _, by omega⟩
theorem XMs_U : ∀ h k, XMs u h k → XU u h k := by rintro h k (z | ⟨z, -⟩) <;> exact ⟨by omega, by omega⟩
theorem XMw_U : ∀ h k, XMw u h k → XU u h k := by rintro h k (z | z); exact XMs_U h k z; exact ⟨by omega, by omega⟩
theorem XMs_go : ∀ h k, XMs u h k → h = u ∧ (k = 0 ∨ (7 ≤ k ∧ k ≠ 10)) ∨ h = u + 3 ∨ (u + 5 ≤ h) := by rintro h k (z | ⟨z, z2⟩) <;> omega
theorem XMw_tab : ∀ h k, XMw u h k → h = u ∧ (k = 0 ∨ (7 ≤ k ∧ k ≠ 10)) ∨ h = u + 1 ∨ h = u + 3 ∨ (u + 5 ≤ h) := by rintro h k ((z | ⟨z, z2⟩) | z) <;> omega
theorem bI_p {P : Prop} [Decidable P] (h : P) : bI P = nN 1 := if_pos h
theorem bI_n {P : Prop} [Decidable P] (h : ¬ P) : bI P = nN 0 := if_neg h
theorem isP_t (h : MR M u a) (hw : Wf a) (hx : Ix (nP a) x) : mw (d + 2) 53 [.ref u, .int x] M Q = Q (.inl (some (.int (nN 1)))) M := by
  have := hw.p'
  rw [w_isPerson h.1, bI_p]
  rw [h.2, hw.p, Ix_le (by omega)]; exact hx
theorem isP_f (h : MR M u a) (hw : Wf a) (hx : ¬ Ix (nP a) x) : mw (d + 2) 53 [.ref u, .int x] M Q = Q (.inl (some (.int (nN 0)))) M := by
  have := hw.p'
  rw [w_isPerson h.1, bI_n]
  rw [h.2, hw.p, Ix_le (by omega)]; exact hx
theorem isF_t (h : MR M u a) (hw : Wf a) (hx : Ix (nF a) x) : mw (d + 2) 54 [.ref u, .int x] M Q = Q (.inl (some (.int (nN 1)))) M := by
  have := hw.f'
  rw [w_isFavour h.1, bI_p]
  rw [h.2, hw.f, Ix_le (by omega)]; exact hx
theorem isF_f (h : MR M u a) (hw : Wf a) (hx : ¬ Ix (nF a) x) : mw (d + 2) 54 [.ref u, .int x] M Q = Q (.inl (some (.int (nN 0)))) M := by
  have := hw.f'
  rw [w_isFavour h.1, bI_n]
  rw [h.2, hw.f, Ix_le (by omega)]; exact hx
theorem isI_t {y z : Int32} (h : y ≤ x ∧ x ≤ z) : mw (d + 1) 52 [.int x, .int y, .int z] M Q = Q (.inl (some (.int (nN 1)))) M := by
  rw [w_isIn, bI_p h]
theorem isI_f {y z : Int32} (h : ¬ (y ≤ x ∧ x ≤ z)) : mw (d + 1) 52 [.int x, .int y, .int z] M Q = Q (.inl (some (.int (nN 0)))) M := by
  rw [w_isIn, bI_n h]
theorem Ix_i {c : Nat} (hc : c ≤ 4000) (h0 : 1 ≤ c) : (nN 0 ≤ x ∧ x ≤ nN (c - 1)) = Ix c x := by
  rw [← Ix_le hc, nN_subN h0]
theorem isN_t (h : MR M u a) (hw : Wf a) (hx : Ix (nE a) x) : mw (d + 2) 105 [.ref u, .int x] M Q = Q (.inl (some (.int (nN 1)))) M := by
  have := hw.n'
  have e : gI M (u + 1) 4 = nN (nE a) := by rw [h.2]; exact hw.n
  simp (disch := omega) only [m_105, q_iload1, q_iconst, q_aload0, q_aload0N, q_get_r, pTag_1, pRf_s, q_iald, q_isub, q_invs3_20, q_zret, e_105_0, L_0, L_1, L_4, k_some, k_none, pRm_i, pRm_r, pRm_0, pF_1, pF_2, inv_s, h.1.k0, h.1.k1, h.1.p1, e, pIn_n, pIx_n, eq_self, Nat.reduceLT, Bool.false_eq_true, Nat.add_zero, Nat.zero_add, Nat.reduceAdd, Nat.reduceMul, Nat.reduceSub, Nat.zero_le, Nat.reduceLeDiff, Nat.reduceEqDiff, Nat.le_refl, not_false_eq_true, not_true_eq_false, false_implies, true_implies, forall_const, true_and, and_true, if_true, if_false, implies_true, and_self, ne_eq, false_and, and_false, or_false, false_or, true_or, or_true]
  rw [isI_t (by rw [Ix_le (by omega)]; exact hx)]
  simp (disch := omega) only [q_iload1, q_iconst, q_aload0, q_aload0N, q_get_r, pTag_1, pRf_s, q_iald, q_isub, q_invs3_20, q_zret, e_105_0, L_0, L_1, L_4, k_some, k_none, pRm_i, pRm_r, pRm_0, pF_1, pF_2, inv_s, zb_1, eq_self, Nat.reduceLT, Bool.false_eq_true, Nat.add_zero, Nat.zero_add, Nat.reduceAdd, Nat.reduceMul, Nat.reduceSub, Nat.zero_le, Nat.reduceLeDiff, Nat.reduceEqDiff, Nat.le_refl, not_false_eq_true, not_true_eq_false, false_implies, true_implies, forall_const, true_and, and_true, if_true, if_false, implies_true, and_self, ne_eq, false_and, and_false, or_false, false_or, true_or, or_true]
theorem isN_f (h : MR M u a) (hw : Wf a) (hx : ¬ Ix (nE a) x) : mw (d + 2) 105 [.ref u, .int x] M Q = Q (.inl (some (.int (nN 0)))) M := by
  have := hw.n'
  have e : gI M (u + 1) 4 = nN (nE a) := by rw [h.2]; exact hw.n
  simp (disch := omega) only [m_105, q_iload1, q_iconst, q_aload0, q_aload0N, q_get_r, pTag_1, pRf_s, q_iald, q_isub, q_invs3_20, q_zret, e_105_0, L_0, L_1, L_4, k_some, k_none, pRm_i, pRm_r, pRm_0, pF_1, pF_2, inv_s, h.1.k0, h.1.k1, h.1.p1, e, pIn_n, pIx_n, eq_self, Nat.reduceLT, Bool.false_eq_true, Nat.add_zero, Nat.zero_add, Nat.reduceAdd, Nat.reduceMul, Nat.reduceSub, Nat.zero_le, Nat.reduceLeDiff, Nat.reduceEqDiff, Nat.le_refl, not_false_eq_true, not_true_eq_false, false_implies, true_implies, forall_const, true_and, and_true, if_true, if_false, implies_true, and_self, ne_eq, false_and, and_false, or_false, false_or, true_or, or_true]
  rw [isI_f (by rw [Ix_le (by omega)]; exact hx)]
  simp (disch := omega) only [q_iload1, q_iconst, q_aload0, q_aload0N, q_get_r, pTag_1, pRf_s, q_iald, q_isub, q_invs3_20, q_zret, e_105_0, L_0, L_1, L_4, k_some, k_none, pRm_i, pRm_r, pRm_0, pF_1, pF_2, inv_s, zb_0, eq_self, Nat.reduceLT, Bool.false_eq_true, Nat.add_zero, Nat.zero_add, Nat.reduceAdd, Nat.reduceMul, Nat.reduceSub, Nat.zero_le, Nat.reduceLeDiff, Nat.reduceEqDiff, Nat.le_refl, not_false_eq_true, not_true_eq_false, false_implies, true_implies, forall_const, true_and, and_true, if_true, if_false, implies_true, and_self, ne_eq, false_and, and_false, or_false, false_or, true_or, or_true]
theorem k_rich (m : MI M u a ak img n b fl) (hw : Wf a) (hx : Ix (nP a) x) : mw (d + 4) 98 [.ref u, .int x] M (fun o M' => KO M' u 0 (sRich a x) o ∧ MI M' u a ak img n b fl ∧ Ag (XU u) M M') := by
  have s := m.mr.1
  have hm := m.mr
  have hp' := hw.p'
  have hf' := hw.f'
  have hn' := hw.n'
  simp (disch := first | omega | rfl | (repeat' (first | exact gS_sI | exact gP_sI | refine Eq.trans gS_sI ?_ | refine Eq.trans gP_sI ?_ | refine Eq.trans (gIr_sI (by omega)) ?_ | rfl))) only [m_98, q_aload0, q_aload0N, q_iload1, q_invv1, inv_1, q_if_ne, q_iconst, q_goto, q_nop, q_put_i, pTag_1, q_get_i, pRf_s, q_if_le, q_iret, e_98_0, e_98_1, e_98_2, e_98_3, L_0, L_1, k_some, k_none, pRm_i, pRm_r, pRm_0, pF_1, pF_2, inv_s, s.k0, gS_sI, isP_t hm hw hx, w_richX hm hw, gS_sI, gP_sI, gI_sI, Nat.add_left_cancel_iff, Nat.add_eq_left, Nat.left_eq_add, nN_le, nN_lt, nN_eq, nN_add, nN_mul, nN_lt0, nN_ge0, nN_gt0, nN_le0, nN_eq0, nN_eq1, nN_neN, pIn_n, pIx_n, eq_self, Nat.reduceLT, Bool.false_eq_true, Nat.add_zero, Nat.zero_add, Nat.reduceAdd, Nat.reduceMul, Nat.reduceSub, Nat.zero_le, Nat.reduceLeDiff, Nat.reduceEqDiff, Nat.le_refl, not_false_eq_true, not_true_eq_false, false_implies, true_implies, forall_const, true_and, and_true, if_true, if_false, implies_true, and_self, ne_eq, false_and, and_false, or_false, false_or, true_or, or_true]
  exact ⟨KO.one.mpr (fun _ => rfl), m.th, XU_0⟩
theorem k_rich_n (m : MI M u a ak img n b fl) (hw : Wf a) (hx : ¬ Ix (nP a) x) : mw (d + 4) 98 [.ref u, .int x] M (fun o M' => KO M' u 1 0 o ∧ MI M' u a ak img n b fl ∧ Ag (XU u) M M') := by
  have s := m.mr.1
  have hm := m.mr
  have hp' := hw.p'
  have hf' := hw.f'
  have hn' := hw.n'
  simp (disch := omega) only [m_98, q_aload0, q_aload0N, q_iload1, q_invv1, inv_1, q_if_ne, q_iconst, q_goto, q_nop, q_put_i, pTag_1, q_get_i, pRf_s, q_if_le, q_iret, e_98_0, e_98_1, e_98_2, e_98_3, L_0, L_1, k_some, k_none, pRm_i, pRm_r, pRm_0, pF_1, pF_2, inv_s, s.k0, gS_sI, isP_f hm hw hx, gS_sI, gP_sI, gI_sI, Nat.add_left_cancel_iff, Nat.add_eq_left, Nat.left_eq_add, zb_0, nN_le, nN_lt, nN_eq, nN_add, nN_mul, nN_lt0, nN_ge0, nN_gt0, nN_le0, nN_eq0, nN_eq1, nN_neN, pIn_n, pIx_n, eq_self, Nat.reduceLT, Bool.false_eq_true, Nat.add_zero, Nat.zero_add, Nat.reduceAdd, Nat.reduceMul, Nat.reduceSub, Nat.zero_le, Nat.reduceLeDiff, Nat.reduceEqDiff, Nat.le_refl, not_false_eq_true, not_true_eq_false, false_implies, true_implies, forall_const, true_and, and_true, if_true, if_false, implies_true, and_self, ne_eq, false_and, and_false, or_false, false_or, true_or, or_true]
  exact ⟨KO.one.mpr (fun h => absurd h (by omega)), m.th, XU_0⟩
theorem k_debt (m : MI M u a ak img n b fl) (hw : Wf a) (hx : Ix (nP a) x) : mw (d + 4) 99 [.ref u, .int x] M (fun o M' => KO M' u 0 (sDebt a x) o ∧ MI M' u a ak img n b fl ∧ Ag (XU u) M M') := by
  have s := m.mr.1
  have hm := m.mr
  have hp' := hw.p'
  have hf' := hw.f'
  have hn' := hw.n'
  simp (disch := first | omega | rfl | (repeat' (first | exact gS_sI | exact gP_sI | refine Eq.trans gS_sI ?_ | refine Eq.trans gP_sI ?_ | refine Eq.trans (gIr_sI (by omega)) ?_ | rfl))) only [m_99, q_aload0, q_aload0N, q_iload1, q_invv1, inv_1, q_if_ne, q_iconst, q_goto, q_nop, q_put_i, pTag_1, q_get_i, pRf_s, q_if_le, q_iret, e_99_0, e_99_1, e_99_2, e_99_3, L_0, L_1, k_some, k_none, pRm_i, pRm_r, pRm_0, pF_1, pF_2, inv_s, s.k0, gS_sI, isP_t hm hw hx, w_debtX hm hw, gS_sI, gP_sI, gI_sI, Nat.add_left_cancel_iff, Nat.add_eq_left, Nat.left_eq_add, nN_le, nN_lt, nN_eq, nN_add, nN_mul, nN_lt0, nN_ge0, nN_gt0, nN_le0, nN_eq0, nN_eq1, nN_neN, pIn_n, pIx_n, eq_self, Nat.reduceLT, Bool.false_eq_true, Nat.add_zero, Nat.zero_add, Nat.reduceAdd, Nat.reduceMul, Nat.reduceSub, Nat.zero_le, Nat.reduceLeDiff, Nat.reduceEqDiff, Nat.le_refl, not_false_eq_true, not_true_eq_false, false_implies, true_implies, forall_const, true_and, and_true, if_true, if_false, implies_true, and_self, ne_eq, false_and, and_false, or_false, false_or, true_or, or_true]
  exact ⟨KO.one.mpr (fun _ => rfl), m.th, XU_0⟩
theorem k_debt_n (m : MI M u a ak img n b fl) (hw : Wf a) (hx : ¬ Ix (nP a) x) : mw (d + 4) 99 [.ref u, .int x] M (fun o M' => KO M' u 1 0 o ∧ MI M' u a ak img n b fl ∧ Ag (XU u) M M') := by
  have s := m.mr.1
  have hm := m.mr
  have hp' := hw.p'
  have hf' := hw.f'
  have hn' := hw.n'
  simp (disch := omega) only [m_99, q_aload0, q_aload0N, q_iload1, q_invv1, inv_1, q_if_ne, q_iconst, q_goto, q_nop, q_put_i, pTag_1, q_get_i, pRf_s, q_if_le, q_iret, e_99_0, e_99_1, e_99_2, e_99_3, L_0, L_1, k_some, k_none, pRm_i, pRm_r, pRm_0, pF_1, pF_2, inv_s, s.k0, gS_sI, isP_f hm hw hx, gS_sI, gP_sI, gI_sI, Nat.add_left_cancel_iff, Nat.add_eq_left, Nat.left_eq_add, zb_0, nN_le, nN_lt, nN_eq, nN_add, nN_mul, nN_lt0, nN_ge0, nN_gt0, nN_le0, nN_eq0, nN_eq1, nN_neN, pIn_n, pIx_n, eq_self, Nat.reduceLT, Bool.false_eq_true, Nat.add_zero, Nat.zero_add, Nat.reduceAdd, Nat.reduceMul, Nat.reduceSub, Nat.zero_le, Nat.reduceLeDiff, Nat.reduceEqDiff, Nat.le_refl, not_false_eq_true, not_true_eq_false, false_implies, true_implies, forall_const, true_and, and_true, if_true, if_false, implies_true, and_self, ne_eq, false_and, and_false, or_false, false_or, true_or, or_true]
  exact ⟨KO.one.mpr (fun h => absurd h (by omega)), m.th, XU_0⟩
theorem w_owesX {M0 : pMem} (h : MR M0 u a) (hw : Wf a) (e : gS M = gS M0) (e2 : gP M = gP M0) (e3 : gI M (u + 1) = gI M0 (u + 1)) : mw (d + 2) 100 [.ref u, .int x, .int y] M Q = Q (.inl (some (.int (sOwes a x y)))) M := by
  have e4 : gI M (u + 1) = a := e3.trans h.2
  rw [w_owesOf (by rw [e, e2]; exact h.1) (by rw [e4]; exact hw), e4]
theorem k_owes (m : MI M u a ak img n b fl) (hw : Wf a) (hx : Ix (nP a) x) (hy : Ix (nP a) y) : mw (d + 4) 101 [.ref u, .int x, .int y] M (fun o M' => KO M' u 0 (sOwes a x y) o ∧ MI M' u a ak img n b fl ∧ Ag (XU u) M M') := by
  have s := m.mr.1
  have hm := m.mr
  have hp' := hw.p'
  have hf' := hw.f'
  have hn' := hw.n'
  simp (disch := first | omega | rfl | (repeat' (first | exact gS_sI | exact gP_sI | refine Eq.trans gS_sI ?_ | refine Eq.trans gP_sI ?_ | refine Eq.trans (gIr_sI (by omega)) ?_ | rfl))) only [m_101, q_aload0, q_aload0N, q_iload1, q_invv1, inv_1, q_if_eq, q_iload2, q_if_ne, q_nop, q_iconst, q_goto, q_put_i, pTag_1, q_get_i, pRf_s, q_if_le, q_iret, q_invv2, e_101_0, e_101_1, e_101_2, e_101_3, e_101_4, L_0, L_1, k_some, k_none, pRm_i, pRm_r, pRm_0, pF_1, pF_2, inv_s, s.k0, gS_sI, isP_t hm hw hx, isP_t hm hw hy, w_owesX hm hw, gS_sI, gP_sI, gI_sI, Nat.add_left_cancel_iff, Nat.add_eq_left, Nat.left_eq_add, nN_le, nN_lt, nN_eq, nN_add, nN_mul, nN_lt0, nN_ge0, nN_gt0, nN_le0, nN_eq0, nN_eq1, nN_neN, pIn_n, pIx_n, eq_self, Nat.reduceLT, Bool.false_eq_true, Nat.add_zero, Nat.zero_add, Nat.reduceAdd, Nat.reduceMul, Nat.reduceSub, Nat.zero_le, Nat.reduceLeDiff, Nat.reduceEqDiff, Nat.le_refl, not_false_eq_true, not_true_eq_false, false_implies, true_implies, forall_const, true_and, and_true, if_true, if_false, implies_true, and_self, ne_eq, false_and, and_false, or_false, false_or, true_or, or_true]
  exact ⟨KO.one.mpr (fun _ => rfl), m.th, XU_0⟩
theorem k_owes_n1 (m : MI M u a ak img n b fl) (hw : Wf a) (hx : ¬ Ix (nP a) x) : mw (d + 4) 101 [.ref u, .int x, .int y] M (fun o M' => KO M' u 1 0 o ∧ MI M' u a ak img n b fl ∧ Ag (XU u) M M') := by
  have s := m.mr.1
  have hm := m.mr
  have hp' := hw.p'
  have hf' := hw.f'
  have hn' := hw.n'
  simp (disch := omega) only [m_101, q_aload0, q_aload0N, q_iload1, q_invv1, inv_1, q_if_eq, q_iload2, q_if_ne, q_nop, q_iconst, q_goto, q_put_i, pTag_1, q_get_i, pRf_s, q_if_le, q_iret, q_invv2, e_101_0, e_101_1, e_101_2, e_101_3, e_101_4, L_0, L_1, k_some, k_none, pRm_i, pRm_r, pRm_0, pF_1, pF_2, inv_s, s.k0, gS_sI, isP_f hm hw hx, gS_sI, gP_sI, gI_sI, Nat.add_left_cancel_iff, Nat.add_eq_left, Nat.left_eq_add, zb_0, nN_le, nN_lt, nN_eq, nN_add, nN_mul, nN_lt0, nN_ge0, nN_gt0, nN_le0, nN_eq0, nN_eq1, nN_neN, pIn_n, pIx_n, eq_self, Nat.reduceLT, Bool.false_eq_true, Nat.add_zero, Nat.zero_add, Nat.reduceAdd, Nat.reduceMul, Nat.reduceSub, Nat.zero_le, Nat.reduceLeDiff, Nat.reduceEqDiff, Nat.le_refl, not_false_eq_true, not_true_eq_false, false_implies, true_implies, forall_const, true_and, and_true, if_true, if_false, implies_true, and_self, ne_eq, false_and, and_false, or_false, false_or, true_or, or_true]
  exact ⟨KO.one.mpr (fun h => absurd h (by omega)), m.th, XU_0⟩
theorem k_owes_n2 (m : MI M u a ak img n b fl) (hw : Wf a) (hx : Ix (nP a) x) (hy : ¬ Ix (nP a) y) : mw (d + 4) 101 [.ref u, .int x, .int y] M (fun o M' => KO M' u 1 0 o ∧ MI M' u a ak img n b fl ∧ Ag (XU u) M M') := by
  have s := m.mr.1
  have hm := m.mr
  have hp' := hw.p'
  have hf' := hw.f'
  have hn' := hw.n'
  simp (disch := omega) only [m_101, q_aload0, q_aload0N, q_iload1, q_invv1, inv_1, q_if_eq, q_iload2, q_if_ne, q_nop, q_iconst, q_goto, q_put_i, pTag_1, q_get_i, pRf_s, q_if_le, q_iret, q_invv2, e_101_0, e_101_1, e_101_2, e_101_3, e_101_4, L_0, L_1, k_some, k_none, pRm_i, pRm_r, pRm_0, pF_1, pF_2, inv_s, s.k0, gS_sI, isP_t hm hw hx, isP_f hm hw hy, gS_sI, gP_sI, gI_sI, Nat.add_left_cancel_iff, Nat.add_eq_left, Nat.left_eq_add, zb_0, nN_le, nN_lt, nN_eq, nN_add, nN_mul, nN_lt0, nN_ge0, nN_gt0, nN_le0, nN_eq0, nN_eq1, nN_neN, pIn_n, pIx_n, eq_self, Nat.reduceLT, Bool.false_eq_true, Nat.add_zero, Nat.zero_add, Nat.reduceAdd, Nat.reduceMul, Nat.reduceSub, Nat.zero_le, Nat.reduceLeDiff, Nat.reduceEqDiff, Nat.le_refl, not_false_eq_true, not_true_eq_false, false_implies, true_implies, forall_const, true_and, and_true, if_true, if_false, implies_true, and_self, ne_eq, false_and, and_false, or_false, false_or, true_or, or_true]
  exact ⟨KO.one.mpr (fun h => absurd h (by omega)), m.th, XU_0⟩
theorem k_fault (m : MI M u a ak img n b fl) : mw (d + 2) 79 [.ref u] M (fun o M' => o = .inl (some (.int fl)) ∧ MI M' u a ak img n b fl ∧ Ag (XU u) M M') := by
  have s := m.mr.1
  simp (disch := omega) only [m_79, q_aload0, q_aload0N, q_iconst, q_put_i, pTag_1, q_get_i, pRf_s, q_iret, e_79_0, L_0, s.k0, gS_sI, gI_sI, m.fo, eq_self, Nat.reduceLT, Bool.false_eq_true, Nat.add_zero, Nat.zero_add, Nat.reduceAdd, Nat.reduceMul, Nat.reduceSub, Nat.zero_le, Nat.reduceLeDiff, Nat.reduceEqDiff, Nat.le_refl, not_false_eq_true, not_true_eq_false, false_implies, true_implies, forall_const, true_and, and_true, if_true, if_false, implies_true, and_self, ne_eq, false_and, and_false, or_false, false_or, true_or, or_true]
  exact ⟨m.th, XU_0⟩
theorem k_forgive (m : MI M u a ak img n b fl) (hw : Wf a) : mw (d + 5) 117 [.ref u, .int x] M (fun o M' => o = .inl (some (.int (sLets a x).2)) ∧ MI M' u (sLets a x).1 ak img n b fl ∧ Ag (XU u) M M') := by
  have s := m.mr.1
  have m1 := m.th (v := nN 0)
  simp (disch := omega) only [m_117, q_aload0, q_aload0N, q_iconst, q_put_i, pTag_1, q_iload1, q_invv1, inv_1, q_iret, e_117_0, L_0, k_some, k_none, pRm_i, pRm_r, pRm_0, pF_1, pF_2, inv_s, s.k0, gS_sI, eq_self, Nat.reduceLT, Bool.false_eq_true, Nat.add_zero, Nat.zero_add, Nat.reduceAdd, Nat.reduceMul, Nat.reduceSub, Nat.zero_le, Nat.reduceLeDiff, Nat.reduceEqDiff, Nat.le_refl, not_false_eq_true, not_true_eq_false, false_implies, true_implies, forall_const, true_and, and_true, if_true, if_false, implies_true, and_self, ne_eq, false_and, and_false, or_false, false_or, true_or, or_true]
  refine mw_mono (w_letsM m1.mr hw) ?_
  rintro _ M1 ⟨rfl, r1, A1⟩
  simp (disch := omega) only [q_aload0, q_aload0N, q_iconst, q_put_i, pTag_1, q_iload1, q_invv1, inv_1, q_iret, e_117_0, L_0, k_some, k_none, pRm_i, pRm_r, pRm_0, pF_1, pF_2, inv_s, eq_self, Nat.reduceLT, Bool.false_eq_true, Nat.add_zero, Nat.zero_add, Nat.reduceAdd, Nat.reduceMul, Nat.reduceSub, Nat.zero_le, Nat.reduceLeDiff, Nat.reduceEqDiff, Nat.le_refl, not_false_eq_true, not_true_eq_false, false_implies, true_implies, forall_const, true_and, and_true, if_true, if_false, implies_true, and_self, ne_eq, false_and, and_false, or_false, false_or, true_or, or_true]
  exact ⟨m1.tab A1 XMw_tab r1, XU_0.trans (A1.mono XMw_U)⟩
theorem XMv_U : ∀ h k, XMv u h k → XU u h k := by rintro h k (z | z); exact XMs_U h k z; exact ⟨by omega, by omega⟩
theorem XMv_go : ∀ h k, XMv u h k → h = u ∧ (k = 0 ∨ (7 ≤ k ∧ k ≠ 10)) ∨ h = u + 1 ∨ h = u + 3 ∨ (u + 5 ≤ h) := by rintro h k ((z | ⟨z, z2⟩) | z) <;> omega
theorem k_witness (m : MI M u a ak img n b fl) (hw : Wg a) : mw (d + 74) 114 [.ref u, .int x] M (fun o M' => o = .inl (some (.int (oI (sFirst (sLets a x).1)))) ∧ MI M' u a ak img n b fl ∧ Ag (XU u) M M') := by
  have s := m.mr.1
  have m1 := m.th (v := nN 0)
  simp (disch := omega) only [m_114, q_aload0, q_aload0N, q_iconst, q_put_i, pTag_1, q_iload1, q_invv1, inv_1, q_iret, e_114_0, L_0, k_some, k_none, pRm_i, pRm_r, pRm_0, pF_1, pF_2, inv_s, s.k0, gS_sI, eq_self, Nat.reduceLT, Bool.false_eq_true, Nat.add_zero, Nat.zero_add, Nat.reduceAdd, Nat.reduceMul, Nat.reduceSub, Nat.zero_le, Nat.reduceLeDiff, Nat.reduceEqDiff, Nat.le_refl, not_false_eq_true, not_true_eq_false, false_implies, true_implies, forall_const, true_and, and_true, if_true, if_false, implies_true, and_self, ne_eq, false_and, and_false, or_false, false_or, true_or, or_true]
  refine mw_mono (w_witnessM (d := d + 1) m1.mr hw.1 hw.2.2.1 hw.2.2.2) ?_
  rintro _ M1 ⟨rfl, r1, A1⟩
  simp (disch := omega) only [q_aload0, q_aload0N, q_iconst, q_put_i, pTag_1, q_iload1, q_invv1, inv_1, q_iret, e_114_0, L_0, k_some, k_none, pRm_i, pRm_r, pRm_0, pF_1, pF_2, inv_s, eq_self, Nat.reduceLT, Bool.false_eq_true, Nat.add_zero, Nat.zero_add, Nat.reduceAdd, Nat.reduceMul, Nat.reduceSub, Nat.zero_le, Nat.reduceLeDiff, Nat.reduceEqDiff, Nat.le_refl, not_false_eq_true, not_true_eq_false, false_implies, true_implies, forall_const, true_and, and_true, if_true, if_false, implies_true, and_self, ne_eq, false_and, and_false, or_false, false_or, true_or, or_true]
  exact ⟨m1.tab A1 XMv_go r1, XU_0.trans (A1.mono XMv_U)⟩
theorem k_enough (m : MI M u a ak img n b fl) (hw : Wg a) : mw (d + 74) 113 [.ref u, .int x] M (fun o M' => o = .inl (some (.int (bI (sFirst (sLets a x).1 = none)))) ∧ MI M' u a ak img n b fl ∧ Ag (XU u) M M') := by
  have s := m.mr.1
  have m1 := m.th (v := nN 0)
  simp (disch := omega) only [m_113, q_aload0, q_aload0N, q_iconst, q_put_i, pTag_1, q_iload1, q_invv1, inv_1, q_ic_ne, q_goto, q_nop, q_zret, e_113_0, L_0, L_1, k_some, k_none, pRm_i, pRm_r, pRm_0, pF_1, pF_2, inv_s, s.k0, gS_sI, eq_self, Nat.reduceLT, Bool.false_eq_true, Nat.add_zero, Nat.zero_add, Nat.reduceAdd, Nat.reduceMul, Nat.reduceSub, Nat.zero_le, Nat.reduceLeDiff, Nat.reduceEqDiff, Nat.le_refl, not_false_eq_true, not_true_eq_false, false_implies, true_implies, forall_const, true_and, and_true, if_true, if_false, implies_true, and_self, ne_eq, false_and, and_false, or_false, false_or, true_or, or_true]
  refine mw_mono (w_witnessM (d := d + 1) m1.mr hw.1 hw.2.2.1 hw.2.2.2) ?_
  rintro _ M1 ⟨rfl, r1, A1⟩
  have fin : MI M1 u a ak img n b fl ∧ Ag (XU u) M M1 := ⟨m1.tab A1 XMv_go r1, XU_0.trans (A1.mono XMv_U)⟩
  cases e : sFirst (sLets a x).1 with
  | none =>
    simp (disch := omega) only [q_aload0, q_aload0N, q_iconst, q_put_i, pTag_1, q_iload1, q_invv1, inv_1, q_ic_ne, q_goto, q_nop, q_zret, e_113_0, e_113_1, e_113_2, L_0, L_1, k_some, k_none, pRm_i, pRm_r, pRm_0, pF_1, pF_2, inv_s, oI, nN_le, nN_lt, nN_eq, nN_add, nN_mul, nN_lt0, nN_ge0, nN_gt0, nN_le0, nN_eq0, nN_eq1, nN_neN, pIn_n, pIx_n, eq_self, Nat.reduceLT, Bool.false_eq_true, Nat.add_zero, Nat.zero_add, Nat.reduceAdd, Nat.reduceMul, Nat.reduceSub, Nat.zero_le, Nat.reduceLeDiff, Nat.reduceEqDiff, Nat.le_refl, not_false_eq_true, not_true_eq_false, false_implies, true_implies, forall_const, true_and, and_true, if_true, if_false, implies_true, and_self, ne_eq, false_and, and_false, or_false, false_or, true_or, or_true]
    simp [bI, zb_1]
    exact fin
  | some k =>
    have hk : k < 4000 := by
      have := sUnm_none (a := (sLets a x).1) _ _ k e
      have := (sLets_ok (set := x) hw.1).1.n'
      omega
    have e9 : ¬ nN k = iN (-1) := by rw [nN_neN (by omega)]; exact not_false
    simp (disch := omega) only [q_aload0, q_aload0N, q_iconst, q_put_i, pTag_1, q_iload1, q_invv1, inv_1, q_ic_ne, q_goto, q_nop, q_zret, e_113_0, e_113_1, e_113_2, L_0, L_1, k_some, k_none, pRm_i, pRm_r, pRm_0, pF_1, pF_2, inv_s, oI, e9, nN_le, nN_lt, nN_eq, nN_add, nN_mul, nN_lt0, nN_ge0, nN_gt0, nN_le0, nN_eq0, nN_eq1, nN_neN, pIn_n, pIx_n, eq_self, Nat.reduceLT, Bool.false_eq_true, Nat.add_zero, Nat.zero_add, Nat.reduceAdd, Nat.reduceMul, Nat.reduceSub, Nat.zero_le, Nat.reduceLeDiff, Nat.reduceEqDiff, Nat.le_refl, not_false_eq_true, not_true_eq_false, false_implies, true_implies, forall_const, true_and, and_true, if_true, if_false, implies_true, and_self, ne_eq, false_and, and_false, or_false, false_or, true_or, or_true]
    simp [bI, zb_0]
    exact fin
end KF9
