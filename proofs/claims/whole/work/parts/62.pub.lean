/-! THE CLASS'S FACE: who is there -/
def Ix (c : Nat) (x : Int32) : Prop := ∃ p, p < c ∧ x = nN p
theorem Ix_lt {c : Nat} {x : Int32} (hc : c ≤ 4000) : (0 ≤ x ∧ x < nN c) = Ix c x := by
  obtain ⟨v, hv, rfl⟩ := iN_ex x
  have hv' := hv
  unfold Sm at hv'
  refine propext ⟨fun ⟨h1, h2⟩ => ?_, ?_⟩
  · rw [iN_ge0 hv] at h1
    have h3 : v < (c : Int) := (iN_lt hv (sm_n (by omega))).mp h2
    exact ⟨v.toNat, by omega, by unfold nN; congr 1; omega⟩
  · rintro ⟨p, hp, e⟩
    rw [e, nN_ge0 (by omega), nN_lt (by omega) (by omega)]
    exact ⟨trivial, hp⟩
theorem Ix_le {c : Nat} {x : Int32} (hc : c ≤ 4000) : (nN 0 ≤ x ∧ x ≤ nN c - nN 1) = Ix c x := by
  rw [← Ix_lt hc]
  obtain ⟨v, hv, rfl⟩ := iN_ex x
  have e1 : nN c - nN 1 = iN ((c : Int) - 1) := nN_sub1
  have hs : Sm ((c : Int) - 1) := by unfold Sm; omega
  have e2 : (nN 0 ≤ iN v) = (0 ≤ v) := propext (iN_le (sm_n (a := 0) (by omega)) hv)
  rw [e1, e2]
  refine propext ⟨fun ⟨h1, h2⟩ => ⟨(iN_ge0 hv).mpr h1, ?_⟩, fun ⟨h1, h2⟩ => ⟨(iN_ge0 hv).mp h1, ?_⟩⟩
  · have := (iN_le hv hs).mp h2
    exact (iN_lt hv (sm_n (by omega))).mpr (by omega)
  · have := (iN_lt hv (sm_n (a := c) (by omega))).mp h2
    exact (iN_le hv hs).mpr (by omega)
theorem k_t10 {d y k : Nat} {es : List pEnt} {ls : pLo} {st : List Value} {M' : pMem} {Q : pOut → pMem → Prop} (h : Hs y = []) : kont d y es 10 ls st Q (.inr k) M' = Q (.inr k) M' := k_thr h (Or.inl rfl)
theorem k_t20 {d y k : Nat} {es : List pEnt} {ls : pLo} {st : List Value} {M' : pMem} {Q : pOut → pMem → Prop} (h : Hs y = []) : kont d y es 20 ls st Q (.inr k) M' = Q (.inr k) M' := k_thr h (Or.inr rfl)
section PU
variable {d n : Nat} {a ak : Nat → Int32} {img : Bool} {b : Nat → Nat} {fl : Int32} {M M1 M2 M' : pMem} {Q : pOut → pMem → Prop} {x y z : Int32} {p q f g : Nat}
theorem w_needP (c : CI M a ak img n b fl) (hw : Wf a) (hp : p < nP a) : mw (d + 5) 37 [.ref 0, .int (nN p)] M Q = Q (.inl none) M := by
  obtain ⟨t, ht⟩ : ∃ t : Nat, t = 3 := ⟨3, rfl⟩
  have hr : Rep M t a := by rw [ht]; exact c.rep
  have hT : TmR M t a := by rw [ht]; exact c.tm
  have p1 : gP M 0 1 = some t := by rw [ht]; exact c.sh.p1
  have k0 := c.sh.k0
  have hp9 := hw.p'
  have hf9 := hw.f'
  have e : Ix (nP a) (nN p) := ⟨p, hp, rfl⟩
  simp (disch := omega) only [m_37, q_aload0, q_aload0N, q_get_r, pTag_1, pRf_s, q_iload1, q_invv1, inv_1, q_if_ne, q_thr, q_vret, e_37_0, e_37_1, k_some, k_none, pRm_i, pRm_r, pRm_0, pF_1, pF_2, inv_s, k0, p1, hr.sh.k1, hr.np, hr.sh.q0, hr.sh.q1, hr.sh.q2, hr.sh.q3, hr.sh.q4, w_atN hr.sh.k2, w_atN hr.sh.k3, w_atN hr.sh.k4, w_atN hr.sh.k5, w_atN hr.sh.k6, hr.lim, hr.tmp, hr.near, hr.rich, hr.debt, hr.sh.k0, hr.nt, hr.ne, hr.nr, hr.nx, hr.day, hr.law, hr.sh.p0, hr.sh.p1, hr.sh.p2, hr.sh.p3, hr.sh.p4, hr.sh.p5, hr.sh.p6, hr.sh.p7, hr.sh.p8, w_isThere hr hw, Ix_lt, e, hp, bI_eq0, nN_le, nN_lt, nN_eq, nN_add, nN_mul, nN_lt0, nN_ge0, nN_gt0, nN_le0, nN_eq0, nN_eq1, nN_neN, pIn_n, pIx_n, eq_self, Nat.reduceLT, Bool.false_eq_true, Nat.add_zero, Nat.zero_add, Nat.reduceAdd, Nat.reduceMul, Nat.reduceSub, Nat.zero_le, Nat.reduceLeDiff, Nat.reduceEqDiff, Nat.le_refl, not_false_eq_true, not_true_eq_false, false_implies, true_implies, forall_const, true_and, and_true, if_true, if_false, implies_true, and_self, ne_eq, false_and, and_false, or_false, false_or, true_or, or_true]
theorem w_needPn (c : CI M a ak img n b fl) (hw : Wf a) (hp : ¬ Ix (nP a) x) : mw (d + 5) 37 [.ref 0, .int x] M Q = Q (.inr 1) (nx M) := by
  obtain ⟨t, ht⟩ : ∃ t : Nat, t = 3 := ⟨3, rfl⟩
  have hr : Rep M t a := by rw [ht]; exact c.rep
  have hT : TmR M t a := by rw [ht]; exact c.tm
  have p1 : gP M 0 1 = some t := by rw [ht]; exact c.sh.p1
  have k0 := c.sh.k0
  have hp9 := hw.p'
  have hf9 := hw.f'
  simp (disch := omega) only [m_37, q_aload0, q_aload0N, q_get_r, pTag_1, pRf_s, q_iload1, q_invv1, inv_1, q_if_ne, q_thr, q_vret, e_37_0, e_37_1, k_some, k_none, pRm_i, pRm_r, pRm_0, pF_1, pF_2, inv_s, k0, p1, hr.sh.k1, hr.np, hr.sh.q0, hr.sh.q1, hr.sh.q2, hr.sh.q3, hr.sh.q4, w_atN hr.sh.k2, w_atN hr.sh.k3, w_atN hr.sh.k4, w_atN hr.sh.k5, w_atN hr.sh.k6, hr.lim, hr.tmp, hr.near, hr.rich, hr.debt, hr.sh.k0, hr.nt, hr.ne, hr.nr, hr.nx, hr.day, hr.law, hr.sh.p0, hr.sh.p1, hr.sh.p2, hr.sh.p3, hr.sh.p4, hr.sh.p5, hr.sh.p6, hr.sh.p7, hr.sh.p8, w_isThere hr hw, Ix_lt, hp, bI_eq0, nN_le, nN_lt, nN_eq, nN_add, nN_mul, nN_lt0, nN_ge0, nN_gt0, nN_le0, nN_eq0, nN_eq1, nN_neN, pIn_n, pIx_n, eq_self, Nat.reduceLT, Bool.false_eq_true, Nat.add_zero, Nat.zero_add, Nat.reduceAdd, Nat.reduceMul, Nat.reduceSub, Nat.zero_le, Nat.reduceLeDiff, Nat.reduceEqDiff, Nat.le_refl, not_false_eq_true, not_true_eq_false, false_implies, true_implies, forall_const, true_and, and_true, if_true, if_false, implies_true, and_self, ne_eq, false_and, and_false, or_false, false_or, true_or, or_true]
theorem w_needF (c : CI M a ak img n b fl) (hw : Wf a) (hf : f < nF a) : mw (d + 5) 39 [.ref 0, .int (nN f)] M Q = Q (.inl none) M := by
  obtain ⟨t, ht⟩ : ∃ t : Nat, t = 3 := ⟨3, rfl⟩
  have hr : Rep M t a := by rw [ht]; exact c.rep
  have hT : TmR M t a := by rw [ht]; exact c.tm
  have p1 : gP M 0 1 = some t := by rw [ht]; exact c.sh.p1
  have k0 := c.sh.k0
  have hp9 := hw.p'
  have hf9 := hw.f'
  simp (disch := omega) only [m_39, q_iload1, q_if_lt, q_aload0, q_aload0N, q_get_r, pTag_1, pRf_s, q_get_i, q_ic_lt, q_nop, q_thr, q_vret, e_39_0, e_39_1, e_39_2, pRm_i, pRm_r, pRm_0, k0, p1, hr.sh.k7, hr.nf, hr.sh.r0, hr.sh.r1, hr.sh.r2, hr.sh.r3, hr.sh.r4, hr.sh.r5, hr.sh.r6, w_atN hr.sh.k8, w_atN hr.sh.k9, w_atN hr.sh.k10, w_atN hr.sh.k11, w_atN hr.sh.k12, w_atN hr.sh.k13, w_atN hr.sh.k14, hr.g, hr.h, hr.am, hr.hd, hr.en, hr.fc, hr.sh.k0, hr.nt, hr.ne, hr.nr, hr.nx, hr.day, hr.law, hr.sh.p0, hr.sh.p1, hr.sh.p2, hr.sh.p3, hr.sh.p4, hr.sh.p5, hr.sh.p6, hr.sh.p7, hr.sh.p8, hw.f, hf, nN_le, nN_lt, nN_eq, nN_add, nN_mul, nN_lt0, nN_ge0, nN_gt0, nN_le0, nN_eq0, nN_eq1, nN_neN, pIn_n, pIx_n, eq_self, Nat.reduceLT, Bool.false_eq_true, Nat.add_zero, Nat.zero_add, Nat.reduceAdd, Nat.reduceMul, Nat.reduceSub, Nat.zero_le, Nat.reduceLeDiff, Nat.reduceEqDiff, Nat.le_refl, not_false_eq_true, not_true_eq_false, false_implies, true_implies, forall_const, true_and, and_true, if_true, if_false, implies_true, and_self, ne_eq, false_and, and_false, or_false, false_or, true_or, or_true]
theorem w_needFn (c : CI M a ak img n b fl) (hw : Wf a) (hf : ¬ Ix (nF a) x) : mw (d + 5) 39 [.ref 0, .int x] M Q = Q (.inr 1) (nx M) := by
  obtain ⟨t, ht⟩ : ∃ t : Nat, t = 3 := ⟨3, rfl⟩
  have hr : Rep M t a := by rw [ht]; exact c.rep
  have hT : TmR M t a := by rw [ht]; exact c.tm
  have p1 : gP M 0 1 = some t := by rw [ht]; exact c.sh.p1
  have k0 := c.sh.k0
  have hp9 := hw.p'
  have hf9 := hw.f'
  rw [← Ix_lt (by omega)] at hf
  by_cases h : x < 0
  · simp (disch := omega) only [m_39, q_iload1, q_if_lt, q_aload0, q_aload0N, q_get_r, pTag_1, pRf_s, q_get_i, q_ic_lt, q_nop, q_thr, q_vret, e_39_0, e_39_1, e_39_2, pRm_i, pRm_r, pRm_0, k0, p1, hr.sh.k7, hr.nf, hr.sh.r0, hr.sh.r1, hr.sh.r2, hr.sh.r3, hr.sh.r4, hr.sh.r5, hr.sh.r6, w_atN hr.sh.k8, w_atN hr.sh.k9, w_atN hr.sh.k10, w_atN hr.sh.k11, w_atN hr.sh.k12, w_atN hr.sh.k13, w_atN hr.sh.k14, hr.g, hr.h, hr.am, hr.hd, hr.en, hr.fc, hr.sh.k0, hr.nt, hr.ne, hr.nr, hr.nx, hr.day, hr.law, hr.sh.p0, hr.sh.p1, hr.sh.p2, hr.sh.p3, hr.sh.p4, hr.sh.p5, hr.sh.p6, hr.sh.p7, hr.sh.p8, hw.f, h, nN_le, nN_lt, nN_eq, nN_add, nN_mul, nN_lt0, nN_ge0, nN_gt0, nN_le0, nN_eq0, nN_eq1, nN_neN, pIn_n, pIx_n, eq_self, Nat.reduceLT, Bool.false_eq_true, Nat.add_zero, Nat.zero_add, Nat.reduceAdd, Nat.reduceMul, Nat.reduceSub, Nat.zero_le, Nat.reduceLeDiff, Nat.reduceEqDiff, Nat.le_refl, not_false_eq_true, not_true_eq_false, false_implies, true_implies, forall_const, true_and, and_true, if_true, if_false, implies_true, and_self, ne_eq, false_and, and_false, or_false, false_or, true_or, or_true]
  · have h2 : ¬ x < nN (nF a) := fun z => hf ⟨Int32.not_lt.mp h, z⟩
    simp (disch := omega) only [m_39, q_iload1, q_if_lt, q_aload0, q_aload0N, q_get_r, pTag_1, pRf_s, q_get_i, q_ic_lt, q_nop, q_thr, q_vret, e_39_0, e_39_1, e_39_2, pRm_i, pRm_r, pRm_0, k0, p1, hr.sh.k7, hr.nf, hr.sh.r0, hr.sh.r1, hr.sh.r2, hr.sh.r3, hr.sh.r4, hr.sh.r5, hr.sh.r6, w_atN hr.sh.k8, w_atN hr.sh.k9, w_atN hr.sh.k10, w_atN hr.sh.k11, w_atN hr.sh.k12, w_atN hr.sh.k13, w_atN hr.sh.k14, hr.g, hr.h, hr.am, hr.hd, hr.en, hr.fc, hr.sh.k0, hr.nt, hr.ne, hr.nr, hr.nx, hr.day, hr.law, hr.sh.p0, hr.sh.p1, hr.sh.p2, hr.sh.p3, hr.sh.p4, hr.sh.p5, hr.sh.p6, hr.sh.p7, hr.sh.p8, hw.f, h, h2, nN_le, nN_lt, nN_eq, nN_add, nN_mul, nN_lt0, nN_ge0, nN_gt0, nN_le0, nN_eq0, nN_eq1, nN_neN, pIn_n, pIx_n, eq_self, Nat.reduceLT, Bool.false_eq_true, Nat.add_zero, Nat.zero_add, Nat.reduceAdd, Nat.reduceMul, Nat.reduceSub, Nat.zero_le, Nat.reduceLeDiff, Nat.reduceEqDiff, Nat.le_refl, not_false_eq_true, not_true_eq_false, false_implies, true_implies, forall_const, true_and, and_true, if_true, if_false, implies_true, and_self, ne_eq, false_and, and_false, or_false, false_or, true_or, or_true]
theorem w_needN (c : CI M a ak img n b fl) (hw : Wf a) (hf : f < nE a) : mw (d + 5) 40 [.ref 0, .int (nN f)] M Q = Q (.inl none) M := by
  obtain ⟨t, ht⟩ : ∃ t : Nat, t = 3 := ⟨3, rfl⟩
  have hr : Rep M t a := by rw [ht]; exact c.rep
  have hT : TmR M t a := by rw [ht]; exact c.tm
  have p1 : gP M 0 1 = some t := by rw [ht]; exact c.sh.p1
  have k0 := c.sh.k0
  have hp9 := hw.p'
  have hf9 := hw.f'
  have hn' := hw.n'
  simp (disch := omega) only [m_40, q_iload1, q_if_lt, q_aload0, q_aload0N, q_get_r, pTag_1, pRf_s, q_get_i, q_ic_lt, q_nop, q_thr, q_vret, e_40_0, e_40_1, e_40_2, pRm_i, pRm_r, pRm_0, k0, p1, hr.sh.k0, hr.nt, hr.ne, hr.nr, hr.nx, hr.day, hr.law, hr.sh.p0, hr.sh.p1, hr.sh.p2, hr.sh.p3, hr.sh.p4, hr.sh.p5, hr.sh.p6, hr.sh.p7, hr.sh.p8, hw.n, hf, nN_le, nN_lt, nN_eq, nN_add, nN_mul, nN_lt0, nN_ge0, nN_gt0, nN_le0, nN_eq0, nN_eq1, nN_neN, pIn_n, pIx_n, eq_self, Nat.reduceLT, Bool.false_eq_true, Nat.add_zero, Nat.zero_add, Nat.reduceAdd, Nat.reduceMul, Nat.reduceSub, Nat.zero_le, Nat.reduceLeDiff, Nat.reduceEqDiff, Nat.le_refl, not_false_eq_true, not_true_eq_false, false_implies, true_implies, forall_const, true_and, and_true, if_true, if_false, implies_true, and_self, ne_eq, false_and, and_false, or_false, false_or, true_or, or_true]
theorem w_needNn (c : CI M a ak img n b fl) (hw : Wf a) (hf : ¬ Ix (nE a) x) : mw (d + 5) 40 [.ref 0, .int x] M Q = Q (.inr 1) (nx M) := by
  obtain ⟨t, ht⟩ : ∃ t : Nat, t = 3 := ⟨3, rfl⟩
  have hr : Rep M t a := by rw [ht]; exact c.rep
  have hT : TmR M t a := by rw [ht]; exact c.tm
  have p1 : gP M 0 1 = some t := by rw [ht]; exact c.sh.p1
  have k0 := c.sh.k0
  have hp9 := hw.p'
  have hf9 := hw.f'
  have hn' := hw.n'
  rw [← Ix_lt (by omega)] at hf
  by_cases h : x < 0
  · simp (disch := omega) only [m_40, q_iload1, q_if_lt, q_aload0, q_aload0N, q_get_r, pTag_1, pRf_s, q_get_i, q_ic_lt, q_nop, q_thr, q_vret, e_40_0, e_40_1, e_40_2, pRm_i, pRm_r, pRm_0, k0, p1, hr.sh.k0, hr.nt, hr.ne, hr.nr, hr.nx, hr.day, hr.law, hr.sh.p0, hr.sh.p1, hr.sh.p2, hr.sh.p3, hr.sh.p4, hr.sh.p5, hr.sh.p6, hr.sh.p7, hr.sh.p8, hw.n, h, nN_le, nN_lt, nN_eq, nN_add, nN_mul, nN_lt0, nN_ge0, nN_gt0, nN_le0, nN_eq0, nN_eq1, nN_neN, pIn_n, pIx_n, eq_self, Nat.reduceLT, Bool.false_eq_true, Nat.add_zero, Nat.zero_add, Nat.reduceAdd, Nat.reduceMul, Nat.reduceSub, Nat.zero_le, Nat.reduceLeDiff, Nat.reduceEqDiff, Nat.le_refl, not_false_eq_true, not_true_eq_false, false_implies, true_implies, forall_const, true_and, and_true, if_true, if_false, implies_true, and_self, ne_eq, false_and, and_false, or_false, false_or, true_or, or_true]
  · have h2 : ¬ x < nN (nE a) := fun z => hf ⟨Int32.not_lt.mp h, z⟩
    simp (disch := omega) only [m_40, q_iload1, q_if_lt, q_aload0, q_aload0N, q_get_r, pTag_1, pRf_s, q_get_i, q_ic_lt, q_nop, q_thr, q_vret, e_40_0, e_40_1, e_40_2, pRm_i, pRm_r, pRm_0, k0, p1, hr.sh.k0, hr.nt, hr.ne, hr.nr, hr.nx, hr.day, hr.law, hr.sh.p0, hr.sh.p1, hr.sh.p2, hr.sh.p3, hr.sh.p4, hr.sh.p5, hr.sh.p6, hr.sh.p7, hr.sh.p8, hw.n, h, h2, nN_le, nN_lt, nN_eq, nN_add, nN_mul, nN_lt0, nN_ge0, nN_gt0, nN_le0, nN_eq0, nN_eq1, nN_neN, pIn_n, pIx_n, eq_self, Nat.reduceLT, Bool.false_eq_true, Nat.add_zero, Nat.zero_add, Nat.reduceAdd, Nat.reduceMul, Nat.reduceSub, Nat.zero_le, Nat.reduceLeDiff, Nat.reduceEqDiff, Nat.le_refl, not_false_eq_true, not_true_eq_false, false_implies, true_implies, forall_const, true_and, and_true, if_true, if_false, implies_true, and_self, ne_eq, false_and, and_false, or_false, false_or, true_or, or_true]
def Wh (x : Int32) : Prop := ∃ n, 1 ≤ n ∧ n ≤ 99 ∧ x = nN n
theorem Wh_eq : (nN 1 ≤ x ∧ x ≤ nN 99) = Wh x := by
  obtain ⟨v, hv, rfl⟩ := iN_ex x
  have h1 : (nN 1 ≤ iN v) = ((1 : Nat) ≤ v) := propext (iN_le (sm_n (a := 1) (by omega)) hv)
  have h2 : (iN v ≤ nN 99) = (v ≤ (99 : Nat)) := propext (iN_le hv (sm_n (a := 99) (by omega)))
  rw [h1, h2]
  refine propext ⟨fun ⟨g1, g2⟩ => ⟨v.toNat, by omega, by omega, by unfold nN; congr 1; omega⟩, ?_⟩
  rintro ⟨n, g1, g2, e⟩
  have := congrArg Int32.toInt e
  rw [iN_toInt hv, nN_toInt (by omega)] at this
  omega
theorem w_needW (hn : 1 ≤ g) (hn2 : g ≤ 99) : mw (d + 1) 41 [.int (nN g)] M Q = Q (.inl none) M := by
  have e1 : ¬ g < 1 := by omega
  simp (disch := omega) only [m_41, q_iload0, q_iconst, q_ic_lt, q_bipush, q_ic_le, q_nop, q_thr, q_vret, e_41_0, e_41_1, e_41_2, L_1, L_99, pRm_i, pRm_r, pRm_0, e1, hn2, nN_le, nN_lt, nN_eq, nN_add, nN_mul, nN_lt0, nN_ge0, nN_gt0, nN_le0, nN_eq0, nN_eq1, nN_neN, pIn_n, pIx_n, eq_self, Nat.reduceLT, Bool.false_eq_true, Nat.add_zero, Nat.zero_add, Nat.reduceAdd, Nat.reduceMul, Nat.reduceSub, Nat.zero_le, Nat.reduceLeDiff, Nat.reduceEqDiff, Nat.le_refl, not_false_eq_true, not_true_eq_false, false_implies, true_implies, forall_const, true_and, and_true, if_true, if_false, implies_true, and_self, ne_eq, false_and, and_false, or_false, false_or, true_or, or_true]
theorem w_needWn (h : ¬ Wh x) : mw (d + 1) 41 [.int x] M Q = Q (.inr 0) (nx M) := by
  rw [← Wh_eq] at h
  by_cases h1 : x < nN 1
  · simp (disch := omega) only [m_41, q_iload0, q_iconst, q_ic_lt, q_bipush, q_ic_le, q_nop, q_thr, q_vret, e_41_0, e_41_1, e_41_2, L_1, L_99, pRm_i, pRm_r, pRm_0, h1, nN_le, nN_lt, nN_eq, nN_add, nN_mul, nN_lt0, nN_ge0, nN_gt0, nN_le0, nN_eq0, nN_eq1, nN_neN, pIn_n, pIx_n, eq_self, Nat.reduceLT, Bool.false_eq_true, Nat.add_zero, Nat.zero_add, Nat.reduceAdd, Nat.reduceMul, Nat.reduceSub, Nat.zero_le, Nat.reduceLeDiff, Nat.reduceEqDiff, Nat.le_refl, not_false_eq_true, not_true_eq_false, false_implies, true_implies, forall_const, true_and, and_true, if_true, if_false, implies_true, and_self, ne_eq, false_and, and_false, or_false, false_or, true_or, or_true]
  · have h2 : ¬ x ≤ nN 99 := fun z => h ⟨Int32.not_lt.mp h1, z⟩
    simp (disch := omega) only [m_41, q_iload0, q_iconst, q_ic_lt, q_bipush, q_ic_le, q_nop, q_thr, q_vret, e_41_0, e_41_1, e_41_2, L_1, L_99, pRm_i, pRm_r, pRm_0, h1, h2, nN_le, nN_lt, nN_eq, nN_add, nN_mul, nN_lt0, nN_ge0, nN_gt0, nN_le0, nN_eq0, nN_eq1, nN_neN, pIn_n, pIx_n, eq_self, Nat.reduceLT, Bool.false_eq_true, Nat.add_zero, Nat.zero_add, Nat.reduceAdd, Nat.reduceMul, Nat.reduceSub, Nat.zero_le, Nat.reduceLeDiff, Nat.reduceEqDiff, Nat.le_refl, not_false_eq_true, not_true_eq_false, false_implies, true_implies, forall_const, true_and, and_true, if_true, if_false, implies_true, and_self, ne_eq, false_and, and_false, or_false, false_or, true_or, or_true]
theorem w_needK (h : iN (-1) ≤ x) : mw (d + 1) 42 [.int x] M Q = Q (.inl none) M := by
  simp (disch := omega) only [m_42, q_iload0, q_iconst, q_ic_ge, q_thr, q_vret, e_42_0, e_42_1, pRm_i, pRm_r, pRm_0, h, nN_le, nN_lt, nN_eq, nN_add, nN_mul, nN_lt0, nN_ge0, nN_gt0, nN_le0, nN_eq0, nN_eq1, nN_neN, pIn_n, pIx_n, eq_self, Nat.reduceLT, Bool.false_eq_true, Nat.add_zero, Nat.zero_add, Nat.reduceAdd, Nat.reduceMul, Nat.reduceSub, Nat.zero_le, Nat.reduceLeDiff, Nat.reduceEqDiff, Nat.le_refl, not_false_eq_true, not_true_eq_false, false_implies, true_implies, forall_const, true_and, and_true, if_true, if_false, implies_true, and_self, ne_eq, false_and, and_false, or_false, false_or, true_or, or_true]
theorem w_needKn (h : ¬ iN (-1) ≤ x) : mw (d + 1) 42 [.int x] M Q = Q (.inr 0) (nx M) := by
  simp (disch := omega) only [m_42, q_iload0, q_iconst, q_ic_ge, q_thr, q_vret, e_42_0, e_42_1, pRm_i, pRm_r, pRm_0, h, nN_le, nN_lt, nN_eq, nN_add, nN_mul, nN_lt0, nN_ge0, nN_gt0, nN_le0, nN_eq0, nN_eq1, nN_neN, pIn_n, pIx_n, eq_self, Nat.reduceLT, Bool.false_eq_true, Nat.add_zero, Nat.zero_add, Nat.reduceAdd, Nat.reduceMul, Nat.reduceSub, Nat.zero_le, Nat.reduceLeDiff, Nat.reduceEqDiff, Nat.le_refl, not_false_eq_true, not_true_eq_false, false_implies, true_implies, forall_const, true_and, and_true, if_true, if_false, implies_true, and_self, ne_eq, false_and, and_false, or_false, false_or, true_or, or_true]
/-- two people -/
theorem w_need2 (c : CI M a ak img n b fl) (hw : Wf a) (hp : p < nP a) (hq : q < nP a) (hne : p ≠ q) : mw (d + 6) 38 [.ref 0, .int (nN p), .int (nN q)] M Q = Q (.inl none) M := by
  have hp9 := hw.p'
  have k0 := c.sh.k0
  simp (disch := omega) only [m_38, q_aload0, q_aload0N, q_iload1, q_invv1, inv_1, q_iload2, q_ic_ne, q_thr, q_vret, e_38_0, e_38_1, k_some, k_none, pRm_i, pRm_r, pRm_0, pF_1, pF_2, inv_s, k0, w_needP c hw, hne, nN_le, nN_lt, nN_eq, nN_add, nN_mul, nN_lt0, nN_ge0, nN_gt0, nN_le0, nN_eq0, nN_eq1, nN_neN, pIn_n, pIx_n, eq_self, Nat.reduceLT, Bool.false_eq_true, Nat.add_zero, Nat.zero_add, Nat.reduceAdd, Nat.reduceMul, Nat.reduceSub, Nat.zero_le, Nat.reduceLeDiff, Nat.reduceEqDiff, Nat.le_refl, not_false_eq_true, not_true_eq_false, false_implies, true_implies, forall_const, true_and, and_true, if_true, if_false, implies_true, and_self, ne_eq, false_and, and_false, or_false, false_or, true_or, or_true]
theorem w_need2a (c : CI M a ak img n b fl) (hw : Wf a) (hp : ¬ Ix (nP a) x) : mw (d + 6) 38 [.ref 0, .int x, .int y] M Q = Q (.inr 1) (nx M) := by
  have k0 := c.sh.k0
  simp (disch := omega) only [m_38, q_aload0, q_aload0N, q_iload1, q_invv1, inv_1, q_iload2, q_ic_ne, q_thr, q_vret, e_38_0, e_38_1, k_some, k_none, pRm_i, pRm_r, pRm_0, pF_1, pF_2, inv_s, k0, w_needPn c hw hp, k_t10 hs_38, nN_le, nN_lt, nN_eq, nN_add, nN_mul, nN_lt0, nN_ge0, nN_gt0, nN_le0, nN_eq0, nN_eq1, nN_neN, pIn_n, pIx_n, eq_self, Nat.reduceLT, Bool.false_eq_true, Nat.add_zero, Nat.zero_add, Nat.reduceAdd, Nat.reduceMul, Nat.reduceSub, Nat.zero_le, Nat.reduceLeDiff, Nat.reduceEqDiff, Nat.le_refl, not_false_eq_true, not_true_eq_false, false_implies, true_implies, forall_const, true_and, and_true, if_true, if_false, implies_true, and_self, ne_eq, false_and, and_false, or_false, false_or, true_or, or_true]
theorem w_need2b (c : CI M a ak img n b fl) (hw : Wf a) (hp : p < nP a) (hq : ¬ Ix (nP a) y) : mw (d + 6) 38 [.ref 0, .int (nN p), .int y] M Q = Q (.inr 1) (nx M) := by
  have k0 := c.sh.k0
  simp (disch := omega) only [m_38, q_aload0, q_aload0N, q_iload1, q_invv1, inv_1, q_iload2, q_ic_ne, q_thr, q_vret, e_38_0, e_38_1, k_some, k_none, pRm_i, pRm_r, pRm_0, pF_1, pF_2, inv_s, k0, w_needP c hw, w_needPn c hw hq, k_t10 hs_38, nN_le, nN_lt, nN_eq, nN_add, nN_mul, nN_lt0, nN_ge0, nN_gt0, nN_le0, nN_eq0, nN_eq1, nN_neN, pIn_n, pIx_n, eq_self, Nat.reduceLT, Bool.false_eq_true, Nat.add_zero, Nat.zero_add, Nat.reduceAdd, Nat.reduceMul, Nat.reduceSub, Nat.zero_le, Nat.reduceLeDiff, Nat.reduceEqDiff, Nat.le_refl, not_false_eq_true, not_true_eq_false, false_implies, true_implies, forall_const, true_and, and_true, if_true, if_false, implies_true, and_self, ne_eq, false_and, and_false, or_false, false_or, true_or, or_true]
theorem w_need2c (c : CI M a ak img n b fl) (hw : Wf a) (hp : p < nP a) : mw (d + 6) 38 [.ref 0, .int (nN p), .int (nN p)] M Q = Q (.inr 0) (nx M) := by
  have hp9 := hw.p'
  have k0 := c.sh.k0
  simp (disch := omega) only [m_38, q_aload0, q_aload0N, q_iload1, q_invv1, inv_1, q_iload2, q_ic_ne, q_thr, q_vret, e_38_0, e_38_1, k_some, k_none, pRm_i, pRm_r, pRm_0, pF_1, pF_2, inv_s, k0, w_needP c hw, nN_le, nN_lt, nN_eq, nN_add, nN_mul, nN_lt0, nN_ge0, nN_gt0, nN_le0, nN_eq0, nN_eq1, nN_neN, pIn_n, pIx_n, eq_self, Nat.reduceLT, Bool.false_eq_true, Nat.add_zero, Nat.zero_add, Nat.reduceAdd, Nat.reduceMul, Nat.reduceSub, Nat.zero_le, Nat.reduceLeDiff, Nat.reduceEqDiff, Nat.le_refl, not_false_eq_true, not_true_eq_false, false_implies, true_implies, forall_const, true_and, and_true, if_true, if_false, implies_true, and_self, ne_eq, false_and, and_false, or_false, false_or, true_or, or_true]
end PU
