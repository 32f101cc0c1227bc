/-! fits, both sides -/
def fstN (P : Nat → Bool) : Nat → Nat → Nat
  | 0, k => k
  | j + 1, k => if P k = true then fstN P j (k + 1) else k
def fitP (a : Nat → Int32) (f : Nat) (b : Nat → Nat) (k : Nat) : Bool := decide (nN (b k) - nN 97 = fa a f (7 + k))
def fitM (a : Nat → Int32) (f n : Nat) : Nat := if n < fD a f + 2 then n else fD a f + 2
def sFits (a : Nat → Int32) (f n : Nat) (b : Nat → Nat) : Int32 := if fstN (fitP a f b) (fitM a f n) 0 = fitM a f n ∧ n = fD a f + 2 then iN (-1) else nN (fstN (fitP a f b) (fitM a f n) 0)
section FT
variable {d t u n p q f g m c e K k dd : Nat} {b : Nat → Nat} {a a' ak : Nat → Int32} {img fc : Bool} {fl : Int32} {M M0 M1 M' : pMem} {Q : pOut → pMem → Prop} {x y z v w : Int32}
theorem fstN_le {P : Nat → Bool} : ∀ j k, k ≤ fstN P j k ∧ fstN P j k ≤ k + j := by
  intro j
  induction j with
  | zero => intro k; exact ⟨Nat.le_refl _, Nat.le_refl _⟩
  | succ j ih =>
    intro k
    unfold fstN
    have := ih (k + 1)
    split <;> omega
/-- a search's loop: on while P holds -/
theorem fst_rule {P : Nat → Bool} {y bl n : Nat} {C : Nat → pCfg} (hs : ∀ k, k < n → P k = true → bw d y bl (C k) Q = bw d y bl (C (k + 1)) Q) : ∀ j k, k + j = n → bw d y bl (C k) Q = bw d y bl (C (fstN P j k)) Q := by
  intro j
  induction j with
  | zero => intro k h; rfl
  | succ j ih =>
    intro k h
    unfold fstN
    by_cases c : P k = true
    · rw [if_pos c, hs k (by omega) c]; exact ih (k + 1) (by omega)
    · rw [if_neg c]
theorem fstN_at {P : Nat → Bool} : ∀ j k, fstN P j k < k + j → ¬ P (fstN P j k) = true := by
  intro j
  induction j with
  | zero => intro k h; unfold fstN at h; omega
  | succ j ih =>
    intro k h
    unfold fstN at h ⊢
    by_cases c : P k = true
    · rw [if_pos c] at h ⊢; exact ih (k + 1) (by omega)
    · rw [if_neg c]; exact c
theorem w_useUp (k1 : gS M 1 = (6, 0)) : mw (d + 1) 199 [.ref 1] M Q = Q (.inl (some (.int (gI M 1 1)))) (sI M 1 1 (nN 0)) := by
  simp (disch := omega) only [m_199, q_aload0, q_aload0N, q_get_i, pTag_1, pRf_s, q_istore1, q_iconst, q_put_i, q_iload1, q_iret, e_199_0, L_0, k1, nN_le, nN_lt, nN_eq, nN_add, nN_mul, nN_lt0, nN_ge0, nN_gt0, nN_le0, nN_eq0, nN_eq1, nN_neN, pIn_n, pIx_n, eq_self, Nat.reduceLT, Bool.false_eq_true, Nat.add_zero, Nat.zero_add, Nat.reduceAdd, Nat.reduceMul, Nat.reduceSub, Nat.zero_le, Nat.reduceLeDiff, Nat.reduceEqDiff, Nat.le_refl, not_false_eq_true, not_true_eq_false, false_implies, true_implies, forall_const, true_and, and_true, if_true, if_false, implies_true, and_self, ne_eq, false_and, and_false, or_false, false_or, true_or, or_true]
theorem CI.used (c : CI M a ak img n b fl) : Xc M a ak img 0 b fl (sI M 1 1 (nN 0)) := by
  refine c.tape (Ag.one (by omega)) ?_ ?_ ?_ ?_
  · rw [gI_sI, if_pos ⟨rfl, rfl⟩]
  · intro k hk; omega
  · rw [gI_sI, if_neg (by omega)]; exact c.im
  · rw [gI_sI, if_neg (by omega)]; exact c.fo
theorem c_fits (c : CI M a ak img n b fl) (hw : Wf a) (hn : n ≤ 400) (hf : f < nF a) : mw (d + 6) 32 [.ref 0, .int (nN f)] M (fun o M' => o = .inl (some (.int (sFits a f n b))) ∧ Xc M a ak img 0 b fl M') := by
  have k0 := c.sh.k0
  have q0 := c.sh.p0
  have p1 := c.sh.p1
  have k1 := c.sh.k1
  have k2 := c.sh.k2
  have q1 := c.sh.q1
  have U := c.used
  have c1 := U.1
  have hr := c1.rep
  obtain ⟨g1, g2, g3⟩ := hw.fD f hf
  simp (disch := omega) only [m_32, q_aload0, q_aload0N, q_get_r, pTag_1, pRf_s, q_invv0, inv_1, q_istore2, q_iload1, q_invv1, q_istore3, q_iload2, q_iload3, q_min, q_istore4, q_iconst, q_istore5, q_nop, q_iload5, q_iload4, q_ic_ge, q_invs2_20, q_bipush, q_isub, q_invv2, q_ic_eq, q_iret, q_iinc5, q_goto, q_ic_ne, e_32_0, e_32_2, e_32_3, e_32_4, e_32_5, L_0, L_1, L_97, k_some, k_none, pRm_i, pRm_r, pRm_0, pF_1, pF_2, inv_s, k0, q0, w_useUp k1, c.tn, gS_sI, gP_sI, w_needF c1 hw hf, p1, hr.sh.k7, hr.nf, hr.sh.r0, hr.sh.r1, hr.sh.r2, hr.sh.r3, hr.sh.r4, hr.sh.r5, hr.sh.r6, w_atN hr.sh.k8, w_atN hr.sh.k9, w_atN hr.sh.k10, w_atN hr.sh.k11, w_atN hr.sh.k12, w_atN hr.sh.k13, w_atN hr.sh.k14, hr.g, hr.h, hr.am, hr.hd, hr.en, hr.fc, hr.sh.k0, hr.nt, hr.ne, hr.nr, hr.nx, hr.day, hr.law, hr.sh.p0, hr.sh.p1, hr.sh.p2, hr.sh.p3, hr.sh.p4, hr.sh.p5, hr.sh.p6, hr.sh.p7, hr.sh.p8, w_rowLength hr hw hf, nN_le, nN_lt, nN_eq, nN_add, nN_mul, nN_lt0, nN_ge0, nN_gt0, nN_le0, nN_eq0, nN_eq1, nN_neN, pIn_n, pIx_n, eq_self, Nat.reduceLT, Bool.false_eq_true, Nat.add_zero, Nat.zero_add, Nat.reduceAdd, Nat.reduceMul, Nat.reduceSub, Nat.zero_le, Nat.reduceLeDiff, Nat.reduceEqDiff, Nat.le_refl, not_false_eq_true, not_true_eq_false, false_implies, true_implies, forall_const, true_and, and_true, if_true, if_false, implies_true, and_self, ne_eq, false_and, and_false, or_false, false_or, true_or, or_true]
  have e9 : (if fD a f + 2 < n then nN (fD a f + 2) else nN n) = nN (fitM a f n) := by
    unfold fitM
    by_cases h : n < fD a f + 2
    · rw [if_neg (by omega), if_pos h]
    · rw [if_neg h]
      by_cases h2 : fD a f + 2 < n
      · rw [if_pos h2]
      · rw [if_neg h2]; congr 1; omega
  have m1 : fitM a f n ≤ n := by unfold fitM; split <;> omega
  have m2 : fitM a f n ≤ fD a f + 2 := by unfold fitM; split <;> omega
  have k1' : (gS M 1).1 = 6 := by rw [k1]
  have e7 : sFits a f n b = if fstN (fitP a f b) (fitM a f n) 0 = fitM a f n ∧ n = fD a f + 2 then iN (-1) else nN (fstN (fitP a f b) (fitM a f n) 0) := rfl
  rw [e7, e9]
  clear e7 e9
  generalize fitM a f n = mm at *
  have tb : ∀ k, k < n → gI (sI M 1 1 (nN 0)) 2 k = nN (b k) := fun k hk => by rw [gI_sI, if_neg (by omega)]; exact c.tb k hk
  refine ⟨k1', ?_⟩
  rw [fst_rule (n := mm) (P := fitP a f b) (C := fun k => ([some (.ref 0), some (.int (nN f)), some (.int (nN n)), some (.int (nN (fD a f + 2))), some (.int (nN (mm))), some (.int (nN k))], [], sI M 1 1 (nN 0))) ?_ (mm) 0 (by omega)]
  · obtain ⟨z1, z2⟩ := fstN_le (P := fitP a f b) (mm) 0
    by_cases h : fstN (fitP a f b) (mm) 0 = mm
    · rw [h, e_32_1]
      by_cases h2 : n = fD a f + 2
      · simp (disch := omega) only [q_aload0, q_aload0N, q_get_r, pTag_1, pRf_s, q_invv0, inv_1, q_istore2, q_iload1, q_invv1, q_istore3, q_iload2, q_iload3, q_min, q_istore4, q_iconst, q_istore5, q_nop, q_iload5, q_iload4, q_ic_ge, q_invs2_20, q_bipush, q_isub, q_invv2, q_ic_eq, q_iret, q_iinc5, q_goto, q_ic_ne, e_32_0, e_32_2, e_32_3, e_32_4, e_32_5, L_0, L_1, L_97, k_some, k_none, pRm_i, pRm_r, pRm_0, pF_1, pF_2, inv_s, h2, nN_le, nN_lt, nN_eq, nN_add, nN_mul, nN_lt0, nN_ge0, nN_gt0, nN_le0, nN_eq0, nN_eq1, nN_neN, pIn_n, pIx_n, eq_self, Nat.reduceLT, Bool.false_eq_true, Nat.add_zero, Nat.zero_add, Nat.reduceAdd, Nat.reduceMul, Nat.reduceSub, Nat.zero_le, Nat.reduceLeDiff, Nat.reduceEqDiff, Nat.le_refl, not_false_eq_true, not_true_eq_false, false_implies, true_implies, forall_const, true_and, and_true, if_true, if_false, implies_true, and_self, ne_eq, false_and, and_false, or_false, false_or, true_or, or_true]
        exact U
      · simp (disch := omega) only [q_aload0, q_aload0N, q_get_r, pTag_1, pRf_s, q_invv0, inv_1, q_istore2, q_iload1, q_invv1, q_istore3, q_iload2, q_iload3, q_min, q_istore4, q_iconst, q_istore5, q_nop, q_iload5, q_iload4, q_ic_ge, q_invs2_20, q_bipush, q_isub, q_invv2, q_ic_eq, q_iret, q_iinc5, q_goto, q_ic_ne, e_32_0, e_32_2, e_32_3, e_32_4, e_32_5, L_0, L_1, L_97, k_some, k_none, pRm_i, pRm_r, pRm_0, pF_1, pF_2, inv_s, h2, nN_le, nN_lt, nN_eq, nN_add, nN_mul, nN_lt0, nN_ge0, nN_gt0, nN_le0, nN_eq0, nN_eq1, nN_neN, pIn_n, pIx_n, eq_self, Nat.reduceLT, Bool.false_eq_true, Nat.add_zero, Nat.zero_add, Nat.reduceAdd, Nat.reduceMul, Nat.reduceSub, Nat.zero_le, Nat.reduceLeDiff, Nat.reduceEqDiff, Nat.le_refl, not_false_eq_true, not_true_eq_false, false_implies, true_implies, forall_const, true_and, and_true, if_true, if_false, implies_true, and_self, ne_eq, false_and, and_false, or_false, false_or, true_or, or_true]
        exact U
    · have hlt : fstN (fitP a f b) (mm) 0 < mm := by omega
      have hP := fstN_at (P := fitP a f b) (mm) 0 (by omega)
      rw [e_32_1, if_neg (fun z => h z.1)]
      generalize fstN (fitP a f b) mm 0 = kk at *
      have h3 : ¬ mm ≤ kk := by omega
      have h4 : ¬ (nN (b kk) - nN 97 = fa a f (7 + kk)) := by simpa [fitP] using hP
      have h5 : kk < fD a f + 2 := by omega
      simp (disch := omega) only [q_aload0, q_aload0N, q_get_r, pTag_1, pRf_s, q_invv0, inv_1, q_istore2, q_iload1, q_invv1, q_istore3, q_iload2, q_iload3, q_min, q_istore4, q_iconst, q_istore5, q_nop, q_iload5, q_iload4, q_ic_ge, q_invs2_20, q_bipush, q_isub, q_invv2, q_ic_eq, q_iret, q_iinc5, q_goto, q_ic_ne, e_32_0, e_32_2, e_32_3, e_32_4, e_32_5, L_0, L_1, L_97, k_some, k_none, pRm_i, pRm_r, pRm_0, pF_1, pF_2, inv_s, h3, k0, q0, p1, k1', q1, gS_sI, gP_sI, w_atN (show gS (sI M 1 1 (nN 0)) 2 = (100, 400) from k2), tb, hr.sh.k7, hr.nf, hr.sh.r0, hr.sh.r1, hr.sh.r2, hr.sh.r3, hr.sh.r4, hr.sh.r5, hr.sh.r6, w_atN hr.sh.k8, w_atN hr.sh.k9, w_atN hr.sh.k10, w_atN hr.sh.k11, w_atN hr.sh.k12, w_atN hr.sh.k13, w_atN hr.sh.k14, hr.g, hr.h, hr.am, hr.hd, hr.en, hr.fc, hr.sh.k0, hr.nt, hr.ne, hr.nr, hr.nx, hr.day, hr.law, hr.sh.p0, hr.sh.p1, hr.sh.p2, hr.sh.p3, hr.sh.p4, hr.sh.p5, hr.sh.p6, hr.sh.p7, hr.sh.p8, w_inRow hr hw hf, h5, h4, nN_le, nN_lt, nN_eq, nN_add, nN_mul, nN_lt0, nN_ge0, nN_gt0, nN_le0, nN_eq0, nN_eq1, nN_neN, pIn_n, pIx_n, eq_self, Nat.reduceLT, Bool.false_eq_true, Nat.add_zero, Nat.zero_add, Nat.reduceAdd, Nat.reduceMul, Nat.reduceSub, Nat.zero_le, Nat.reduceLeDiff, Nat.reduceEqDiff, Nat.le_refl, not_false_eq_true, not_true_eq_false, false_implies, true_implies, forall_const, true_and, and_true, if_true, if_false, implies_true, and_self, ne_eq, false_and, and_false, or_false, false_or, true_or, or_true]
      exact U
  · intro k hk hP
    have h3 : ¬ mm ≤ k := by omega
    have h4 : nN (b k) - nN 97 = fa a f (7 + k) := by simpa [fitP] using hP
    have h5 : k < fD a f + 2 := by omega
    rw [e_32_1]
    simp (disch := omega) only [q_aload0, q_aload0N, q_get_r, pTag_1, pRf_s, q_invv0, inv_1, q_istore2, q_iload1, q_invv1, q_istore3, q_iload2, q_iload3, q_min, q_istore4, q_iconst, q_istore5, q_nop, q_iload5, q_iload4, q_ic_ge, q_invs2_20, q_bipush, q_isub, q_invv2, q_ic_eq, q_iret, q_iinc5, q_goto, q_ic_ne, e_32_0, e_32_2, e_32_3, e_32_4, e_32_5, L_0, L_1, L_97, k_some, k_none, pRm_i, pRm_r, pRm_0, pF_1, pF_2, inv_s, h3, k0, q0, p1, k1', q1, gS_sI, gP_sI, w_atN (show gS (sI M 1 1 (nN 0)) 2 = (100, 400) from k2), tb, hr.sh.k7, hr.nf, hr.sh.r0, hr.sh.r1, hr.sh.r2, hr.sh.r3, hr.sh.r4, hr.sh.r5, hr.sh.r6, w_atN hr.sh.k8, w_atN hr.sh.k9, w_atN hr.sh.k10, w_atN hr.sh.k11, w_atN hr.sh.k12, w_atN hr.sh.k13, w_atN hr.sh.k14, hr.g, hr.h, hr.am, hr.hd, hr.en, hr.fc, hr.sh.k0, hr.nt, hr.ne, hr.nr, hr.nx, hr.day, hr.law, hr.sh.p0, hr.sh.p1, hr.sh.p2, hr.sh.p3, hr.sh.p4, hr.sh.p5, hr.sh.p6, hr.sh.p7, hr.sh.p8, w_inRow hr hw hf, h5, h4, nN_le, nN_lt, nN_eq, nN_add, nN_mul, nN_lt0, nN_ge0, nN_gt0, nN_le0, nN_eq0, nN_eq1, nN_neN, pIn_n, pIx_n, eq_self, Nat.reduceLT, Bool.false_eq_true, Nat.add_zero, Nat.zero_add, Nat.reduceAdd, Nat.reduceMul, Nat.reduceSub, Nat.zero_le, Nat.reduceLeDiff, Nat.reduceEqDiff, Nat.le_refl, not_false_eq_true, not_true_eq_false, false_implies, true_implies, forall_const, true_and, and_true, if_true, if_false, implies_true, and_self, ne_eq, false_and, and_false, or_false, false_or, true_or, or_true]
theorem c_fits_n (c : CI M a ak img n b fl) (hw : Wf a) (hn : n ≤ 400) (hx : ¬ Ix (nF a) x) : mw (d + 6) 32 [.ref 0, .int x] M (fun o M' => o = .inr 1 ∧ ∃ M1, Xc M a ak img 0 b fl M1 ∧ M' = nx M1) := by
  have k0 := c.sh.k0
  have q0 := c.sh.p0
  have k1 := c.sh.k1
  have U := c.used
  simp (disch := omega) only [m_32, q_aload0, q_aload0N, q_get_r, pTag_1, pRf_s, q_invv0, inv_1, q_istore2, q_iload1, q_invv1, q_istore3, q_iload2, q_iload3, q_min, q_istore4, q_iconst, q_istore5, q_nop, q_iload5, q_iload4, q_ic_ge, q_invs2_20, q_bipush, q_isub, q_invv2, q_ic_eq, q_iret, q_iinc5, q_goto, q_ic_ne, e_32_0, e_32_2, e_32_3, e_32_4, e_32_5, L_0, L_1, L_97, k_some, k_none, pRm_i, pRm_r, pRm_0, pF_1, pF_2, inv_s, k0, q0, w_useUp k1, c.tn, gS_sI, gP_sI, w_needFn U.1 hw hx, k_t10 hs_32, nN_le, nN_lt, nN_eq, nN_add, nN_mul, nN_lt0, nN_ge0, nN_gt0, nN_le0, nN_eq0, nN_eq1, nN_neN, pIn_n, pIx_n, eq_self, Nat.reduceLT, Bool.false_eq_true, Nat.add_zero, Nat.zero_add, Nat.reduceAdd, Nat.reduceMul, Nat.reduceSub, Nat.zero_le, Nat.reduceLeDiff, Nat.reduceEqDiff, Nat.le_refl, not_false_eq_true, not_true_eq_false, false_implies, true_implies, forall_const, true_and, and_true, if_true, if_false, implies_true, and_self, ne_eq, false_and, and_false, or_false, false_or, true_or, or_true]
  exact ⟨by rw [k1], _, U, rfl⟩
theorem k_fits (m : MI M u a ak img n b fl) (hw : Wf a) (hn : n ≤ 400) (hf : f < nF a) : mw (d + 4) 135 [.ref u, .int (nN f)] M (fun o M' => KO M' u 0 (sFits a f n b) o ∧ MI M' u a ak img 0 b fl ∧ Ag (XU u) M M') := by
  have s := m.mr.1
  have tn := m.tn
  have hf' := hw.f'
  obtain ⟨g1, g2, g3⟩ := hw.fD f hf
  have A : Ag (fun h k => h = u ∧ (k = 0 ∨ k = 6)) M (sI (sI M u 6 (nN 0)) u 0 (nN 0)) := Ag.put (Ag.one ⟨rfl, Or.inr rfl⟩) ⟨rfl, Or.inl rfl⟩
  have hm : MR (sI M u 6 (nN 0)) u a := m.mr.ag (Ag.one (X := fun h k => h = u ∧ k = 6) ⟨rfl, rfl⟩) (fun k z => by omega)
  have hm2 : MR (sI (sI M u 6 (nN 0)) u 0 (nN 0)) u a := m.mr.ag A (fun k z => by omega)
  have fin : MI (sI (sI M u 6 (nN 0)) u 0 (nN 0)) u a ak img 0 b fl := by
    refine MI.mk hm2 ?_ ?_ ?_ ?_ ?_
    · intro h k hk; rw [A.I (by omega)]; exact m.ik h k hk
    · rw [A.I (by omega)]; exact m.hi
    · rw [gI_sI, if_neg (by omega), gI_sI, if_pos ⟨rfl, rfl⟩]
    · intro k hk; omega
    · rw [A.I (by omega)]; exact m.fo
  have AU : Ag (XU u) M (sI (sI M u 6 (nN 0)) u 0 (nN 0)) := A.mono fun h k z => ⟨by omega, by omega⟩
  simp (disch := first | omega | rfl | (repeat' (first | exact gS_sI | exact gP_sI | refine Eq.trans gS_sI ?_ | refine Eq.trans gP_sI ?_ | refine Eq.trans (gIr_sI (by omega)) ?_ | rfl))) only [m_135, q_aload0, q_aload0N, q_get_i, pTag_1, pRf_s, q_istore2, q_iconst, q_put_i, q_iload1, q_invv1, inv_1, q_if_ne, q_goto, q_nop, q_if_le, q_iret, q_istore3, q_iload3, q_iload2, q_ic_ge, q_bipush, q_invv2, q_get_r, q_iald, q_isub, q_iadd, q_ic_ne, q_iinc3, e_135_0, e_135_1, e_135_2, e_135_3, e_135_5, e_135_6, e_135_7, L_0, L_1, L_6, L_7, L_97, k_some, k_none, pRm_i, pRm_r, pRm_0, pF_1, pF_2, inv_s, s.k0, gS_sI, tn, isF_t hm hw (ix hf), zb_0, gS_sI, gP_sI, gI_sI, Nat.add_left_cancel_iff, Nat.add_eq_left, Nat.left_eq_add, nN_le, nN_lt, nN_eq, nN_add, nN_mul, nN_lt0, nN_ge0, nN_gt0, nN_le0, nN_eq0, nN_eq1, nN_neN, pIn_n, pIx_n, eq_self, Nat.reduceLT, Bool.false_eq_true, Nat.add_zero, Nat.zero_add, Nat.reduceAdd, Nat.reduceMul, Nat.reduceSub, Nat.zero_le, Nat.reduceLeDiff, Nat.reduceEqDiff, Nat.le_refl, not_false_eq_true, not_true_eq_false, false_implies, true_implies, forall_const, true_and, and_true, if_true, if_false, implies_true, and_self, ne_eq, false_and, and_false, or_false, false_or, true_or, or_true]
  have e7 : sFits a f n b = if fstN (fitP a f b) (fitM a f n) 0 = fitM a f n ∧ n = fD a f + 2 then iN (-1) else nN (fstN (fitP a f b) (fitM a f n) 0) := rfl
  have m1 : fitM a f n ≤ n := by unfold fitM; split <;> omega
  have m2 : fitM a f n ≤ fD a f + 2 := by unfold fitM; split <;> omega
  have m3 : fitM a f n = n ∨ fitM a f n = fD a f + 2 := by unfold fitM; split <;> omega
  rw [e7]
  clear e7
  generalize fitM a f n = mm at *
  have s2 := hm2.1
  have tb : ∀ k, k < n → gI (sI (sI M u 6 (nN 0)) u 0 (nN 0)) (u + 4) k = nN (b k) := fun k hk => by rw [A.I (by omega)]; exact m.tb k hk
  rw [fst_rule (n := mm) (P := fitP a f b) (C := fun k => ([some (.ref u), some (.int (nN f)), some (.int (nN n)), some (.int (nN k))], [], sI (sI M u 6 (nN 0)) u 0 (nN 0))) ?_ mm 0 (by omega)]
  · obtain ⟨z1, z2⟩ := fstN_le (P := fitP a f b) mm 0
    have out : ∀ kk, kk ≤ mm → kk = fstN (fitP a f b) mm 0 → bw (d + 3) 135 5 ([some (.ref u), some (.int (nN f)), some (.int (nN n)), some (.int (nN kk))], [], sI (sI M u 6 (nN 0)) u 0 (nN 0)) (fun o M' => KO M' u 0 (if fstN (fitP a f b) mm 0 = mm ∧ n = fD a f + 2 then iN (-1) else nN (fstN (fitP a f b) mm 0)) o ∧ MI M' u a ak img 0 b fl ∧ Ag (XU u) M M') := by
      intro kk hk he
      rw [← he]
      by_cases h : kk = n
      · subst h
        by_cases h2 : kk = fD a f + 2
        · rw [if_pos ⟨by omega, h2⟩]
          subst h2
          simp (disch := first | omega | rfl | (repeat' (first | exact gS_sI | exact gP_sI | refine Eq.trans gS_sI ?_ | refine Eq.trans gP_sI ?_ | refine Eq.trans (gIr_sI (by omega)) ?_ | rfl))) only [q_aload0, q_aload0N, q_get_i, pTag_1, pRf_s, q_istore2, q_iconst, q_put_i, q_iload1, q_invv1, inv_1, q_if_ne, q_goto, q_nop, q_if_le, q_iret, q_istore3, q_iload3, q_iload2, q_ic_ge, q_bipush, q_invv2, q_get_r, q_iald, q_isub, q_iadd, q_ic_ne, q_iinc3, e_135_0, e_135_1, e_135_2, e_135_3, e_135_5, e_135_6, e_135_7, L_0, L_1, L_6, L_7, L_97, k_some, k_none, pRm_i, pRm_r, pRm_0, pF_1, pF_2, inv_s, e_135_5, g3, s2.k0, w_ofX hm2, gS_sI, gP_sI, gI_sI, Nat.add_left_cancel_iff, Nat.add_eq_left, Nat.left_eq_add, nN_le, nN_lt, nN_eq, nN_add, nN_mul, nN_lt0, nN_ge0, nN_gt0, nN_le0, nN_eq0, nN_eq1, nN_neN, pIn_n, pIx_n, eq_self, Nat.reduceLT, Bool.false_eq_true, Nat.add_zero, Nat.zero_add, Nat.reduceAdd, Nat.reduceMul, Nat.reduceSub, Nat.zero_le, Nat.reduceLeDiff, Nat.reduceEqDiff, Nat.le_refl, not_false_eq_true, not_true_eq_false, false_implies, true_implies, forall_const, true_and, and_true, if_true, if_false, implies_true, and_self, ne_eq, false_and, and_false, or_false, false_or, true_or, or_true]
          exact ⟨KO.one.mpr (fun _ => rfl), fin, AU⟩
        · rw [if_neg (fun z => h2 z.2)]
          simp (disch := first | omega | rfl | (repeat' (first | exact gS_sI | exact gP_sI | refine Eq.trans gS_sI ?_ | refine Eq.trans gP_sI ?_ | refine Eq.trans (gIr_sI (by omega)) ?_ | rfl))) only [q_aload0, q_aload0N, q_get_i, pTag_1, pRf_s, q_istore2, q_iconst, q_put_i, q_iload1, q_invv1, inv_1, q_if_ne, q_goto, q_nop, q_if_le, q_iret, q_istore3, q_iload3, q_iload2, q_ic_ge, q_bipush, q_invv2, q_get_r, q_iald, q_isub, q_iadd, q_ic_ne, q_iinc3, e_135_0, e_135_1, e_135_2, e_135_3, e_135_5, e_135_6, e_135_7, L_0, L_1, L_6, L_7, L_97, k_some, k_none, pRm_i, pRm_r, pRm_0, pF_1, pF_2, inv_s, e_135_5, g3, h2, s2.k0, w_ofX hm2, gS_sI, gP_sI, gI_sI, Nat.add_left_cancel_iff, Nat.add_eq_left, Nat.left_eq_add, nN_le, nN_lt, nN_eq, nN_add, nN_mul, nN_lt0, nN_ge0, nN_gt0, nN_le0, nN_eq0, nN_eq1, nN_neN, pIn_n, pIx_n, eq_self, Nat.reduceLT, Bool.false_eq_true, Nat.add_zero, Nat.zero_add, Nat.reduceAdd, Nat.reduceMul, Nat.reduceSub, Nat.zero_le, Nat.reduceLeDiff, Nat.reduceEqDiff, Nat.le_refl, not_false_eq_true, not_true_eq_false, false_implies, true_implies, forall_const, true_and, and_true, if_true, if_false, implies_true, and_self, ne_eq, false_and, and_false, or_false, false_or, true_or, or_true]
          exact ⟨KO.one.mpr (fun _ => rfl), fin, AU⟩
      · rw [if_neg (fun z => by omega)]
        simp (disch := first | omega | rfl | (repeat' (first | exact gS_sI | exact gP_sI | refine Eq.trans gS_sI ?_ | refine Eq.trans gP_sI ?_ | refine Eq.trans (gIr_sI (by omega)) ?_ | rfl))) only [q_aload0, q_aload0N, q_get_i, pTag_1, pRf_s, q_istore2, q_iconst, q_put_i, q_iload1, q_invv1, inv_1, q_if_ne, q_goto, q_nop, q_if_le, q_iret, q_istore3, q_iload3, q_iload2, q_ic_ge, q_bipush, q_invv2, q_get_r, q_iald, q_isub, q_iadd, q_ic_ne, q_iinc3, e_135_0, e_135_1, e_135_2, e_135_3, e_135_5, e_135_6, e_135_7, L_0, L_1, L_6, L_7, L_97, k_some, k_none, pRm_i, pRm_r, pRm_0, pF_1, pF_2, inv_s, e_135_5, h, gS_sI, gP_sI, gI_sI, Nat.add_left_cancel_iff, Nat.add_eq_left, Nat.left_eq_add, nN_le, nN_lt, nN_eq, nN_add, nN_mul, nN_lt0, nN_ge0, nN_gt0, nN_le0, nN_eq0, nN_eq1, nN_neN, pIn_n, pIx_n, eq_self, Nat.reduceLT, Bool.false_eq_true, Nat.add_zero, Nat.zero_add, Nat.reduceAdd, Nat.reduceMul, Nat.reduceSub, Nat.zero_le, Nat.reduceLeDiff, Nat.reduceEqDiff, Nat.le_refl, not_false_eq_true, not_true_eq_false, false_implies, true_implies, forall_const, true_and, and_true, if_true, if_false, implies_true, and_self, ne_eq, false_and, and_false, or_false, false_or, true_or, or_true]
        exact ⟨KO.one.mpr (fun _ => rfl), fin, AU⟩
    have hP := fstN_at (P := fitP a f b) mm 0
    generalize hkk : fstN (fitP a f b) mm 0 = kk at *
    have o9 := out kk (by omega) rfl
    rw [e_135_4]
    by_cases h1 : n ≤ kk
    · simp (disch := first | omega | rfl | (repeat' (first | exact gS_sI | exact gP_sI | refine Eq.trans gS_sI ?_ | refine Eq.trans gP_sI ?_ | refine Eq.trans (gIr_sI (by omega)) ?_ | rfl))) only [q_aload0, q_aload0N, q_get_i, pTag_1, pRf_s, q_istore2, q_iconst, q_put_i, q_iload1, q_invv1, inv_1, q_if_ne, q_goto, q_nop, q_if_le, q_iret, q_istore3, q_iload3, q_iload2, q_ic_ge, q_bipush, q_invv2, q_get_r, q_iald, q_isub, q_iadd, q_ic_ne, q_iinc3, e_135_0, e_135_1, e_135_2, e_135_3, e_135_6, e_135_7, L_0, L_1, L_6, L_7, L_97, k_some, k_none, pRm_i, pRm_r, pRm_0, pF_1, pF_2, inv_s, h1, gS_sI, gP_sI, gI_sI, Nat.add_left_cancel_iff, Nat.add_eq_left, Nat.left_eq_add, nN_le, nN_lt, nN_eq, nN_add, nN_mul, nN_lt0, nN_ge0, nN_gt0, nN_le0, nN_eq0, nN_eq1, nN_neN, pIn_n, pIx_n, eq_self, Nat.reduceLT, Bool.false_eq_true, Nat.add_zero, Nat.zero_add, Nat.reduceAdd, Nat.reduceMul, Nat.reduceSub, Nat.zero_le, Nat.reduceLeDiff, Nat.reduceEqDiff, Nat.le_refl, not_false_eq_true, not_true_eq_false, false_implies, true_implies, forall_const, true_and, and_true, if_true, if_false, implies_true, and_self, ne_eq, false_and, and_false, or_false, false_or, true_or, or_true]
      exact o9
    · by_cases h2 : fD a f + 2 ≤ kk
      · simp (disch := first | omega | rfl | (repeat' (first | exact gS_sI | exact gP_sI | refine Eq.trans gS_sI ?_ | refine Eq.trans gP_sI ?_ | refine Eq.trans (gIr_sI (by omega)) ?_ | rfl))) only [q_aload0, q_aload0N, q_get_i, pTag_1, pRf_s, q_istore2, q_iconst, q_put_i, q_iload1, q_invv1, inv_1, q_if_ne, q_goto, q_nop, q_if_le, q_iret, q_istore3, q_iload3, q_iload2, q_ic_ge, q_bipush, q_invv2, q_get_r, q_iald, q_isub, q_iadd, q_ic_ne, q_iinc3, e_135_0, e_135_1, e_135_2, e_135_3, e_135_6, e_135_7, L_0, L_1, L_6, L_7, L_97, k_some, k_none, pRm_i, pRm_r, pRm_0, pF_1, pF_2, inv_s, h1, h2, g3, s2.k0, w_ofX hm2, gS_sI, gP_sI, gI_sI, Nat.add_left_cancel_iff, Nat.add_eq_left, Nat.left_eq_add, nN_le, nN_lt, nN_eq, nN_add, nN_mul, nN_lt0, nN_ge0, nN_gt0, nN_le0, nN_eq0, nN_eq1, nN_neN, pIn_n, pIx_n, eq_self, Nat.reduceLT, Bool.false_eq_true, Nat.add_zero, Nat.zero_add, Nat.reduceAdd, Nat.reduceMul, Nat.reduceSub, Nat.zero_le, Nat.reduceLeDiff, Nat.reduceEqDiff, Nat.le_refl, not_false_eq_true, not_true_eq_false, false_implies, true_implies, forall_const, true_and, and_true, if_true, if_false, implies_true, and_self, ne_eq, false_and, and_false, or_false, false_or, true_or, or_true]
        exact o9
      · have h4 : ¬ (nN (b kk) - nN 97 = fa a f (7 + kk)) := by simpa [fitP] using hP (by omega)
        have h5 : kk < 400 := by omega
        simp (disch := first | omega | rfl | (repeat' (first | exact gS_sI | exact gP_sI | refine Eq.trans gS_sI ?_ | refine Eq.trans gP_sI ?_ | refine Eq.trans (gIr_sI (by omega)) ?_ | rfl))) only [q_aload0, q_aload0N, q_get_i, pTag_1, pRf_s, q_istore2, q_iconst, q_put_i, q_iload1, q_invv1, inv_1, q_if_ne, q_goto, q_nop, q_if_le, q_iret, q_istore3, q_iload3, q_iload2, q_ic_ge, q_bipush, q_invv2, q_get_r, q_iald, q_isub, q_iadd, q_ic_ne, q_iinc3, e_135_0, e_135_1, e_135_2, e_135_3, e_135_6, e_135_7, L_0, L_1, L_6, L_7, L_97, k_some, k_none, pRm_i, pRm_r, pRm_0, pF_1, pF_2, inv_s, h1, h2, h4, h5, g3, s2.k0, s2.k4, s2.p5, pIn_n, pIx_n, tb, w_ofX hm2, gS_sI, gP_sI, gI_sI, Nat.add_left_cancel_iff, Nat.add_eq_left, Nat.left_eq_add, nN_le, nN_lt, nN_eq, nN_add, nN_mul, nN_lt0, nN_ge0, nN_gt0, nN_le0, nN_eq0, nN_eq1, nN_neN, pIn_n, pIx_n, eq_self, Nat.reduceLT, Bool.false_eq_true, Nat.add_zero, Nat.zero_add, Nat.reduceAdd, Nat.reduceMul, Nat.reduceSub, Nat.zero_le, Nat.reduceLeDiff, Nat.reduceEqDiff, Nat.le_refl, not_false_eq_true, not_true_eq_false, false_implies, true_implies, forall_const, true_and, and_true, if_true, if_false, implies_true, and_self, ne_eq, false_and, and_false, or_false, false_or, true_or, or_true]
        exact o9
  · intro k hk hP
    have h1 : ¬ n ≤ k := by omega
    have h2 : ¬ fD a f + 2 ≤ k := by omega
    have h4 : nN (b k) - nN 97 = fa a f (7 + k) := by simpa [fitP] using hP
    have h5 : k < 400 := by omega
    rw [e_135_4]
    simp (disch := first | omega | rfl | (repeat' (first | exact gS_sI | exact gP_sI | refine Eq.trans gS_sI ?_ | refine Eq.trans gP_sI ?_ | refine Eq.trans (gIr_sI (by omega)) ?_ | rfl))) only [q_aload0, q_aload0N, q_get_i, pTag_1, pRf_s, q_istore2, q_iconst, q_put_i, q_iload1, q_invv1, inv_1, q_if_ne, q_goto, q_nop, q_if_le, q_iret, q_istore3, q_iload3, q_iload2, q_ic_ge, q_bipush, q_invv2, q_get_r, q_iald, q_isub, q_iadd, q_ic_ne, q_iinc3, e_135_0, e_135_1, e_135_2, e_135_3, e_135_6, e_135_7, L_0, L_1, L_6, L_7, L_97, k_some, k_none, pRm_i, pRm_r, pRm_0, pF_1, pF_2, inv_s, h1, h2, h4, h5, g3, s2.k0, s2.k4, s2.p5, pIn_n, pIx_n, tb, w_ofX hm2, gS_sI, gP_sI, gI_sI, Nat.add_left_cancel_iff, Nat.add_eq_left, Nat.left_eq_add, nN_le, nN_lt, nN_eq, nN_add, nN_mul, nN_lt0, nN_ge0, nN_gt0, nN_le0, nN_eq0, nN_eq1, nN_neN, pIn_n, pIx_n, eq_self, Nat.reduceLT, Bool.false_eq_true, Nat.add_zero, Nat.zero_add, Nat.reduceAdd, Nat.reduceMul, Nat.reduceSub, Nat.zero_le, Nat.reduceLeDiff, Nat.reduceEqDiff, Nat.le_refl, not_false_eq_true, not_true_eq_false, false_implies, true_implies, forall_const, true_and, and_true, if_true, if_false, implies_true, and_self, ne_eq, false_and, and_false, or_false, false_or, true_or, or_true]
theorem k_fits_n (m : MI M u a ak img n b fl) (hw : Wf a) (hx : ¬ Ix (nF a) x) : mw (d + 4) 135 [.ref u, .int x] M (fun o M' => KO M' u 1 0 o ∧ MI M' u a ak img 0 b fl ∧ Ag (XU u) M M') := by
  have s := m.mr.1
  have tn := m.tn
  have A : Ag (fun h k => h = u ∧ (k = 0 ∨ k = 6)) M (sI (sI M u 6 (nN 0)) u 0 (nN 1)) := Ag.put (Ag.one ⟨rfl, Or.inr rfl⟩) ⟨rfl, Or.inl rfl⟩
  have hm : MR (sI M u 6 (nN 0)) u a := m.mr.ag (Ag.one (X := fun h k => h = u ∧ k = 6) ⟨rfl, rfl⟩) (fun k z => by omega)
  have hm2 : MR (sI (sI M u 6 (nN 0)) u 0 (nN 1)) u a := m.mr.ag A (fun k z => by omega)
  have fin : MI (sI (sI M u 6 (nN 0)) u 0 (nN 1)) u a ak img 0 b fl := by
    refine MI.mk hm2 ?_ ?_ ?_ ?_ ?_
    · intro h k hk; rw [A.I (by omega)]; exact m.ik h k hk
    · rw [A.I (by omega)]; exact m.hi
    · rw [gI_sI, if_neg (by omega), gI_sI, if_pos ⟨rfl, rfl⟩]
    · intro k hk; omega
    · rw [A.I (by omega)]; exact m.fo
  have AU : Ag (XU u) M (sI (sI M u 6 (nN 0)) u 0 (nN 1)) := A.mono fun h k z => ⟨by omega, by omega⟩
  simp (disch := first | omega | rfl | (repeat' (first | exact gS_sI | exact gP_sI | refine Eq.trans gS_sI ?_ | refine Eq.trans gP_sI ?_ | refine Eq.trans (gIr_sI (by omega)) ?_ | rfl))) only [m_135, q_aload0, q_aload0N, q_get_i, pTag_1, pRf_s, q_istore2, q_iconst, q_put_i, q_iload1, q_invv1, inv_1, q_if_ne, q_goto, q_nop, q_if_le, q_iret, q_istore3, q_iload3, q_iload2, q_ic_ge, q_bipush, q_invv2, q_get_r, q_iald, q_isub, q_iadd, q_ic_ne, q_iinc3, e_135_0, e_135_1, e_135_2, e_135_3, e_135_5, e_135_6, e_135_7, L_0, L_1, L_6, L_7, L_97, k_some, k_none, pRm_i, pRm_r, pRm_0, pF_1, pF_2, inv_s, s.k0, gS_sI, tn, isF_f hm hw hx, zb_0, gS_sI, gP_sI, gI_sI, Nat.add_left_cancel_iff, Nat.add_eq_left, Nat.left_eq_add, nN_le, nN_lt, nN_eq, nN_add, nN_mul, nN_lt0, nN_ge0, nN_gt0, nN_le0, nN_eq0, nN_eq1, nN_neN, pIn_n, pIx_n, eq_self, Nat.reduceLT, Bool.false_eq_true, Nat.add_zero, Nat.zero_add, Nat.reduceAdd, Nat.reduceMul, Nat.reduceSub, Nat.zero_le, Nat.reduceLeDiff, Nat.reduceEqDiff, Nat.le_refl, not_false_eq_true, not_true_eq_false, false_implies, true_implies, forall_const, true_and, and_true, if_true, if_false, implies_true, and_self, ne_eq, false_and, and_false, or_false, false_or, true_or, or_true]
  exact ⟨KO.one.mpr (fun h => absurd h (by omega)), fin, AU⟩
end FT
