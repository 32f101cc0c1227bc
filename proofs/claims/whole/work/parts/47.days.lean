/-! DAYS PASS; GIVE -/
section DY
variable {d t u q f p g n y x dd : Nat} {a a' : Nat → Int32} {M M' M0 : pMem} {Q : pOut → pMem → Prop}
theorem wf_day (hw : Wf a) (h : ∀ j, j ≠ 6 → a' j = a j) : Wf a' := by
  have hp' := hw.p'
  have hn' := hw.n'
  have hr' := hw.r'
  have eP : nP a' = nP a := by unfold nP; rw [h 1 (by omega)]
  have eT : nT a' = nT a := by unfold nT; rw [h 2 (by omega)]
  have eF : nF a' = nF a := by unfold nF; rw [h 3 (by omega)]
  have eE : nE a' = nE a := by unfold nE; rw [h 4 (by omega)]
  have eR : nR a' = nR a := by unfold nR; rw [h 5 (by omega)]
  have ef : ∀ g z, fa a' g z = fa a g z := fun g z => h _ (by omega)
  have ep : ∀ g z, pa a' g z = pa a g z := fun g z => h _ (by omega)
  have ee : ∀ g z, ea a' g z = ea a g z := fun g z => h _ (by omega)
  have er : ∀ g z, ra a' g z = ra a g z := fun g z => h _ (by omega)
  refine Wf.mk ?_ ?_ ?_ ?_ ?_ ?_ ?_ ?_ ?_ ?_ ?_ ?_ ?_ ?_ ?_ ?_ ?_ ?_ ?_ ?_ ?_ ?_
  · rw [h 1 (by omega), eP]; exact hw.p
  · rw [eP]; exact hp'
  · rw [h 2 (by omega), eT]; exact hw.t
  · rw [eT]; exact hw.t'
  · rw [h 3 (by omega), eF]; exact hw.f
  · rw [eF]; exact hw.f'
  · rw [h 4 (by omega), eE]; exact hw.n
  · rw [eE]; exact hn'
  · rw [h 5 (by omega), eR]; exact hw.r
  · rw [eR]; exact hr'
  · rw [h 7 (by omega)]; exact hw.law
  · rw [h 0 (by omega)]; exact hw.texts
  · simp only [eP, ep]; exact hw.lim
  · simp only [eP, eT, ep]; exact hw.tmp
  · simp only [eP, ep]; exact hw.near
  · simp only [eP, eF, ef]; exact hw.fG
  · simp only [eF, ef]; exact hw.fA
  · simp only [eP, eF, ef]; exact hw.fH
  · simp only [eF, fD, ef]; exact hw.fD
  · simp only [eF, ef]; exact hw.fC
  · simp only [eE, eP, ee]; exact hw.need
  · simp only [eR, eP, er]; exact hw.ring
theorem rep_day {v : Int32} (r : Rep M t a) : Rep (sI M t 13 v) t (sDayA a v) := by
  have h : ∀ j, j ≠ 6 → sDayA a v j = a j := fun j hj => if_neg hj
  have eP : nP (sDayA a v) = nP a := by unfold nP; rw [h 1 (by omega)]
  have eT : nT (sDayA a v) = nT a := by unfold nT; rw [h 2 (by omega)]
  have eF : nF (sDayA a v) = nF a := by unfold nF; rw [h 3 (by omega)]
  have eE : nE (sDayA a v) = nE a := by unfold nE; rw [h 4 (by omega)]
  have eR : nR (sDayA a v) = nR a := by unfold nR; rw [h 5 (by omega)]
  have ef : ∀ g z, fa (sDayA a v) g z = fa a g z := fun g z => h _ (by omega)
  have ep : ∀ g z, pa (sDayA a v) g z = pa a g z := fun g z => h _ (by omega)
  have ee : ∀ g z, ea (sDayA a v) g z = ea a g z := fun g z => h _ (by omega)
  have er : ∀ g z, ra (sDayA a v) g z = ra a g z := fun g z => h _ (by omega)
  have eq1 : ∀ q, sRich (sDayA a v) q = sRich a q := fun q => by simp only [sRich, eF, ef]
  have eq2 : ∀ q, sDebt (sDayA a v) q = sDebt a q := fun q => by simp only [sDebt, eF, ef]
  have w : ∀ i k, i ≠ 0 → gI (sI M t 13 v) (t + i) k = gI M (t + i) k := fun i k hi => by rw [gI_sI, if_neg (by omega)]
  have w0 : ∀ k, k ≠ 13 → gI (sI M t 13 v) t k = gI M t k := fun k hk => by rw [gI_sI, if_neg (by omega)]
  refine Rep.mk ?_ ?_ ?_ ?_ ?_ ?_ ?_ ?_ ?_ ?_ ?_ ?_ ?_ ?_ ?_ ?_ ?_ ?_ ?_ ?_ ?_ ?_ ?_ ?_ ?_ ?_
  · exact r.sh
  · rw [w 1 _ (by omega), h 1 (by omega)]; exact r.np
  · rw [w 7 _ (by omega), h 3 (by omega)]; exact r.nf
  · rw [w0 _ (by omega), h 2 (by omega)]; exact r.nt
  · rw [w0 _ (by omega), h 4 (by omega)]; exact r.ne
  · rw [w0 _ (by omega), h 5 (by omega)]; exact r.nr
  · rw [w0 _ (by omega), h 0 (by omega)]; exact r.nx
  · rw [gI_sI, if_pos ⟨rfl, rfl⟩]; exact (if_pos rfl).symm
  · rw [w0 _ (by omega), h 7 (by omega)]; exact r.law
  · simp only [eP, ep, w 2 _ (show (2:Nat) ≠ 0 by omega)]; exact r.lim
  · simp only [eP, ep, w 3 _ (show (3:Nat) ≠ 0 by omega)]; exact r.tmp
  · simp only [eP, ep, w 4 _ (show (4:Nat) ≠ 0 by omega)]; exact r.near
  · simp only [eP, eq1, w 5 _ (show (5:Nat) ≠ 0 by omega)]; exact r.rich
  · simp only [eP, eq2, w 6 _ (show (6:Nat) ≠ 0 by omega)]; exact r.debt
  · simp only [eF, ef, w 8 _ (show (8:Nat) ≠ 0 by omega)]; exact r.g
  · simp only [eF, ef, w 9 _ (show (9:Nat) ≠ 0 by omega)]; exact r.h
  · simp only [eF, ef, w 10 _ (show (10:Nat) ≠ 0 by omega)]; exact r.am
  · simp only [eF, ef, w 11 _ (show (11:Nat) ≠ 0 by omega)]; exact r.hd
  · simp only [eF, ef, w 12 _ (show (12:Nat) ≠ 0 by omega)]; exact r.en
  · simp only [eF, ef, w 13 _ (show (13:Nat) ≠ 0 by omega)]; exact r.fc
  · simp only [eF, ef, fD, w 14 _ (show (14:Nat) ≠ 0 by omega)]; exact r.row
  · simp only [eE, ee, w 17 _ (show (17:Nat) ≠ 0 by omega)]; exact r.nb
  · simp only [eE, ee, w 18 _ (show (18:Nat) ≠ 0 by omega)]; exact r.no
  · simp only [eE, ee, w 19 _ (show (19:Nat) ≠ 0 by omega)]; exact r.nw
  · simp only [eR, er, w 20 _ (show (20:Nat) ≠ 0 by omega)]; exact r.rs
  · simp only [eR, er, w 21 _ (show (21:Nat) ≠ 0 by omega)]; exact r.rr
theorem sDays_ok {n : Int32} (hw : Wf a) : Wf (sDays a n).1 ∧ Gn (sDayA a (a 6 + n)) (sDays a n).1 := by
  have hf' := hw.f'
  have hd : ∀ j, j ≠ 6 → sDayA a (a 6 + n) j = a j := fun j hj => if_neg hj
  have eF : nF (sDayA a (a 6 + n)) = nF a := by unfold nF; rw [hd 3 (by omega)]
  have := lp_inv (f := sDayF) (P := fun _ s => Wf s.1 ∧ Gn (sDayA a (a 6 + n)) s.1) (nF a) 0 (sDayA a (a 6 + n), nN 0) ⟨wf_day hw hd, Gn.rfl⟩ (fun i s h1 h2 h3 => by
    have e : nF s.1 = nF a := (lo_nF h3.2.1).trans eF
    unfold sDayF
    split
    · exact ⟨sGone_wf h3.1 (by omega), h3.2.trans (Gn.gone (by omega))⟩
    · exact h3)
  exact this
theorem w_daysPass {n : Int32} (hr : Rep M t a) (hw : Wf a) : mw (d + 6) 234 [.ref t, .int n] M (fun o M' => o = .inl (some (.int (sDays a n).2)) ∧ Rep M' t (sDays a n).1 ∧ Ag (XTw (gS M) (gP M) t) M M') := by
  have hf' := hw.f'
  have hd : ∀ j, j ≠ 6 → sDayA a (a 6 + n) j = a j := fun j hj => if_neg hj
  have eF : nF (sDayA a (a 6 + n)) = nF a := by unfold nF; rw [hd 3 (by omega)]
  have r0 : Rep (sI M t 13 (a 6 + n)) t (sDayA a (a 6 + n)) := rep_day hr
  have A0 : Ag (XTw (gS M) (gP M) t) M (sI M t 13 (a 6 + n)) := Ag.one (Or.inl (by omega))
  simp (disch := omega) only [m_234, q_aload0, q_aload0N, q_dup_i, q_dup_r, q_get_i, pTag_1, pRf_s, q_iload1, q_iadd, q_put_i, q_iconst, q_istore2, q_istore3, q_nop, q_iload3, q_get_r, q_ic_ge, q_invs2_21, q_istore4, q_invv1, inv_1, q_if_ne, q_iload4, q_ic_eq, q_ic_gt, q_iinc2, q_iinc3, q_goto, q_iload2, q_iret, e_234_0, e_234_2, e_234_3, L_0, L_1, k_some, k_none, pRm_i, pRm_r, pRm_0, pF_1, pF_2, inv_s, hr.sh.k0, hr.nt, hr.ne, hr.nr, hr.nx, hr.day, hr.law, hr.sh.p0, hr.sh.p1, hr.sh.p2, hr.sh.p3, hr.sh.p4, hr.sh.p5, hr.sh.p6, hr.sh.p7, hr.sh.p8, eq_self, Bool.false_eq_true, Nat.add_zero, Nat.zero_add, Nat.reduceAdd, Nat.reduceMul, Nat.reduceSub, Nat.zero_le, Nat.reduceLeDiff, Nat.reduceEqDiff, Nat.le_refl, not_false_eq_true, not_true_eq_false, false_implies, true_implies, forall_const, true_and, and_true, if_true, if_false, implies_true, and_self, ne_eq, false_and, and_false, or_false, false_or, true_or, or_true]
  refine loopR (n := nF a) (J := Option Value) (C := fun k s z M => ([some (.ref t), some (.int n), some (.int s.2), some (.int (nN k)), z], [], M)) (f := sDayF) (R := fun k s M1 => (Rep M1 t s.1 ∧ Ag (XTw (gS M) (gP M) t) M M1) ∧ Wf s.1 ∧ Gn (sDayA a (a 6 + n)) s.1) ?_ (nF a) 0 (sDayA a (a 6 + n), nN 0) _ _ (by omega) ⟨⟨r0, A0⟩, wf_day hw hd, Gn.rfl⟩ ?_
  · rintro k s z M1 hk ⟨⟨r1, A1⟩, w1, G1⟩ go
    have e : nF s.1 = nF a := (lo_nF G1.1).trans eF
    have e1 : ¬ nF s.1 ≤ k := by omega
    have hf1 : k < nF s.1 := by omega
    have go2 : ∀ M2, (Rep M2 t (sDayF k s).1 ∧ Ag (XTw (gS M) (gP M) t) M M2) → Wf (sDayF k s).1 ∧ Gn (sDayA a (a 6 + n)) (sDayF k s).1 → bw (d + 5) 234 2 ([some (.ref t), some (.int n), some (.int (sDayF k s).2), some (.int (nN k)), some (.int (fa s.1 k 4))], [], M2) _ := fun M2 h1 h2 => by
      rw [e_234_2]
      simp (disch := omega) only [q_aload0, q_aload0N, q_dup_i, q_dup_r, q_get_i, pTag_1, pRf_s, q_iload1, q_iadd, q_put_i, q_iconst, q_istore2, q_istore3, q_nop, q_iload3, q_get_r, q_ic_ge, q_invs2_21, q_istore4, q_invv1, inv_1, q_if_ne, q_iload4, q_ic_eq, q_ic_gt, q_iinc2, q_iinc3, q_goto, q_iload2, q_iret, e_234_0, e_234_2, e_234_3, L_0, L_1, k_some, k_none, pRm_i, pRm_r, pRm_0, pF_1, pF_2, inv_s, nN_add]
      exact go M2 _ ⟨h1, h2⟩
    rw [e_234_1]
    by_cases c : ¬ fa s.1 k 2 = iN (-1) ∧ ¬ fa s.1 k 4 = iN (-1) ∧ fa s.1 k 4 ≤ s.1 6
    · have ef : sDayF k s = (sGone s.1 k, s.2 + nN 1) := by unfold sDayF; rw [if_pos c]
      rw [ef] at go2
      obtain ⟨c1, c2, c3⟩ := c
      have c3' : ¬ s.1 6 < fa s.1 k 4 := Int32.not_lt.mpr c3
      simp (disch := omega) only [q_aload0, q_aload0N, q_dup_i, q_dup_r, q_get_i, pTag_1, pRf_s, q_iload1, q_iadd, q_put_i, q_iconst, q_istore2, q_istore3, q_nop, q_iload3, q_get_r, q_ic_ge, q_invs2_21, q_istore4, q_invv1, inv_1, q_if_ne, q_iload4, q_ic_eq, q_ic_gt, q_iinc2, q_iinc3, q_goto, q_iload2, q_iret, e_234_0, e_234_3, L_0, L_1, k_some, k_none, pRm_i, pRm_r, pRm_0, pF_1, pF_2, inv_s, r1.sh.k7, r1.nf, r1.sh.r0, r1.sh.r1, r1.sh.r2, r1.sh.r3, r1.sh.r4, r1.sh.r5, r1.sh.r6, w_atN r1.sh.k8, w_atN r1.sh.k9, w_atN r1.sh.k10, w_atN r1.sh.k11, w_atN r1.sh.k12, w_atN r1.sh.k13, w_atN r1.sh.k14, r1.g, r1.h, r1.am, r1.hd, r1.en, r1.fc, r1.sh.k0, r1.nt, r1.ne, r1.nr, r1.nx, r1.day, r1.law, r1.sh.p0, r1.sh.p1, r1.sh.p2, r1.sh.p3, r1.sh.p4, r1.sh.p5, r1.sh.p6, r1.sh.p7, r1.sh.p8, w1.f, w_isGone r1 w1, c1, c2, c3', e1, bI_eq0, nN_le, nN_lt, nN_eq, nN_add, nN_mul, nN_lt0, nN_ge0, nN_gt0, nN_le0, nN_eq0, nN_eq1, nN_neN, pIn_n, pIx_n, eq_self, Bool.false_eq_true, Nat.add_zero, Nat.zero_add, Nat.reduceAdd, Nat.reduceMul, Nat.reduceSub, Nat.zero_le, Nat.reduceLeDiff, Nat.reduceEqDiff, Nat.le_refl, not_false_eq_true, not_true_eq_false, false_implies, true_implies, forall_const, true_and, and_true, if_true, if_false, implies_true, and_self, ne_eq, false_and, and_false, or_false, false_or, true_or, or_true]
      refine mw_mono (w_vanish r1 w1 hf1 c1) ?_
      rintro _ M2 ⟨rfl, r2, A2⟩
      rw [A1.S, A1.P] at A2
      simp (disch := omega) only [q_aload0, q_aload0N, q_dup_i, q_dup_r, q_get_i, pTag_1, pRf_s, q_iload1, q_iadd, q_put_i, q_iconst, q_istore2, q_istore3, q_nop, q_iload3, q_get_r, q_ic_ge, q_invs2_21, q_istore4, q_invv1, inv_1, q_if_ne, q_iload4, q_ic_eq, q_ic_gt, q_iinc2, q_iinc3, q_goto, q_iload2, q_iret, e_234_0, e_234_3, L_0, L_1, k_some, k_none, pRm_i, pRm_r, pRm_0, pF_1, pF_2, inv_s, eq_self, Bool.false_eq_true, Nat.add_zero, Nat.zero_add, Nat.reduceAdd, Nat.reduceMul, Nat.reduceSub, Nat.zero_le, Nat.reduceLeDiff, Nat.reduceEqDiff, Nat.le_refl, not_false_eq_true, not_true_eq_false, false_implies, true_implies, forall_const, true_and, and_true, if_true, if_false, implies_true, and_self, ne_eq, false_and, and_false, or_false, false_or, true_or, or_true]
      exact go2 M2 ⟨r2, A1.trans A2⟩ ⟨sGone_wf w1 hf1, G1.trans (Gn.gone (by omega))⟩
    · have ef : sDayF k s = s := by unfold sDayF; rw [if_neg c]
      rw [ef] at go2
      have fin := go2 M1 ⟨r1, A1⟩ ⟨w1, G1⟩
      by_cases c1 : fa s.1 k 2 = iN (-1)
      · simp (disch := omega) only [q_aload0, q_aload0N, q_dup_i, q_dup_r, q_get_i, pTag_1, pRf_s, q_iload1, q_iadd, q_put_i, q_iconst, q_istore2, q_istore3, q_nop, q_iload3, q_get_r, q_ic_ge, q_invs2_21, q_istore4, q_invv1, inv_1, q_if_ne, q_iload4, q_ic_eq, q_ic_gt, q_iinc2, q_iinc3, q_goto, q_iload2, q_iret, e_234_0, e_234_3, L_0, L_1, k_some, k_none, pRm_i, pRm_r, pRm_0, pF_1, pF_2, inv_s, r1.sh.k7, r1.nf, r1.sh.r0, r1.sh.r1, r1.sh.r2, r1.sh.r3, r1.sh.r4, r1.sh.r5, r1.sh.r6, w_atN r1.sh.k8, w_atN r1.sh.k9, w_atN r1.sh.k10, w_atN r1.sh.k11, w_atN r1.sh.k12, w_atN r1.sh.k13, w_atN r1.sh.k14, r1.g, r1.h, r1.am, r1.hd, r1.en, r1.fc, r1.sh.k0, r1.nt, r1.ne, r1.nr, r1.nx, r1.day, r1.law, r1.sh.p0, r1.sh.p1, r1.sh.p2, r1.sh.p3, r1.sh.p4, r1.sh.p5, r1.sh.p6, r1.sh.p7, r1.sh.p8, w1.f, w_isGone r1 w1, c1, e1, bI_eq0, nN_le, nN_lt, nN_eq, nN_add, nN_mul, nN_lt0, nN_ge0, nN_gt0, nN_le0, nN_eq0, nN_eq1, nN_neN, pIn_n, pIx_n, eq_self, Bool.false_eq_true, Nat.add_zero, Nat.zero_add, Nat.reduceAdd, Nat.reduceMul, Nat.reduceSub, Nat.zero_le, Nat.reduceLeDiff, Nat.reduceEqDiff, Nat.le_refl, not_false_eq_true, not_true_eq_false, false_implies, true_implies, forall_const, true_and, and_true, if_true, if_false, implies_true, and_self, ne_eq, false_and, and_false, or_false, false_or, true_or, or_true]
        exact fin
      · by_cases c2 : fa s.1 k 4 = iN (-1)
        · rw [c2] at fin
          simp (disch := omega) only [q_aload0, q_aload0N, q_dup_i, q_dup_r, q_get_i, pTag_1, pRf_s, q_iload1, q_iadd, q_put_i, q_iconst, q_istore2, q_istore3, q_nop, q_iload3, q_get_r, q_ic_ge, q_invs2_21, q_istore4, q_invv1, inv_1, q_if_ne, q_iload4, q_ic_eq, q_ic_gt, q_iinc2, q_iinc3, q_goto, q_iload2, q_iret, e_234_0, e_234_3, L_0, L_1, k_some, k_none, pRm_i, pRm_r, pRm_0, pF_1, pF_2, inv_s, r1.sh.k7, r1.nf, r1.sh.r0, r1.sh.r1, r1.sh.r2, r1.sh.r3, r1.sh.r4, r1.sh.r5, r1.sh.r6, w_atN r1.sh.k8, w_atN r1.sh.k9, w_atN r1.sh.k10, w_atN r1.sh.k11, w_atN r1.sh.k12, w_atN r1.sh.k13, w_atN r1.sh.k14, r1.g, r1.h, r1.am, r1.hd, r1.en, r1.fc, r1.sh.k0, r1.nt, r1.ne, r1.nr, r1.nx, r1.day, r1.law, r1.sh.p0, r1.sh.p1, r1.sh.p2, r1.sh.p3, r1.sh.p4, r1.sh.p5, r1.sh.p6, r1.sh.p7, r1.sh.p8, w1.f, w_isGone r1 w1, c1, c2, e1, bI_eq0, nN_le, nN_lt, nN_eq, nN_add, nN_mul, nN_lt0, nN_ge0, nN_gt0, nN_le0, nN_eq0, nN_eq1, nN_neN, pIn_n, pIx_n, eq_self, Bool.false_eq_true, Nat.add_zero, Nat.zero_add, Nat.reduceAdd, Nat.reduceMul, Nat.reduceSub, Nat.zero_le, Nat.reduceLeDiff, Nat.reduceEqDiff, Nat.le_refl, not_false_eq_true, not_true_eq_false, false_implies, true_implies, forall_const, true_and, and_true, if_true, if_false, implies_true, and_self, ne_eq, false_and, and_false, or_false, false_or, true_or, or_true]
          exact fin
        · have c3 : s.1 6 < fa s.1 k 4 := Int32.not_le.mp (fun z => c ⟨c1, c2, z⟩)
          simp (disch := omega) only [q_aload0, q_aload0N, q_dup_i, q_dup_r, q_get_i, pTag_1, pRf_s, q_iload1, q_iadd, q_put_i, q_iconst, q_istore2, q_istore3, q_nop, q_iload3, q_get_r, q_ic_ge, q_invs2_21, q_istore4, q_invv1, inv_1, q_if_ne, q_iload4, q_ic_eq, q_ic_gt, q_iinc2, q_iinc3, q_goto, q_iload2, q_iret, e_234_0, e_234_3, L_0, L_1, k_some, k_none, pRm_i, pRm_r, pRm_0, pF_1, pF_2, inv_s, r1.sh.k7, r1.nf, r1.sh.r0, r1.sh.r1, r1.sh.r2, r1.sh.r3, r1.sh.r4, r1.sh.r5, r1.sh.r6, w_atN r1.sh.k8, w_atN r1.sh.k9, w_atN r1.sh.k10, w_atN r1.sh.k11, w_atN r1.sh.k12, w_atN r1.sh.k13, w_atN r1.sh.k14, r1.g, r1.h, r1.am, r1.hd, r1.en, r1.fc, r1.sh.k0, r1.nt, r1.ne, r1.nr, r1.nx, r1.day, r1.law, r1.sh.p0, r1.sh.p1, r1.sh.p2, r1.sh.p3, r1.sh.p4, r1.sh.p5, r1.sh.p6, r1.sh.p7, r1.sh.p8, w1.f, w_isGone r1 w1, c1, c2, c3, e1, bI_eq0, nN_le, nN_lt, nN_eq, nN_add, nN_mul, nN_lt0, nN_ge0, nN_gt0, nN_le0, nN_eq0, nN_eq1, nN_neN, pIn_n, pIx_n, eq_self, Bool.false_eq_true, Nat.add_zero, Nat.zero_add, Nat.reduceAdd, Nat.reduceMul, Nat.reduceSub, Nat.zero_le, Nat.reduceLeDiff, Nat.reduceEqDiff, Nat.le_refl, not_false_eq_true, not_true_eq_false, false_implies, true_implies, forall_const, true_and, and_true, if_true, if_false, implies_true, and_self, ne_eq, false_and, and_false, or_false, false_or, true_or, or_true]
          exact fin
  · rintro M1 z ⟨⟨r1, A1⟩, w1, G1⟩
    have e : nF (lp (nF a) 0 (sDayA a (a 6 + n), nN 0) sDayF).1 = nF a := (lo_nF G1.1).trans eF
    have e1 : nF (lp (nF a) 0 (sDayA a (a 6 + n), nN 0) sDayF).1 ≤ nF a := by omega
    rw [e_234_1]
    simp (disch := omega) only [q_aload0, q_aload0N, q_dup_i, q_dup_r, q_get_i, pTag_1, pRf_s, q_iload1, q_iadd, q_put_i, q_iconst, q_istore2, q_istore3, q_nop, q_iload3, q_get_r, q_ic_ge, q_invs2_21, q_istore4, q_invv1, inv_1, q_if_ne, q_iload4, q_ic_eq, q_ic_gt, q_iinc2, q_iinc3, q_goto, q_iload2, q_iret, e_234_0, e_234_3, L_0, L_1, k_some, k_none, pRm_i, pRm_r, pRm_0, pF_1, pF_2, inv_s, r1.sh.k7, r1.nf, r1.sh.r0, r1.sh.r1, r1.sh.r2, r1.sh.r3, r1.sh.r4, r1.sh.r5, r1.sh.r6, w_atN r1.sh.k8, w_atN r1.sh.k9, w_atN r1.sh.k10, w_atN r1.sh.k11, w_atN r1.sh.k12, w_atN r1.sh.k13, w_atN r1.sh.k14, r1.g, r1.h, r1.am, r1.hd, r1.en, r1.fc, r1.sh.k0, r1.nt, r1.ne, r1.nr, r1.nx, r1.day, r1.law, r1.sh.p0, r1.sh.p1, r1.sh.p2, r1.sh.p3, r1.sh.p4, r1.sh.p5, r1.sh.p6, r1.sh.p7, r1.sh.p8, w1.f, e1, nN_le, nN_lt, nN_eq, nN_add, nN_mul, nN_lt0, nN_ge0, nN_gt0, nN_le0, nN_eq0, nN_eq1, nN_neN, pIn_n, pIx_n, eq_self, Bool.false_eq_true, Nat.add_zero, Nat.zero_add, Nat.reduceAdd, Nat.reduceMul, Nat.reduceSub, Nat.zero_le, Nat.reduceLeDiff, Nat.reduceEqDiff, Nat.le_refl, not_false_eq_true, not_true_eq_false, false_implies, true_implies, forall_const, true_and, and_true, if_true, if_false, implies_true, and_self, ne_eq, false_and, and_false, or_false, false_or, true_or, or_true]
    exact ⟨rfl, r1, A1⟩
end DY
