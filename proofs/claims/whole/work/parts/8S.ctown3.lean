/-! THE CLASS'S town() -/
section CTw
variable {d t n u q m c s p x y v k K lo f : Nat} {a a' ak : Nat → Int32} {img : Bool} {b b' : Nat → Nat} {fl fl' : Int32} {M M1 M2 M3 M' : pMem} {Q : pOut → pMem → Prop}
theorem wt_txt (hw : Wt a K) (hv : v ≤ 10) : Wt (aU a 0 (nN v)) K := by
  have lo : ∀ j, j ≠ 0 → aU a 0 (nN v) j = a j := fun j h => aU_ne h
  have eP : nP (aU a 0 (nN v)) = nP a := by unfold nP; rw [lo 1 (by omega)]
  have eT : nT (aU a 0 (nN v)) = nT a := by unfold nT; rw [lo 2 (by omega)]
  have eE : nE (aU a 0 (nN v)) = nE a := by unfold nE; rw [lo 4 (by omega)]
  have eR : nR (aU a 0 (nN v)) = nR a := by unfold nR; rw [lo 5 (by omega)]
  have ep : ∀ q w, pa (aU a 0 (nN v)) q w = pa a q w := fun q w => lo _ (by omega)
  have ee : ∀ q w, ea (aU a 0 (nN v)) q w = ea a q w := fun q w => lo _ (by omega)
  have er : ∀ q w, ra (aU a 0 (nN v)) q w = ra a q w := fun q w => lo _ (by omega)
  have w1 : Wf (aU a 0 (nN v)) := by
    have hw := hw.1
    refine wf_lo hw (fun j hj => lo j (by omega)) (lo 3 (by omega)) (by omega) (by rw [lo 1 (by omega), eP]; exact hw.p) (by rw [eP]; exact hw.p') (by rw [lo 2 (by omega), eT]; exact hw.t) (by rw [eT]; exact hw.t') (by rw [lo 4 (by omega), eE]; exact hw.n) (by rw [eE]; exact hw.n') (by rw [lo 5 (by omega), eR]; exact hw.r) (by rw [eR]; exact hw.r') (by rw [lo 7 (by omega)]; exact hw.law) ⟨v, hv, aU_eq⟩ ?_ ?_ ?_ ?_ ?_
    · rw [eP]; simp only [ep]; exact hw.lim
    · rw [eP, eT]; simp only [ep]; exact hw.tmp
    · rw [eP]; simp only [ep]; exact hw.near
    · rw [eE, eP]; simp only [ee]; exact hw.need
    · rw [eR, eP]; simp only [er]; exact hw.ring
  refine wt_keep hw w1 (lo _ (by omega)) (lo _ (by omega)) (fun j h _ => lo _ (by omega)) (fun j h => lo _ (by omega)) ?_
  obtain ⟨D, h5, h6⟩ := hw.2.2.2.2
  exact ⟨D, h5, by rw [lo _ (by omega)]; exact h6⟩
theorem rep_txt (hr : Rep M t a) : Rep (sI M t 12 (nN v)) t (aU a 0 (nN v)) := by
  have A : Ag (fun h k => h = t ∧ k = 12) M (sI M t 12 (nN v)) := Ag.one ⟨rfl, rfl⟩
  have lo : ∀ j, j ≠ 0 → aU a 0 (nN v) j = a j := fun j h => aU_ne h
  have eP : nP (aU a 0 (nN v)) = nP a := by unfold nP; rw [lo 1 (by omega)]
  have eE : nE (aU a 0 (nN v)) = nE a := by unfold nE; rw [lo 4 (by omega)]
  have eR : nR (aU a 0 (nN v)) = nR a := by unfold nR; rw [lo 5 (by omega)]
  have ep : ∀ q w, pa (aU a 0 (nN v)) q w = pa a q w := fun q w => lo _ (by omega)
  have ee : ∀ q w, ea (aU a 0 (nN v)) q w = ea a q w := fun q w => lo _ (by omega)
  have er : ∀ q w, ra (aU a 0 (nN v)) q w = ra a q w := fun q w => lo _ (by omega)
  refine rep_lo hr (fun j hj => lo j (by omega)) (lo 3 (by omega)) (sT_ag hr.sh A) (A.I (by omega)) (fun i k h1 h2 => A.I (by omega)) ?_ ?_ ?_ ?_ ?_ ?_ ?_ ?_ ?_ ?_ ?_ ?_ ?_ ?_ ?_ ?_ ?_
  · rw [A.I (by omega), lo 1 (by omega)]; exact hr.np
  · rw [A.I (by omega), lo 2 (by omega)]; exact hr.nt
  · rw [A.I (by omega), lo 4 (by omega)]; exact hr.ne
  · rw [A.I (by omega), lo 5 (by omega)]; exact hr.nr
  · rw [gI_sI, if_pos ⟨rfl, rfl⟩, aU_eq]
  · rw [A.I (by omega), lo 6 (by omega)]; exact hr.day
  · rw [A.I (by omega), lo 7 (by omega)]; exact hr.law
  · rw [eP]; intro q hq; rw [ep, A.I (by omega)]; exact hr.lim q hq
  · rw [eP]; intro q hq; rw [ep, A.I (by omega)]; exact hr.tmp q hq
  · rw [eP]; intro q hq; rw [ep, A.I (by omega)]; exact hr.near q hq
  · rw [eP]; intro q hq; rw [A.I (by omega)]; exact hr.rich q hq
  · rw [eP]; intro q hq; rw [A.I (by omega)]; exact hr.debt q hq
  · rw [eE]; intro q hq; rw [A.I (by omega), ee]; exact hr.nb q hq
  · rw [eE]; intro q hq; rw [A.I (by omega), ee]; exact hr.no q hq
  · rw [eE]; intro q hq; rw [A.I (by omega), ee]; exact hr.nw q hq
  · rw [eR]; intro q hq; rw [A.I (by omega), er]; exact hr.rs q hq
  · rw [eR]; intro q k hq h1 h2; rw [er] at h1; rw [A.I (by omega), er]; exact hr.rr q k hq h1 h2
/-- how many texts there are -/
def nX (a : Nat → Int32) : Nat := (a 0).toInt.toNat
theorem nX_ok (hw : Wf a) : nX a ≤ 10 ∧ a 0 = nN (nX a) := by
  obtain ⟨l, h1, h2⟩ := hw.texts
  have : nX a = l := by unfold nX; rw [h2, nN_toInt (by omega)]; omega
  rw [this]
  exact ⟨h1, h2⟩
theorem CF.trans (A : CF M M1) (B : CF M1 M2) : CF M M2 := ⟨⟨B.1.1.trans A.1.1, B.1.2.1.trans A.1.2.1, B.1.2.2.1.trans A.1.2.2.1, B.1.2.2.2.trans A.1.2.2.2⟩, fun h k z => (B.2.1 h k z).trans (A.2.1 h k z), fun h k z => (B.2.2 h k z).trans (A.2.2 h k z)⟩
theorem CF.ag {X : Nat → Nat → Prop} (A : Ag X M M') (hx : ∀ h k, (86 ≤ h ∧ h ≤ 100) ∨ h = 900000 → ¬ X h k) : CF M M' := ⟨⟨A.S, A.J, A.N, A.L⟩, fun h k z => A.I (hx h k z), fun h k _ => by rw [A.P]⟩
theorem c_town (c : CI M a ak img n b fl) (hk : img = true → Wf ak) (hw : Wt a K) (hK : K + 1386 < 2000000) (hF : Fr M) (hN : gN M ≤ 800000) (hn : n ≤ 400) (hb : ∀ k, b k < 256) :
    mw (d + 15) 3 [.ref 0] M (fun o M' => (match pTown (th uW n b) (nx9 n b) (nb n b 0) a with
      | .inl e => o = .inr 0 ∧ CI M' a ak img 0 b (nN e)
      | .inr a' => if nX a = 10 then o = .inr 2 ∧ CI M' a ak img 0 b (iN (-1)) else o = .inl (some (.int (nN (nX a + 1)))) ∧ CI M' (aU a' 0 (nN (nX a + 1))) ak img 0 b (iN (-1))) ∧ CQ M 1 6 M') := by
  obtain ⟨x1, x2⟩ := nX_ok hw.1
  obtain ⟨t, ht⟩ : ∃ t : Nat, t = 3 := ⟨3, rfl⟩
  obtain ⟨s, hs⟩ : ∃ s : Nat, s = 47 := ⟨47, rfl⟩
  have p1 : gP M 0 1 = some t := by rw [ht]; exact c.sh.p1
  have p3 : gP M 0 3 = some s := by rw [hs]; exact c.sh.p3
  have hS : (gS M s).1 = 9 := by rw [hs]; rw [c.sh.t47.k0]
  have k0 := c.sh.k0
  simp (disch := omega) only [m_3, q_aload0, q_aload0N, q_get_r, pTag_1, pRf_s, q_invv1, inv_1, q_invv0, q_istore1, q_get_i, q_put_i, q_bipush, q_ic_lt, q_iconst, q_goto, q_nop, q_istore2, q_iload1, q_if_eq, q_iload2, q_if_ne, q_thr, q_dup_i, q_dup_r, q_iadd, q_iret, e_3_0, L_0, L_1, L_10, k_some, k_none, pRm_i, pRm_r, pRm_0, pF_1, pF_2, inv_s, k0, p1, p3, hS, nN_le, nN_lt, nN_eq, nN_add, nN_mul, nN_lt0, nN_ge0, nN_gt0, nN_le0, nN_eq0, nN_eq1, nN_neN, pIn_n, pIx_n, eq_self, Nat.reduceLT, Bool.false_eq_true, Nat.add_zero, Nat.zero_add, Nat.reduceAdd, Nat.reduceMul, Nat.reduceSub, Nat.zero_le, Nat.reduceLeDiff, Nat.reduceEqDiff, Nat.le_refl, not_false_eq_true, not_true_eq_false, false_implies, true_implies, forall_const, true_and, and_true, if_true, if_false, implies_true, and_self, ne_eq, false_and, and_false, or_false, false_or, true_or, or_true]
  refine mw_mono (w_spare (d := d + 6) c hw.1 hs ht) ?_
  rintro _ M1 ⟨rfl, Y1, R1, T1, Q1⟩
  have c1 := c.go hk Y1.1 Y1.2.1 Y1.2.2
  have f1 := Y1.1.cf
  have k0 := c1.sh.k0
  have p0 := c1.sh.p0
  have p4 := c1.sh.p4
  have k1 := c1.sh.k1
  have k69 : (gS M1 69).1 = 10 := by rw [c1.sh.k69]
  have tn := c1.tn
  simp (disch := omega) only [q_aload0, q_aload0N, q_get_r, pTag_1, pRf_s, q_invv1, inv_1, q_invv0, q_istore1, q_get_i, q_put_i, q_bipush, q_ic_lt, q_iconst, q_goto, q_nop, q_istore2, q_iload1, q_if_eq, q_iload2, q_if_ne, q_thr, q_dup_i, q_dup_r, q_iadd, q_iret, e_3_0, L_0, L_1, L_10, k_some, k_none, pRm_i, pRm_r, pRm_0, pF_1, pF_2, inv_s, k0, p4, p0, k1, k69, nN_le, nN_lt, nN_eq, nN_add, nN_mul, nN_lt0, nN_ge0, nN_gt0, nN_le0, nN_eq0, nN_eq1, nN_neN, pIn_n, pIx_n, eq_self, Nat.reduceLT, Bool.false_eq_true, Nat.add_zero, Nat.zero_add, Nat.reduceAdd, Nat.reduceMul, Nat.reduceSub, Nat.zero_le, Nat.reduceLeDiff, Nat.reduceEqDiff, Nat.le_refl, not_false_eq_true, not_true_eq_false, false_implies, true_implies, forall_const, true_and, and_true, if_true, if_false, implies_true, and_self, ne_eq, false_and, and_false, or_false, false_or, true_or, or_true]
  simp (disch := omega) only [m_199, q_aload0, q_aload0N, q_get_i, pTag_1, pRf_s, q_istore1, q_iconst, q_put_i, q_iload1, q_iret, e_199_0, L_0, q_aload0, q_aload0N, q_get_r, pTag_1, pRf_s, q_invv1, inv_1, q_invv0, q_istore1, q_get_i, q_put_i, q_bipush, q_ic_lt, q_iconst, q_goto, q_nop, q_istore2, q_iload1, q_if_eq, q_iload2, q_if_ne, q_thr, q_dup_i, q_dup_r, q_iadd, q_iret, e_3_0, L_0, L_1, L_10, k_some, k_none, pRm_i, pRm_r, pRm_0, pF_1, pF_2, inv_s, k0, p4, p0, k1, k69, gS_sI, gP_sI, gS_sI, gP_sI, gI_sI, Nat.add_left_cancel_iff, Nat.add_eq_left, Nat.left_eq_add, tn, pF_2, nN_le, nN_lt, nN_eq, nN_add, nN_mul, nN_lt0, nN_ge0, nN_gt0, nN_le0, nN_eq0, nN_eq1, nN_neN, pIn_n, pIx_n, eq_self, Nat.reduceLT, Bool.false_eq_true, Nat.add_zero, Nat.zero_add, Nat.reduceAdd, Nat.reduceMul, Nat.reduceSub, Nat.zero_le, Nat.reduceLeDiff, Nat.reduceEqDiff, Nat.le_refl, not_false_eq_true, not_true_eq_false, false_implies, true_implies, forall_const, true_and, and_true, if_true, if_false, implies_true, and_self, ne_eq, false_and, and_false, or_false, false_or, true_or, or_true]
  have A2 : Ag (XL (gS M1) (gP M1)) M1 (sI M1 1 1 (nN 0)) := Ag.one (Or.inl (Or.inr (Or.inl ⟨rfl, rfl⟩)))
  have Y2 : Ag (fun h k => h = 1 ∧ k = 1) M1 (sI M1 1 1 (nN 0)) := Ag.one ⟨rfl, rfl⟩
  have r9 := t_read (d := d + 1) (M := sI M1 1 1 (nN 0)) (t := t) (K := K) (n := n) (b := b) c1.sh (by rw [ht]; exact c1.rep.ag Y2 (fun h k z1 z2 z3 => by omega)) (by rw [ht]; exact c1.tm.agA (Y2.mono fun h k z => Or.inl (by omega))) ht hw hK (fun k hk => by rw [gI_sI, if_neg (by omega)]; exact c1.tb k hk) hb hn (by rw [gI_sI, if_neg (by omega)]; exact c1.l69)
  refine mw_mono r9 ?_
  rintro o M3 ⟨h3, A3⟩
  have A03 : Ag (XL (gS M1) (gP M1)) M1 M3 := A2.trans (A3.mono XK_L)
  have A4 : Ag (XL (gS M1) (gP M1)) M3 (sI M3 0 10 (gI M3 69 9)) := Ag.one (Or.inl (Or.inl ⟨rfl, rfl⟩))
  have A04 := A03.trans A4
  have e0 : (gS M3 0).1 = 11 := by rw [A03.S, k0]
  have e4 : gP M3 0 4 = some 69 := by rw [A03.P]; exact p4
  have e1 : gP M3 0 1 = some t := by rw [A03.P, ht]; exact c1.sh.p1
  have e3 : gP M3 0 3 = some s := by rw [A03.P, hs]; exact c1.sh.p3
  have e69 : (gS M3 69).1 = 10 := by rw [A03.S]; exact k69
  have e9 : (gS M3 t).1 = 9 := by rw [A03.S, ht, c1.sh.t3.k0]
  have tn3 : gI M3 1 1 = nN 0 := by
    rw [A3.I (by rintro (z | z | z | ⟨q, ⟨z, -⟩, z2 | ⟨z2, -⟩⟩) <;> omega)]
    rw [gI_sI, if_pos ⟨rfl, rfl⟩]
  have K4 : CK (sI M3 0 10 (gI M3 69 9)) ak img 0 b (gI M3 69 9) := c1.ck.xl A04 (by rw [gI_sI, if_neg (by omega)]; exact tn3) (by omega) (by rw [gI_sI, if_pos ⟨rfl, rfl⟩])
  have F4 : CF M (sI M3 0 10 (gI M3 69 9)) := f1.trans (CF.ag A04 (XL_mf c1.sh))
  have R4 : Rep (sI M3 0 10 (gI M3 69 9)) s a := by rw [hs]; rw [hs] at R1; exact R1.ag A04 (fun h k z1 z2 z3 => XL_no (by omega))
  have T4 : TmR (sI M3 0 10 (gI M3 69 9)) s a := T1.agA (A04.mono XL_XA)
  have Q4 : QO (sI M3 0 10 (gI M3 69 9)) s := by
    intro k hk q hq; rw [A04.P] at hq; rw [A04.S]; exact Q1 k hk q hq
  -- back to what it was
  have undo : ∀ (l1 l2 : Int32), (l1 = nN 0 ∨ l1 = nN 1) → (l1 = nN 0 ∨ l2 = nN 1) → (l2 = nN 0 ∨ l2 = nN 1) → ∀ (Q9 : pOut → pMem → Prop), (∀ M9, CI M9 a ak img 0 b (gI M3 69 9) → CQ M 1 6 M9 → Q9 (.inr (if l1 = nN 0 then 0 else 2)) M9) → bw (d + 14) 3 3 ([some (.ref 0), some (.int l1), some (.int l2)], [], sI M3 0 10 (gI M3 69 9)) Q9 := by
    intro l1 l2 h1 h12 h2 Q9 hQ
    rw [e_3_3]
    simp (disch := omega) only [q_aload0, q_aload0N, q_get_r, pTag_1, pRf_s, q_invv1, inv_1, q_invv0, q_istore1, q_get_i, q_put_i, q_bipush, q_ic_lt, q_iconst, q_goto, q_nop, q_istore2, q_iload1, q_if_eq, q_iload2, q_if_ne, q_thr, q_dup_i, q_dup_r, q_iadd, q_iret, e_3_0, L_0, L_1, L_10, k_some, k_none, pRm_i, pRm_r, pRm_0, pF_1, pF_2, inv_s, e0, e1, e3, e9, gS_sI, gP_sI, nN_le, nN_lt, nN_eq, nN_add, nN_mul, nN_lt0, nN_ge0, nN_gt0, nN_le0, nN_eq0, nN_eq1, nN_neN, pIn_n, pIx_n, eq_self, Nat.reduceLT, Bool.false_eq_true, Nat.add_zero, Nat.zero_add, Nat.reduceAdd, Nat.reduceMul, Nat.reduceSub, Nat.zero_le, Nat.reduceLeDiff, Nat.reduceEqDiff, Nat.le_refl, not_false_eq_true, not_true_eq_false, false_implies, true_implies, forall_const, true_and, and_true, if_true, if_false, implies_true, and_self, ne_eq, false_and, and_false, or_false, false_or, true_or, or_true]
    refine mw_mono (live_become (d := d + 6) K4 hk (Or.inr hs) ht R4 hw.1 T4 Q4) ?_
    rintro _ M5 ⟨rfl, c5, F5⟩
    have F05 := F4.trans F5
    have q5 := CQ.of hF F05
    have hN5 : gN M5 = gN M := F05.1.2.2.1
    have q6 := q5.nx (by rw [hN5]; omega)
    have c6 := c5.ex (Ex.nx q5.2.1 (by rw [hN5]; omega))
    have g := hQ _ c6 ⟨q6.1, q6.2.1, q6.2.2.1, q6.2.2.2⟩
    have k5 := c5.sh.k0
    rcases h1 with rfl | rfl
    · rw [if_pos rfl] at g
      simp (disch := omega) only [q_aload0, q_aload0N, q_get_r, pTag_1, pRf_s, q_invv1, inv_1, q_invv0, q_istore1, q_get_i, q_put_i, q_bipush, q_ic_lt, q_iconst, q_goto, q_nop, q_istore2, q_iload1, q_if_eq, q_iload2, q_if_ne, q_thr, q_dup_i, q_dup_r, q_iadd, q_iret, e_3_0, e_3_4, L_0, L_1, L_10, k_some, k_none, pRm_i, pRm_r, pRm_0, pF_1, pF_2, inv_s, q_thr, pRm_i, pRm_r, pRm_0, k5, nN_le, nN_lt, nN_eq, nN_add, nN_mul, nN_lt0, nN_ge0, nN_gt0, nN_le0, nN_eq0, nN_eq1, nN_neN, pIn_n, pIx_n, eq_self, Nat.reduceLT, Bool.false_eq_true, Nat.add_zero, Nat.zero_add, Nat.reduceAdd, Nat.reduceMul, Nat.reduceSub, Nat.zero_le, Nat.reduceLeDiff, Nat.reduceEqDiff, Nat.le_refl, not_false_eq_true, not_true_eq_false, false_implies, true_implies, forall_const, true_and, and_true, if_true, if_false, implies_true, and_self, ne_eq, false_and, and_false, or_false, false_or, true_or, or_true]
      exact g
    · have e10 : ¬ nN 1 = nN 0 := by decide +kernel
      rw [if_neg e10] at g
      have e2 := h12.resolve_left e10
      subst e2
      simp (disch := omega) only [q_aload0, q_aload0N, q_get_r, pTag_1, pRf_s, q_invv1, inv_1, q_invv0, q_istore1, q_get_i, q_put_i, q_bipush, q_ic_lt, q_iconst, q_goto, q_nop, q_istore2, q_iload1, q_if_eq, q_iload2, q_if_ne, q_thr, q_dup_i, q_dup_r, q_iadd, q_iret, e_3_0, e_3_4, e_3_5, L_0, L_1, L_10, k_some, k_none, pRm_i, pRm_r, pRm_0, pF_1, pF_2, inv_s, q_thr, pRm_i, pRm_r, pRm_0, k5, nN_le, nN_lt, nN_eq, nN_add, nN_mul, nN_lt0, nN_ge0, nN_gt0, nN_le0, nN_eq0, nN_eq1, nN_neN, pIn_n, pIx_n, eq_self, Nat.reduceLT, Bool.false_eq_true, Nat.add_zero, Nat.zero_add, Nat.reduceAdd, Nat.reduceMul, Nat.reduceSub, Nat.zero_le, Nat.reduceLeDiff, Nat.reduceEqDiff, Nat.le_refl, not_false_eq_true, not_true_eq_false, false_implies, true_implies, forall_const, true_and, and_true, if_true, if_false, implies_true, and_self, ne_eq, false_and, and_false, or_false, false_or, true_or, or_true]
      exact g
  have e10 : ¬ nN 1 = nN 0 := by decide +kernel
  have ge : gI (sI M3 0 10 (gI M3 69 9)) t 12 = gI M3 t 12 := by rw [gI_sI, if_neg (by omega)]
  cases hp : pTown (th uW n b) (nx9 n b) (nb n b 0) a with
  | inl e =>
    rw [hp] at h3
    obtain ⟨rfl, f3⟩ := h3
    by_cases c9 : gI M3 t 12 < nN 10
    · simp (disch := omega) only [q_aload0, q_aload0N, q_get_r, pTag_1, pRf_s, q_invv1, inv_1, q_invv0, q_istore1, q_get_i, q_put_i, q_bipush, q_ic_lt, q_iconst, q_goto, q_nop, q_istore2, q_iload1, q_if_eq, q_iload2, q_if_ne, q_thr, q_dup_i, q_dup_r, q_iadd, q_iret, e_3_0, e_3_1, e_3_2, L_0, L_1, L_10, k_some, k_none, pRm_i, pRm_r, pRm_0, pF_1, pF_2, inv_s, e0, e1, e4, e9, e69, gS_sI, gP_sI, ge, c9, nN_le, nN_lt, nN_eq, nN_add, nN_mul, nN_lt0, nN_ge0, nN_gt0, nN_le0, nN_eq0, nN_eq1, nN_neN, pIn_n, pIx_n, eq_self, Nat.reduceLT, Bool.false_eq_true, Nat.add_zero, Nat.zero_add, Nat.reduceAdd, Nat.reduceMul, Nat.reduceSub, Nat.zero_le, Nat.reduceLeDiff, Nat.reduceEqDiff, Nat.le_refl, not_false_eq_true, not_true_eq_false, false_implies, true_implies, forall_const, true_and, and_true, if_true, if_false, implies_true, and_self, ne_eq, false_and, and_false, or_false, false_or, true_or, or_true]
      refine undo _ _ (Or.inl rfl) (Or.inl rfl) (Or.inl rfl) _ (fun M9 h9 q9 => ?_)
      rw [if_pos rfl]
      rw [f3] at h9
      exact ⟨⟨rfl, h9⟩, q9⟩
    · simp (disch := omega) only [q_aload0, q_aload0N, q_get_r, pTag_1, pRf_s, q_invv1, inv_1, q_invv0, q_istore1, q_get_i, q_put_i, q_bipush, q_ic_lt, q_iconst, q_goto, q_nop, q_istore2, q_iload1, q_if_eq, q_iload2, q_if_ne, q_thr, q_dup_i, q_dup_r, q_iadd, q_iret, e_3_0, e_3_1, e_3_2, L_0, L_1, L_10, k_some, k_none, pRm_i, pRm_r, pRm_0, pF_1, pF_2, inv_s, e0, e1, e4, e9, e69, gS_sI, gP_sI, ge, c9, nN_le, nN_lt, nN_eq, nN_add, nN_mul, nN_lt0, nN_ge0, nN_gt0, nN_le0, nN_eq0, nN_eq1, nN_neN, pIn_n, pIx_n, eq_self, Nat.reduceLT, Bool.false_eq_true, Nat.add_zero, Nat.zero_add, Nat.reduceAdd, Nat.reduceMul, Nat.reduceSub, Nat.zero_le, Nat.reduceLeDiff, Nat.reduceEqDiff, Nat.le_refl, not_false_eq_true, not_true_eq_false, false_implies, true_implies, forall_const, true_and, and_true, if_true, if_false, implies_true, and_self, ne_eq, false_and, and_false, or_false, false_or, true_or, or_true]
      refine undo _ _ (Or.inl rfl) (Or.inl rfl) (Or.inr rfl) _ (fun M9 h9 q9 => ?_)
      rw [if_pos rfl]
      rw [f3] at h9
      exact ⟨⟨rfl, h9⟩, q9⟩
  | inr a' =>
    rw [hp] at h3
    obtain ⟨rfl, p9, T3⟩ := h3
    have f3 : gI M3 69 9 = iN (-1) := T3.rc.ft
    obtain ⟨w2, G2⟩ := pTown_ok hw hK hp
    have n12 : gI M3 t 12 = nN (nX a) := by rw [T3.rp.nx, G2.2.2.1, x2]
    dsimp only
    by_cases h10 : nX a = 10
    · simp only [if_pos h10]
      simp (disch := omega) only [q_aload0, q_aload0N, q_get_r, pTag_1, pRf_s, q_invv1, inv_1, q_invv0, q_istore1, q_get_i, q_put_i, q_bipush, q_ic_lt, q_iconst, q_goto, q_nop, q_istore2, q_iload1, q_if_eq, q_iload2, q_if_ne, q_thr, q_dup_i, q_dup_r, q_iadd, q_iret, e_3_0, e_3_1, e_3_2, L_0, L_1, L_10, k_some, k_none, pRm_i, pRm_r, pRm_0, pF_1, pF_2, inv_s, e0, e1, e4, e9, e69, gS_sI, gP_sI, ge, n12, h10, nN_le, nN_lt, nN_eq, nN_add, nN_mul, nN_lt0, nN_ge0, nN_gt0, nN_le0, nN_eq0, nN_eq1, nN_neN, pIn_n, pIx_n, eq_self, Nat.reduceLT, Bool.false_eq_true, Nat.add_zero, Nat.zero_add, Nat.reduceAdd, Nat.reduceMul, Nat.reduceSub, Nat.zero_le, Nat.reduceLeDiff, Nat.reduceEqDiff, Nat.le_refl, not_false_eq_true, not_true_eq_false, false_implies, true_implies, forall_const, true_and, and_true, if_true, if_false, implies_true, and_self, ne_eq, false_and, and_false, or_false, false_or, true_or, or_true]
      refine undo _ _ (Or.inr rfl) (Or.inr rfl) (Or.inr rfl) _ (fun M9 h9 q9 => ?_)
      rw [if_neg e10]
      rw [f3] at h9
      exact ⟨⟨rfl, h9⟩, q9⟩
    · simp only [if_neg h10]
      have hlt : nX a < 10 := by omega
      have n12' : gI (sI M3 0 10 (iN (-1))) t 12 = nN (nX a) := by rw [gI_sI, if_neg (by omega)]; exact n12
      rw [f3] at K4 F4 ge A4 A04
      simp (disch := omega) only [q_aload0, q_aload0N, q_get_r, pTag_1, pRf_s, q_invv1, inv_1, q_invv0, q_istore1, q_get_i, q_put_i, q_bipush, q_ic_lt, q_iconst, q_goto, q_nop, q_istore2, q_iload1, q_if_eq, q_iload2, q_if_ne, q_thr, q_dup_i, q_dup_r, q_iadd, q_iret, e_3_0, e_3_1, e_3_2, e_3_4, e_3_5, e_3_6, L_0, L_1, L_10, k_some, k_none, pRm_i, pRm_r, pRm_0, pF_1, pF_2, inv_s, e0, e1, e4, e9, e69, gS_sI, gP_sI, f3, n12', hlt, gS_sI, gP_sI, gI_sI, Nat.add_left_cancel_iff, Nat.add_eq_left, Nat.left_eq_add, nN_le, nN_lt, nN_eq, nN_add, nN_mul, nN_lt0, nN_ge0, nN_gt0, nN_le0, nN_eq0, nN_eq1, nN_neN, pIn_n, pIx_n, eq_self, Nat.reduceLT, Bool.false_eq_true, Nat.add_zero, Nat.zero_add, Nat.reduceAdd, Nat.reduceMul, Nat.reduceSub, Nat.zero_le, Nat.reduceLeDiff, Nat.reduceEqDiff, Nat.le_refl, not_false_eq_true, not_true_eq_false, false_implies, true_implies, forall_const, true_and, and_true, if_true, if_false, implies_true, and_self, ne_eq, false_and, and_false, or_false, false_or, true_or, or_true]
      have A5 : Ag (XL (gS M1) (gP M1)) (sI M3 0 10 (iN (-1))) (sI (sI M3 0 10 (iN (-1))) t 12 (nN (nX a + 1))) := Ag.one (Or.inr (Or.inl (by omega)))
      have A05 := A04.trans A5
      have Z4 : Ag (fun h k => h = 0 ∧ k = 10) M3 (sI M3 0 10 (iN (-1))) := Ag.one ⟨rfl, rfl⟩
      have R5 : Rep (sI M3 0 10 (iN (-1))) t a' := T3.rp.ag Z4 (fun h k z1 z2 z3 => by omega)
      have T5 : TmR (sI M3 0 10 (iN (-1))) t a' := T3.tm.agA (Z4.mono fun h k z => Or.inl (by omega))
      have Z5 : Ag (fun h k => h = t ∧ k = 12) (sI M3 0 10 (iN (-1))) (sI (sI M3 0 10 (iN (-1))) t 12 (nN (nX a + 1))) := Ag.one ⟨rfl, rfl⟩
      refine ⟨CK.ci (c1.ck.xl A05 ?_ (by omega) ?_) ?_ ?_ ?_, CQ.of hF (f1.trans (CF.ag A05 (XL_mf c1.sh))) |> fun q => ⟨q.1, q.2.1, by have := q.2.2.1; omega, by have := q.2.2.2; omega⟩⟩
      · rw [gI_sI, if_neg (by omega), gI_sI, if_neg (by omega)]; exact tn3
      · rw [gI_sI, if_neg (by omega), gI_sI, if_pos ⟨rfl, rfl⟩]
      · have := rep_txt (v := nX a + 1) R5
        rw [ht] at this ⊢
        exact this
      · have := (T5.agA (Z5.mono fun h k z => Or.inl (by omega))).tab (a' := aU a' 0 (nN (nX a + 1))) (by unfold nT; rw [aU_ne (by omega)]) (fun k _ => txt_hi (fun j hj => aU_ne (by omega)))
        rw [ht] at this ⊢
        exact this
      · intro k hk q hq
        have hq' : gP (sI (sI M3 0 10 (iN (-1))) t 12 (nN (nX a + 1))) (3 + 15) k = some q := hq
        rw [A05.P] at hq'
        show (gS (sI (sI M3 0 10 (iN (-1))) t 12 (nN (nX a + 1))) q).1 = 7
        rw [A05.S]
        exact c1.qo k hk q hq'
end CTw
