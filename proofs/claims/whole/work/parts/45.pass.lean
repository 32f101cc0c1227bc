/-! PASS, CALL -/
def sCome (a : Nat → Int32) (f y : Nat) : Nat → Int32 := fS (fS (fS (fS a f 3 (nN (fD a f + 1))) f (9 + fD a f) (nN y)) f 6 (nN (fD a f + 3))) f 2 (nN y)
def sPassA (a : Nat → Int32) (f y : Nat) : Nat → Int32 := if fa a f 0 = nN y then sGone (sCome a f y) f else sCome a f y
def sPassV (a : Nat → Int32) (f y : Nat) : Int32 := if fa a f 0 = nN y then nN 0 else sWorth (fa a f 1) (nN (fD a f + 1))
noncomputable def sCanP (a : Nat → Int32) (f y : Nat) : Bool := sMay a f && (decide (fa a f 0 = nN y) || sTakeF a y f)
section PS
variable {d t u q f p g n y : Nat} {a : Nat → Int32} {M M' M0 : pMem} {Q : pOut → pMem → Prop}
theorem sCome_lo {j : Nat} (h : j < 140) : sCome a f y j = a j := by unfold sCome; rw [fS_lo h, fS_lo h, fS_lo h, fS_lo h]
theorem sGone_lo {j : Nat} (h : j < 140) : sGone a f j = a j := fS_lo h
theorem sCome_hi {j : Nat} (h : 940 ≤ j) (hf : f < 40) (hk : fD a f ≤ 10) : sCome a f y j = a j := by unfold sCome; rw [fS_hi h hf (by omega), fS_hi h hf (by omega), fS_hi h hf (by omega), fS_hi h hf (by omega)]
theorem sGone_hi {j : Nat} (h : 940 ≤ j) (hf : f < 40) : sGone a f j = a j := fS_hi h hf (by omega)
theorem sPassA_lo {j : Nat} (h : j < 140) : sPassA a f y j = a j := by
  unfold sPassA
  split
  · rw [sGone_lo h, sCome_lo h]
  · rw [sCome_lo h]
theorem sPassA_hi {j : Nat} (h : 940 ≤ j) (hf : f < 40) (hk : fD a f ≤ 10) : sPassA a f y j = a j := by
  unfold sPassA
  split
  · rw [sGone_hi h hf, sCome_hi h hf hk]
  · rw [sCome_hi h hf hk]
theorem sCome_fa {z : Nat} {k : Nat} (hk : fD a f ≤ 10) (hz : z < 20) : fa (sCome a f y) k z = if k = f then (if z = 2 then nN y else if z = 6 then nN (fD a f + 3) else if z = 9 + fD a f then nN y else if z = 3 then nN (fD a f + 1) else fa a k z) else fa a k z := by
  unfold sCome
  rw [fS_fa (by omega) hz, fS_fa (by omega) hz, fS_fa (by omega) hz, fS_fa (by omega) hz]
  by_cases c : k = f
  · simp [c]
  · simp [c]
theorem sCome_fD {k : Nat} (hk : fD a f ≤ 9) : fD (sCome a f y) k = if k = f then fD a f + 1 else fD a k := by
  unfold fD
  rw [sCome_fa (by omega) (by omega)]
  by_cases c : k = f
  · subst c
    rw [if_pos rfl, if_pos rfl, if_neg (by omega), if_neg (by omega), if_neg (by omega), if_pos rfl, nN_toInt (by omega)]
    unfold fD
    omega
  · rw [if_neg c, if_neg c]
theorem sCome_wf (hw : Wf a) (hf : f < nF a) (hy : y < nP a) (hk : fD a f ≤ 9) : Wf (sCome a f y) := by
  have e : fD (sCome a f y) f = fD a f + 1 := by rw [sCome_fD hk, if_pos rfl]
  have c0 : ∀ z, z < 20 → z ≠ 2 → z ≠ 6 → z ≠ 3 → z < 9 → fa (sCome a f y) f z = fa a f z := fun z h1 h2 h3 h4 h5 => by
    rw [sCome_fa (by omega) h1, if_pos rfl, if_neg h2, if_neg h3, if_neg (by omega), if_neg h4]
  refine wf_fav (f := f) hw hf (fun j hj => sCome_lo hj) (fun g z h1 h2 => by rw [sCome_fa (by omega) h2, if_neg h1]) ?_ ?_ ?_ ?_ ?_
  · obtain ⟨g, h1, h2⟩ := hw.fG f hf; exact ⟨g, h1, by rw [c0 0 (by omega) (by omega) (by omega) (by omega) (by omega)]; exact h2⟩
  · obtain ⟨g, h1, h2, h3⟩ := hw.fA f hf; exact ⟨g, h1, h2, by rw [c0 1 (by omega) (by omega) (by omega) (by omega) (by omega)]; exact h3⟩
  · exact Or.inr ⟨y, hy, by rw [sCome_fa (by omega) (by omega), if_pos rfl, if_pos rfl]⟩
  · rw [e]
    refine ⟨by omega, ?_, ?_⟩
    · rw [sCome_fa (by omega) (by omega), if_pos rfl, if_neg (by omega), if_neg (by omega), if_neg (by omega), if_pos rfl]
    · rw [sCome_fa (by omega) (by omega), if_pos rfl, if_neg (by omega), if_pos rfl]
  · rw [c0 5 (by omega) (by omega) (by omega) (by omega) (by omega)]; exact hw.fC f hf
theorem sRich_come {q : Int32} (hf : f < nF a) (hk : fD a f ≤ 9) : sRich (sCome a f y) q = sRich a q + ((if nN y = q then sWorth (fa a f 1) (nN (fD a f + 1)) else nN 0) - (if fa a f 2 = q then sWorth (fa a f 1) (fa a f 3) else nN 0)) := by
  have h9 : ¬ 1 = 9 + fD a f := by omega
  have h8 : ¬ 3 = 9 + fD a f := by omega
  rw [sRich_eq, sRich_eq, lo_nF (fun j hj => sCome_lo hj), sS_upd (f := f) (nF a) hf (g := fun f => if fa a f 2 = q then sWorth (fa a f 1) (fa a f 3) else nN 0)]
  · simp (disch := omega) [sCome_fa, h9, h8]
  · intro i hi h2
    simp (disch := omega) [sCome_fa, h2]
theorem sDebt_come {q : Int32} (hw : Wf a) (hf : f < nF a) (hk : fD a f ≤ 9) (hh : ¬ fa a f 2 = iN (-1)) (hy : y < nP a) : sDebt (sCome a f y) q = sDebt a q := by
  have h9 : ¬ 1 = 9 + fD a f := by omega
  have h8 : ¬ 0 = 9 + fD a f := by omega
  have hp' := hw.p'
  have h7 : ¬ nN y = iN (-1) := by rw [nN_neN (by omega)]; exact not_false
  rw [sDebt_eq, sDebt_eq, lo_nF (fun j hj => sCome_lo hj)]
  refine sS_congr _ (fun i hi => ?_)
  by_cases c : i = f
  · subst c
    simp (disch := omega) [sCome_fa, h9, h8, h7, hh]
  · simp (disch := omega) [sCome_fa, c]
/-- the way of a favour that goes on: its begin, block 5 -/
theorem w_passGo {x : Int32} {h : Nat} (hr : Rep M t a) (hw : Wf a) (hf : f < nF a) (hy : y < nP a) (hk : fD a f ≤ 9) (hh : fa a f 2 = nN h) (hh1 : h < nP a) (hne : h ≠ y) (hx : x = bI (fa a f 0 = nN y)) :
    bw (d + 8) 231 5 ([some (.ref t), some (.int (nN f)), some (.int (nN y)), some (.int (nN h)), some (.int x)], [], M) (fun o M' => o = .inl (some (.int (sPassV a f y))) ∧ Rep M' t (sPassA a f y) ∧ Ag (XTw (gS M) (gP M) t) M M') := by
  have hp' := hw.p'
  have hf' := hw.f'
  have hs := hr.sh
  obtain ⟨e1, e2, e3⟩ := hw.fD f hf
  have a1 := hr.am f hf
  have a2 := hr.hd f hf
  have a4 := hr.h f hf
  rw [hh] at a4
  rw [e2] at a2
  have b1 : ¬ 12 ≤ fD a f + 2 := by omega
  have b2 : f * 12 + (fD a f + 2) < 480 := by omega
  have b3 : ¬ y = h := fun z => hne z.symm
  rw [e_231_5]
  simp (disch := first | omega | rfl | (repeat' (first | exact gS_sI | exact gP_sI | refine Eq.trans gS_sI ?_ | refine Eq.trans gP_sI ?_))) only [q_aload0, q_aload0N, q_get_r, pTag_1, pRf_s, q_iload1, q_invs2_21, q_istore3, q_iload2, q_ic_ne, q_iconst, q_goto, q_nop, q_istore4, q_iload3, q_ic_eq, q_iload4, q_if_eq, q_invv1, inv_1, q_invv2, q_if_ne, q_iret, q_ineg, q_invs3_21, e_231_0, e_231_1, e_231_2, e_231_3, e_231_4, e_231_5, L_0, L_1, k_some, k_none, pRm_i, pRm_r, pRm_0, pF_1, pF_2, inv_s, hs.k0, hs.k1, hs.k7, hs.p0, hs.p1, hs.p2, hs.p3, hs.p4, hs.p5, hs.p6, hs.p7, hs.p8, hs.q0, hs.q1, hs.q2, hs.q3, hs.q4, hs.r0, hs.r1, hs.r2, hs.r3, hs.r4, hs.r5, hs.r6, w_atS hs.k2, w_atS hs.k3, w_atS hs.k4, w_atS hs.k5, w_atS hs.k6, w_atS hs.k8, w_atS hs.k9, w_atS hs.k10, w_atS hs.k11, w_atS hs.k12, w_atS hs.k13, w_atS hs.k14, w_atS hs.k17, w_atS hs.k18, w_atS hs.k19, w_atS hs.k20, w_atS hs.k21, w_putS hs.k2, w_putS hs.k3, w_putS hs.k4, w_putS hs.k5, w_putS hs.k6, w_putS hs.k8, w_putS hs.k9, w_putS hs.k10, w_putS hs.k11, w_putS hs.k12, w_putS hs.k13, w_putS hs.k14, w_putS hs.k17, w_putS hs.k18, w_putS hs.k19, w_putS hs.k20, w_putS hs.k21, w_addS hs.k2, w_addS hs.k3, w_addS hs.k4, w_addS hs.k5, w_addS hs.k6, w_addS hs.k8, w_addS hs.k9, w_addS hs.k10, w_addS hs.k11, w_addS hs.k12, w_addS hs.k13, w_addS hs.k14, w_addS hs.k17, w_addS hs.k18, w_addS hs.k19, w_addS hs.k20, w_addS hs.k21, w_worthS hs, w_rowLengthS hs, m_145, q_aload0, q_aload0N, q_iload1, q_invv1, inv_1, q_istore3, q_iload3, q_bipush, q_ic_ge, q_get_r, pTag_1, pRf_s, q_imul, q_iadd, q_iload2, q_invs3_21, q_iconst, q_nop, q_vret, e_145_0, e_145_1, L_1, L_12, k_some, k_none, pRm_i, pRm_r, pRm_0, pF_1, pF_2, inv_s, a1, a2, a4, b1, b3, gS_sI, gP_sI, gI_sI, Nat.add_left_cancel_iff, Nat.add_eq_left, Nat.left_eq_add, nN_le, nN_lt, nN_eq, nN_add, nN_mul, nN_lt0, nN_ge0, nN_gt0, nN_le0, nN_eq0, nN_eq1, nN_neN, pIn_n, pIx_n, eq_self, Bool.false_eq_true, Nat.add_zero, Nat.zero_add, Nat.reduceAdd, Nat.reduceMul, Nat.reduceSub, Nat.zero_le, Nat.reduceLeDiff, Nat.reduceEqDiff, Nat.le_refl, not_false_eq_true, not_true_eq_false, false_implies, true_implies, forall_const, true_and, and_true, if_true, if_false, implies_true, and_self, ne_eq, false_and, and_false, or_false, false_or, true_or, or_true, add_n0]
  generalize hM3 : sI (sI (sI (sI (sI M (t + 5) h (gI M (t + 5) h + -sWorth (fa a f 1) (nN (fD a f)))) (t + 14) (f * 12 + (fD a f + 2)) (nN y)) (t + 11) f (nN (fD a f + 1))) (t + 9) f (nN y)) (t + 5) y (gI M (t + 5) y + sWorth (fa a f 1) (nN (fD a f + 1))) = M3
  have c9 : ∀ z, z < 20 → z ≠ 2 → z ≠ 6 → z ≠ 3 → z < 9 → fa (sCome a f y) f z = fa a f z := fun z h1 h2 h3 h4 h5 => by
    rw [sCome_fa (by omega) h1, if_pos rfl, if_neg h2, if_neg h3, if_neg (by omega), if_neg h4]
  have A3 : Ag (XTw (gS M) (gP M) t) M M3 := by
    rw [← hM3]
    exact Ag.put (Ag.put (Ag.put (Ag.put (Ag.one (Or.inl (by omega))) (Or.inl (by omega))) (Or.inl (by omega))) (Or.inl (by omega))) (Or.inl (by omega))
  have R3 : Rep M3 t (sCome a f y) := by
    refine rep_fav (f := f) hr hw (fun j hj => sCome_lo hj) (fun g z h1 h2 => by rw [sCome_fa (by omega) h2, if_neg h1]) A3.S A3.P ?_ (c9 0 (by omega) (by omega) (by omega) (by omega) (by omega)) (c9 1 (by omega) (by omega) (by omega) (by omega) (by omega)) (c9 4 (by omega) (by omega) (by omega) (by omega) (by omega)) (c9 5 (by omega) (by omega) (by omega) (by omega) (by omega)) ?_ ?_ ?_ ?_ ?_
    · intro i k h1 h2 h3 h4 h5 h6 h7
      simp [← hM3, gI_sI, h2, h4, h5, h6]
    · intro k hk9
      rw [sCome_fa (by omega) (by omega)]
      by_cases c : k = f
      · subst c; simp [← hM3, gI_sI]
      · simp [← hM3, gI_sI, c, hr.h k hk9]
    · intro k hk9
      have b5 : ¬ 3 = 9 + fD a f := by omega
      rw [sCome_fa (by omega) (by omega)]
      by_cases c : k = f
      · subst c; simp [← hM3, gI_sI, b5]
      · simp [← hM3, gI_sI, c, hr.hd k hk9]
    · intro k i hk9 hi
      rw [sCome_fD hk] at hi
      have b6 := (hw.fD k hk9).1
      by_cases c : k = f
      · subst c
        rw [if_pos rfl] at hi
        have b7 : ¬ 7 + i = 2 := by omega
        have b8 : ¬ 7 + i = 6 := by omega
        have b9 : ¬ 7 + i = 3 := by omega
        rw [sCome_fa (by omega) (by omega), if_pos rfl, if_neg b7, if_neg b8, if_neg b9]
        by_cases c2 : i = fD a k + 2
        · subst c2
          have e5 : 12 * k + (fD a k + 2) = k * 12 + (fD a k + 2) := by omega
          have e6 : 7 + (fD a k + 2) = 9 + fD a k := by omega
          simp [← hM3, gI_sI, e5, e6]
        · have e5 : ¬ 12 * k + i = k * 12 + (fD a k + 2) := by omega
          have e6 : ¬ 7 + i = 9 + fD a k := by omega
          simp [← hM3, gI_sI, e5, e6, hr.row k i hk9 (by omega)]
      · rw [if_neg c] at hi
        have e5 : ¬ 12 * k + i = f * 12 + (fD a f + 2) := by omega
        rw [sCome_fa (by omega) (by omega), if_neg c]
        simp [← hM3, gI_sI, e5, hr.row k i hk9 hi]
    · intro k hk9
      rw [sRich_come hf hk, hh, e2]
      by_cases c : k = y
      · subst c
        have c2 : ¬ nN h = nN k := by rw [nN_eq (by omega) (by omega)]; exact hne
        simp [← hM3, gI_sI, c2, b3, hr.rich k hk9, nN_z]
      · have c1 : ¬ nN y = nN k := by rw [nN_eq (by omega) (by omega)]; exact fun z => c z.symm
        by_cases c2 : k = h
        · subst c2
          simp [← hM3, gI_sI, c, c1, hr.rich k hk9, nN_z]
        · have c3 : ¬ nN h = nN k := by rw [nN_eq (by omega) (by omega)]; exact fun z => c2 z.symm
          simp [← hM3, gI_sI, c, c1, c2, c3, hr.rich k hk9, nN_z]
    · intro k hk9
      rw [sDebt_come hw hf hk (by rw [hh, nN_neN (by omega)]; exact not_false) hy]
      simp [← hM3, gI_sI, hr.debt k hk9]
  have W3 := sCome_wf hw hf hy hk
  have nF3 : nF (sCome a f y) = nF a := lo_nF (fun j hj => sCome_lo hj)
  clear hM3
  by_cases c : fa a f 0 = nN y
  · have ex : ¬ x = 0 := by rw [hx, bI_eq0]; exact fun z => z c
    simp only [ex, eq_self, Bool.false_eq_true, Nat.add_zero, Nat.zero_add, Nat.reduceAdd, Nat.reduceMul, Nat.reduceSub, Nat.zero_le, Nat.reduceLeDiff, Nat.reduceEqDiff, Nat.le_refl, not_false_eq_true, not_true_eq_false, false_implies, true_implies, forall_const, true_and, and_true, if_true, if_false, implies_true, and_self, ne_eq, false_and, and_false, or_false, false_or, true_or, or_true]
    refine mw_mono (w_vanish (d := d + 4) R3 W3 (by omega) (by rw [sCome_fa (by omega) (by omega), if_pos rfl, if_pos rfl, nN_neN (by omega)]; exact not_false)) ?_
    rintro _ M4 ⟨rfl, R4, A4⟩
    simp only [q_aload0, q_aload0N, q_get_r, pTag_1, pRf_s, q_iload1, q_invs2_21, q_istore3, q_iload2, q_ic_ne, q_iconst, q_goto, q_nop, q_istore4, q_iload3, q_ic_eq, q_iload4, q_if_eq, q_invv1, inv_1, q_invv2, q_if_ne, q_iret, q_ineg, q_invs3_21, e_231_0, e_231_1, e_231_2, e_231_3, e_231_4, e_231_5, L_0, L_1, k_some, k_none, pRm_i, pRm_r, pRm_0, pF_1, pF_2, inv_s, sPassV, sPassA, c, eq_self, Bool.false_eq_true, Nat.add_zero, Nat.zero_add, Nat.reduceAdd, Nat.reduceMul, Nat.reduceSub, Nat.zero_le, Nat.reduceLeDiff, Nat.reduceEqDiff, Nat.le_refl, not_false_eq_true, not_true_eq_false, false_implies, true_implies, forall_const, true_and, and_true, if_true, if_false, implies_true, and_self, ne_eq, false_and, and_false, or_false, false_or, true_or, or_true]
    rw [A3.S, A3.P] at A4
    exact ⟨R4, A3.trans A4⟩
  · have ex : x = 0 := by rw [hx, bI_eq0]; exact c
    simp only [ex, eq_self, Bool.false_eq_true, Nat.add_zero, Nat.zero_add, Nat.reduceAdd, Nat.reduceMul, Nat.reduceSub, Nat.zero_le, Nat.reduceLeDiff, Nat.reduceEqDiff, Nat.le_refl, not_false_eq_true, not_true_eq_false, false_implies, true_implies, forall_const, true_and, and_true, if_true, if_false, implies_true, and_self, ne_eq, false_and, and_false, or_false, false_or, true_or, or_true]
    have s3 := R3.sh
    have e5 := R3.am f (by omega)
    have e6 := R3.hd f (by omega)
    rw [c9 1 (by omega) (by omega) (by omega) (by omega) (by omega)] at e5
    rw [sCome_fa (by omega) (by omega), if_pos rfl, if_neg (by omega), if_neg (by omega), if_neg (by omega), if_pos rfl] at e6
    simp (disch := first | omega | rfl | (repeat' (first | exact gS_sI | exact gP_sI | refine Eq.trans gS_sI ?_ | refine Eq.trans gP_sI ?_))) only [q_aload0, q_aload0N, q_get_r, pTag_1, pRf_s, q_iload1, q_invs2_21, q_istore3, q_iload2, q_ic_ne, q_iconst, q_goto, q_nop, q_istore4, q_iload3, q_ic_eq, q_iload4, q_if_eq, q_invv1, inv_1, q_invv2, q_if_ne, q_iret, q_ineg, q_invs3_21, e_231_0, e_231_1, e_231_2, e_231_3, e_231_4, e_231_5, e_231_6, L_0, L_1, k_some, k_none, pRm_i, pRm_r, pRm_0, pF_1, pF_2, inv_s, s3.k0, s3.k1, s3.k7, s3.p0, s3.p1, s3.p2, s3.p3, s3.p4, s3.p5, s3.p6, s3.p7, s3.p8, s3.q0, s3.q1, s3.q2, s3.q3, s3.q4, s3.r0, s3.r1, s3.r2, s3.r3, s3.r4, s3.r5, s3.r6, w_worthS s3, e5, e6, add_n0, nN_le, nN_lt, nN_eq, nN_add, nN_mul, nN_lt0, nN_ge0, nN_gt0, nN_le0, nN_eq0, nN_eq1, nN_neN, pIn_n, pIx_n, eq_self, Bool.false_eq_true, Nat.add_zero, Nat.zero_add, Nat.reduceAdd, Nat.reduceMul, Nat.reduceSub, Nat.zero_le, Nat.reduceLeDiff, Nat.reduceEqDiff, Nat.le_refl, not_false_eq_true, not_true_eq_false, false_implies, true_implies, forall_const, true_and, and_true, if_true, if_false, implies_true, and_self, ne_eq, false_and, and_false, or_false, false_or, true_or, or_true, sPassV, sPassA, c]
    exact ⟨R3, A3⟩
theorem sMay_k (hw : Wf a) (hf : f < nF a) (h : sMay a f = true) : fD a f ≤ 9 ∧ ∃ h, h < nP a ∧ fa a f 2 = nN h := by
  obtain ⟨l, h1, h2⟩ := hw.law
  obtain ⟨e1, e2, e3⟩ := hw.fD f hf
  simp only [sMay, Bool.and_eq_true, Bool.not_eq_true', decide_eq_false_iff_not, decide_eq_true_eq] at h
  obtain ⟨g1, g2⟩ := h
  rw [h2, e2, nN_lt (by omega) (by omega)] at g2
  exact ⟨by omega, (hw.fH f hf).resolve_left g1⟩
theorem w_pass (hr : Rep M t a) (hw : Wf a) (hT : TmR M t a) (ht : t + 22 ≤ 101) (hf : f < nF a) (hy : y < nP a) (hne : ¬ fa a f 2 = nN y) :
    mw (d + 9) 231 [.ref t, .int (nN f), .int (nN y)] M (fun o M' => if sCanP a f y = true then o = .inl (some (.int (sPassV a f y))) ∧ Rep M' t (sPassA a f y) ∧ Ag (XTw (gS M) (gP M) t) M M' else o = .inl (some (.int (iN (-1)))) ∧ Rep M' t a ∧ Ag (XTw (gS M) (gP M) t) M M') := by
  have hp' := hw.p'
  have hf' := hw.f'
  have b1 : ∀ z, (fa a f 2 = nN z) → ¬ nN z = nN y := fun z h1 h2 => hne (h1.trans h2)
  by_cases c : fa a f 0 = nN y
  · by_cases c2 : sMay a f = true
    · have e : sCanP a f y = true := by simp [sCanP, c, c2]
      obtain ⟨hk, h, hh1, hh⟩ := sMay_k hw hf c2
      simp (disch := omega) only [m_231, q_aload0, q_aload0N, q_get_r, pTag_1, pRf_s, q_iload1, q_invs2_21, q_istore3, q_iload2, q_ic_ne, q_iconst, q_goto, q_nop, q_istore4, q_iload3, q_ic_eq, q_iload4, q_if_eq, q_invv1, inv_1, q_invv2, q_if_ne, q_iret, q_ineg, q_invs3_21, e_231_0, e_231_1, e_231_2, e_231_3, e_231_4, e_231_6, L_0, L_1, k_some, k_none, pRm_i, pRm_r, pRm_0, pF_1, pF_2, inv_s, hr.sh.k7, hr.nf, hr.sh.r0, hr.sh.r1, hr.sh.r2, hr.sh.r3, hr.sh.r4, hr.sh.r5, hr.sh.r6, w_atN hr.sh.k8, w_atN hr.sh.k9, w_atN hr.sh.k10, w_atN hr.sh.k11, w_atN hr.sh.k12, w_atN hr.sh.k13, w_atN hr.sh.k14, hr.g, hr.h, hr.am, hr.hd, hr.en, hr.fc, hr.sh.k0, hr.nt, hr.ne, hr.nr, hr.nx, hr.day, hr.law, hr.sh.p0, hr.sh.p1, hr.sh.p2, hr.sh.p3, hr.sh.p4, hr.sh.p5, hr.sh.p6, hr.sh.p7, hr.sh.p8, w_mayMove hr hw, c, c2, e, nN_le, nN_lt, nN_eq, nN_add, nN_mul, nN_lt0, nN_ge0, nN_gt0, nN_le0, nN_eq0, nN_eq1, nN_neN, pIn_n, pIx_n, eq_self, Bool.false_eq_true, Nat.add_zero, Nat.zero_add, Nat.reduceAdd, Nat.reduceMul, Nat.reduceSub, Nat.zero_le, Nat.reduceLeDiff, Nat.reduceEqDiff, Nat.le_refl, not_false_eq_true, not_true_eq_false, false_implies, true_implies, forall_const, true_and, and_true, if_true, if_false, implies_true, and_self, ne_eq, false_and, and_false, or_false, false_or, true_or, or_true, hne, bI_eq0]
      rw [hh]
      exact w_passGo hr hw hf hy hk hh hh1 (fun z => hne (by rw [hh, z])) (bI_t c)
    · have e : ¬ sCanP a f y = true := by simp [sCanP, c2]
      simp (disch := omega) only [m_231, q_aload0, q_aload0N, q_get_r, pTag_1, pRf_s, q_iload1, q_invs2_21, q_istore3, q_iload2, q_ic_ne, q_iconst, q_goto, q_nop, q_istore4, q_iload3, q_ic_eq, q_iload4, q_if_eq, q_invv1, inv_1, q_invv2, q_if_ne, q_iret, q_ineg, q_invs3_21, e_231_0, e_231_1, e_231_2, e_231_3, e_231_4, e_231_6, L_0, L_1, k_some, k_none, pRm_i, pRm_r, pRm_0, pF_1, pF_2, inv_s, hr.sh.k7, hr.nf, hr.sh.r0, hr.sh.r1, hr.sh.r2, hr.sh.r3, hr.sh.r4, hr.sh.r5, hr.sh.r6, w_atN hr.sh.k8, w_atN hr.sh.k9, w_atN hr.sh.k10, w_atN hr.sh.k11, w_atN hr.sh.k12, w_atN hr.sh.k13, w_atN hr.sh.k14, hr.g, hr.h, hr.am, hr.hd, hr.en, hr.fc, hr.sh.k0, hr.nt, hr.ne, hr.nr, hr.nx, hr.day, hr.law, hr.sh.p0, hr.sh.p1, hr.sh.p2, hr.sh.p3, hr.sh.p4, hr.sh.p5, hr.sh.p6, hr.sh.p7, hr.sh.p8, w_mayMove hr hw, c, c2, e, nN_le, nN_lt, nN_eq, nN_add, nN_mul, nN_lt0, nN_ge0, nN_gt0, nN_le0, nN_eq0, nN_eq1, nN_neN, pIn_n, pIx_n, eq_self, Bool.false_eq_true, Nat.add_zero, Nat.zero_add, Nat.reduceAdd, Nat.reduceMul, Nat.reduceSub, Nat.zero_le, Nat.reduceLeDiff, Nat.reduceEqDiff, Nat.le_refl, not_false_eq_true, not_true_eq_false, false_implies, true_implies, forall_const, true_and, and_true, if_true, if_false, implies_true, and_self, ne_eq, false_and, and_false, or_false, false_or, true_or, or_true, hne, bI_eq0]
      exact ⟨hr, Ag.rfl⟩
  · simp (disch := omega) only [m_231, q_aload0, q_aload0N, q_get_r, pTag_1, pRf_s, q_iload1, q_invs2_21, q_istore3, q_iload2, q_ic_ne, q_iconst, q_goto, q_nop, q_istore4, q_iload3, q_ic_eq, q_iload4, q_if_eq, q_invv1, inv_1, q_invv2, q_if_ne, q_iret, q_ineg, q_invs3_21, e_231_0, e_231_1, e_231_2, e_231_3, e_231_4, e_231_6, L_0, L_1, k_some, k_none, pRm_i, pRm_r, pRm_0, pF_1, pF_2, inv_s, hr.sh.k7, hr.nf, hr.sh.r0, hr.sh.r1, hr.sh.r2, hr.sh.r3, hr.sh.r4, hr.sh.r5, hr.sh.r6, w_atN hr.sh.k8, w_atN hr.sh.k9, w_atN hr.sh.k10, w_atN hr.sh.k11, w_atN hr.sh.k12, w_atN hr.sh.k13, w_atN hr.sh.k14, hr.g, hr.h, hr.am, hr.hd, hr.en, hr.fc, hr.sh.k0, hr.nt, hr.ne, hr.nr, hr.nx, hr.day, hr.law, hr.sh.p0, hr.sh.p1, hr.sh.p2, hr.sh.p3, hr.sh.p4, hr.sh.p5, hr.sh.p6, hr.sh.p7, hr.sh.p8, c, nN_le, nN_lt, nN_eq, nN_add, nN_mul, nN_lt0, nN_ge0, nN_gt0, nN_le0, nN_eq0, nN_eq1, nN_neN, pIn_n, pIx_n, eq_self, Bool.false_eq_true, Nat.add_zero, Nat.zero_add, Nat.reduceAdd, Nat.reduceMul, Nat.reduceSub, Nat.zero_le, Nat.reduceLeDiff, Nat.reduceEqDiff, Nat.le_refl, not_false_eq_true, not_true_eq_false, false_implies, true_implies, forall_const, true_and, and_true, if_true, if_false, implies_true, and_self, ne_eq, false_and, and_false, or_false, false_or, true_or, or_true, hne, bI_eq0]
    refine mw_mono (w_goTo hr hw hT (by omega) hy hf) ?_
    rintro _ M1 ⟨rfl, A1⟩
    have r1 := hr.ag A1 (fun h k h1 h2 h3 h4 => XC_low (by omega) h3 h4)
    by_cases c2 : sGoTo a f y = true
    · have e : sCanP a f y = true := by
        simp only [sGoTo, Bool.and_eq_true] at c2
        simp [sCanP, c2.1.1, c2.2]
      obtain ⟨hk, h, hh1, hh⟩ := sMay_k hw hf (by simp only [sGoTo, Bool.and_eq_true] at c2; exact c2.1.1)
      rw [hh]
      simp (disch := omega) only [q_aload0, q_aload0N, q_get_r, pTag_1, pRf_s, q_iload1, q_invs2_21, q_istore3, q_iload2, q_ic_ne, q_iconst, q_goto, q_nop, q_istore4, q_iload3, q_ic_eq, q_iload4, q_if_eq, q_invv1, inv_1, q_invv2, q_if_ne, q_iret, q_ineg, q_invs3_21, e_231_0, e_231_1, e_231_2, e_231_3, e_231_4, e_231_6, L_0, L_1, k_some, k_none, pRm_i, pRm_r, pRm_0, pF_1, pF_2, inv_s, c2, e, nN_le, nN_lt, nN_eq, nN_add, nN_mul, nN_lt0, nN_ge0, nN_gt0, nN_le0, nN_eq0, nN_eq1, nN_neN, pIn_n, pIx_n, eq_self, Bool.false_eq_true, Nat.add_zero, Nat.zero_add, Nat.reduceAdd, Nat.reduceMul, Nat.reduceSub, Nat.zero_le, Nat.reduceLeDiff, Nat.reduceEqDiff, Nat.le_refl, not_false_eq_true, not_true_eq_false, false_implies, true_implies, forall_const, true_and, and_true, if_true, if_false, implies_true, and_self, ne_eq, false_and, and_false, or_false, false_or, true_or, or_true, bI_eq0]
      refine bw_mono (w_passGo r1 hw hf hy hk hh hh1 (fun z => hne (by rw [hh, z])) (bI_f c)) ?_
      rintro _ M2 ⟨rfl, R2, A2⟩
      rw [A1.S, A1.P] at A2
      exact ⟨rfl, R2, (A1.mono XC_XTw).trans A2⟩
    · have e : ¬ sCanP a f y = true := by
        intro z
        simp only [sCanP, Bool.and_eq_true, Bool.or_eq_true, decide_eq_true_eq] at z
        exact c2 (by simp [sGoTo, c, z.1, z.2.resolve_left c])
      simp (disch := omega) only [q_aload0, q_aload0N, q_get_r, pTag_1, pRf_s, q_iload1, q_invs2_21, q_istore3, q_iload2, q_ic_ne, q_iconst, q_goto, q_nop, q_istore4, q_iload3, q_ic_eq, q_iload4, q_if_eq, q_invv1, inv_1, q_invv2, q_if_ne, q_iret, q_ineg, q_invs3_21, e_231_0, e_231_1, e_231_2, e_231_3, e_231_4, e_231_6, L_0, L_1, k_some, k_none, pRm_i, pRm_r, pRm_0, pF_1, pF_2, inv_s, c2, e, nN_le, nN_lt, nN_eq, nN_add, nN_mul, nN_lt0, nN_ge0, nN_gt0, nN_le0, nN_eq0, nN_eq1, nN_neN, pIn_n, pIx_n, eq_self, Bool.false_eq_true, Nat.add_zero, Nat.zero_add, Nat.reduceAdd, Nat.reduceMul, Nat.reduceSub, Nat.zero_le, Nat.reduceLeDiff, Nat.reduceEqDiff, Nat.le_refl, not_false_eq_true, not_true_eq_false, false_implies, true_implies, forall_const, true_and, and_true, if_true, if_false, implies_true, and_self, ne_eq, false_and, and_false, or_false, false_or, true_or, or_true, bI_eq0]
      exact ⟨r1, A1.mono XC_XTw⟩
theorem w_passSame (hr : Rep M t a) (hw : Wf a) (hf : f < nF a) (hne : fa a f 2 = nN y) : mw (d + 9) 231 [.ref t, .int (nN f), .int (nN y)] M Q = Q (.inl (some (.int (iN (-1))))) M := by
  have hf' := hw.f'
  by_cases c : fa a f 0 = nN y
  · simp (disch := omega) only [m_231, q_aload0, q_aload0N, q_get_r, pTag_1, pRf_s, q_iload1, q_invs2_21, q_istore3, q_iload2, q_ic_ne, q_iconst, q_goto, q_nop, q_istore4, q_iload3, q_ic_eq, q_iload4, q_if_eq, q_invv1, inv_1, q_invv2, q_if_ne, q_iret, q_ineg, q_invs3_21, e_231_0, e_231_1, e_231_2, e_231_4, e_231_6, L_0, L_1, k_some, k_none, pRm_i, pRm_r, pRm_0, pF_1, pF_2, inv_s, hr.sh.k7, hr.nf, hr.sh.r0, hr.sh.r1, hr.sh.r2, hr.sh.r3, hr.sh.r4, hr.sh.r5, hr.sh.r6, w_atN hr.sh.k8, w_atN hr.sh.k9, w_atN hr.sh.k10, w_atN hr.sh.k11, w_atN hr.sh.k12, w_atN hr.sh.k13, w_atN hr.sh.k14, hr.g, hr.h, hr.am, hr.hd, hr.en, hr.fc, hr.sh.k0, hr.nt, hr.ne, hr.nr, hr.nx, hr.day, hr.law, hr.sh.p0, hr.sh.p1, hr.sh.p2, hr.sh.p3, hr.sh.p4, hr.sh.p5, hr.sh.p6, hr.sh.p7, hr.sh.p8, c, nN_le, nN_lt, nN_eq, nN_add, nN_mul, nN_lt0, nN_ge0, nN_gt0, nN_le0, nN_eq0, nN_eq1, nN_neN, pIn_n, pIx_n, eq_self, Bool.false_eq_true, Nat.add_zero, Nat.zero_add, Nat.reduceAdd, Nat.reduceMul, Nat.reduceSub, Nat.zero_le, Nat.reduceLeDiff, Nat.reduceEqDiff, Nat.le_refl, not_false_eq_true, not_true_eq_false, false_implies, true_implies, forall_const, true_and, and_true, if_true, if_false, implies_true, and_self, ne_eq, false_and, and_false, or_false, false_or, true_or, or_true, hne]
  · simp (disch := omega) only [m_231, q_aload0, q_aload0N, q_get_r, pTag_1, pRf_s, q_iload1, q_invs2_21, q_istore3, q_iload2, q_ic_ne, q_iconst, q_goto, q_nop, q_istore4, q_iload3, q_ic_eq, q_iload4, q_if_eq, q_invv1, inv_1, q_invv2, q_if_ne, q_iret, q_ineg, q_invs3_21, e_231_0, e_231_1, e_231_2, e_231_4, e_231_6, L_0, L_1, k_some, k_none, pRm_i, pRm_r, pRm_0, pF_1, pF_2, inv_s, hr.sh.k7, hr.nf, hr.sh.r0, hr.sh.r1, hr.sh.r2, hr.sh.r3, hr.sh.r4, hr.sh.r5, hr.sh.r6, w_atN hr.sh.k8, w_atN hr.sh.k9, w_atN hr.sh.k10, w_atN hr.sh.k11, w_atN hr.sh.k12, w_atN hr.sh.k13, w_atN hr.sh.k14, hr.g, hr.h, hr.am, hr.hd, hr.en, hr.fc, hr.sh.k0, hr.nt, hr.ne, hr.nr, hr.nx, hr.day, hr.law, hr.sh.p0, hr.sh.p1, hr.sh.p2, hr.sh.p3, hr.sh.p4, hr.sh.p5, hr.sh.p6, hr.sh.p7, hr.sh.p8, c, nN_le, nN_lt, nN_eq, nN_add, nN_mul, nN_lt0, nN_ge0, nN_gt0, nN_le0, nN_eq0, nN_eq1, nN_neN, pIn_n, pIx_n, eq_self, Bool.false_eq_true, Nat.add_zero, Nat.zero_add, Nat.reduceAdd, Nat.reduceMul, Nat.reduceSub, Nat.zero_le, Nat.reduceLeDiff, Nat.reduceEqDiff, Nat.le_refl, not_false_eq_true, not_true_eq_false, false_implies, true_implies, forall_const, true_and, and_true, if_true, if_false, implies_true, and_self, ne_eq, false_and, and_false, or_false, false_or, true_or, or_true, hne]
theorem w_callIn (hr : Rep M t a) (hw : Wf a) (hf : f < nF a) :
    mw (d + 5) 232 [.ref t, .int (nN f)] M (fun o M' => if fa a f 2 = iN (-1) then o = .inl (some (.int (iN (-1)))) ∧ Rep M' t a ∧ Ag (XTw (gS M) (gP M) t) M M' else o = .inl (some (.int (sWorth (fa a f 1) (fa a f 3)))) ∧ Rep M' t (sGone a f) ∧ Ag (XTw (gS M) (gP M) t) M M') := by
  have hf' := hw.f'
  by_cases c : fa a f 2 = iN (-1)
  · simp (disch := omega) only [m_232, q_aload0, q_aload0N, q_get_r, pTag_1, pRf_s, q_iload1, q_invv1, inv_1, q_if_eq, q_iconst, q_iret, q_invv2, e_232_0, e_232_1, L_0, k_some, k_none, pRm_i, pRm_r, pRm_0, pF_1, pF_2, inv_s, hr.sh.k7, hr.nf, hr.sh.r0, hr.sh.r1, hr.sh.r2, hr.sh.r3, hr.sh.r4, hr.sh.r5, hr.sh.r6, w_atN hr.sh.k8, w_atN hr.sh.k9, w_atN hr.sh.k10, w_atN hr.sh.k11, w_atN hr.sh.k12, w_atN hr.sh.k13, w_atN hr.sh.k14, hr.g, hr.h, hr.am, hr.hd, hr.en, hr.fc, hr.sh.k0, hr.nt, hr.ne, hr.nr, hr.nx, hr.day, hr.law, hr.sh.p0, hr.sh.p1, hr.sh.p2, hr.sh.p3, hr.sh.p4, hr.sh.p5, hr.sh.p6, hr.sh.p7, hr.sh.p8, w_isGone hr hw, c, nN_le, nN_lt, nN_eq, nN_add, nN_mul, nN_lt0, nN_ge0, nN_gt0, nN_le0, nN_eq0, nN_eq1, nN_neN, pIn_n, pIx_n, eq_self, Bool.false_eq_true, Nat.add_zero, Nat.zero_add, Nat.reduceAdd, Nat.reduceMul, Nat.reduceSub, Nat.zero_le, Nat.reduceLeDiff, Nat.reduceEqDiff, Nat.le_refl, not_false_eq_true, not_true_eq_false, false_implies, true_implies, forall_const, true_and, and_true, if_true, if_false, implies_true, and_self, ne_eq, false_and, and_false, or_false, false_or, true_or, or_true, bI_eq0]
    exact ⟨hr, Ag.rfl⟩
  · simp (disch := omega) only [m_232, q_aload0, q_aload0N, q_get_r, pTag_1, pRf_s, q_iload1, q_invv1, inv_1, q_if_eq, q_iconst, q_iret, q_invv2, e_232_0, e_232_1, L_0, k_some, k_none, pRm_i, pRm_r, pRm_0, pF_1, pF_2, inv_s, hr.sh.k7, hr.nf, hr.sh.r0, hr.sh.r1, hr.sh.r2, hr.sh.r3, hr.sh.r4, hr.sh.r5, hr.sh.r6, w_atN hr.sh.k8, w_atN hr.sh.k9, w_atN hr.sh.k10, w_atN hr.sh.k11, w_atN hr.sh.k12, w_atN hr.sh.k13, w_atN hr.sh.k14, hr.g, hr.h, hr.am, hr.hd, hr.en, hr.fc, hr.sh.k0, hr.nt, hr.ne, hr.nr, hr.nx, hr.day, hr.law, hr.sh.p0, hr.sh.p1, hr.sh.p2, hr.sh.p3, hr.sh.p4, hr.sh.p5, hr.sh.p6, hr.sh.p7, hr.sh.p8, w_isGone hr hw, c, nN_le, nN_lt, nN_eq, nN_add, nN_mul, nN_lt0, nN_ge0, nN_gt0, nN_le0, nN_eq0, nN_eq1, nN_neN, pIn_n, pIx_n, eq_self, Bool.false_eq_true, Nat.add_zero, Nat.zero_add, Nat.reduceAdd, Nat.reduceMul, Nat.reduceSub, Nat.zero_le, Nat.reduceLeDiff, Nat.reduceEqDiff, Nat.le_refl, not_false_eq_true, not_true_eq_false, false_implies, true_implies, forall_const, true_and, and_true, if_true, if_false, implies_true, and_self, ne_eq, false_and, and_false, or_false, false_or, true_or, or_true, bI_eq0]
    refine mw_mono (w_vanish hr hw hf c) ?_
    rintro _ M1 ⟨rfl, R1, A1⟩
    have s1 := R1.sh
    have e1 := R1.am f (by rw [lo_nF (fun j hj => sGone_lo hj)]; exact hf)
    have e2 := R1.hd f (by rw [lo_nF (fun j hj => sGone_lo hj)]; exact hf)
    unfold sGone at e1 e2
    rw [fS_ne (by omega) (by omega) (Or.inr (by omega))] at e1 e2
    simp (disch := first | omega | rfl | (repeat' (first | exact gS_sI | exact gP_sI | refine Eq.trans gS_sI ?_ | refine Eq.trans gP_sI ?_))) only [q_aload0, q_aload0N, q_get_r, pTag_1, pRf_s, q_iload1, q_invv1, inv_1, q_if_eq, q_iconst, q_iret, q_invv2, e_232_0, e_232_1, L_0, k_some, k_none, pRm_i, pRm_r, pRm_0, pF_1, pF_2, inv_s, s1.k0, s1.k1, s1.k7, s1.p0, s1.p1, s1.p2, s1.p3, s1.p4, s1.p5, s1.p6, s1.p7, s1.p8, s1.q0, s1.q1, s1.q2, s1.q3, s1.q4, s1.r0, s1.r1, s1.r2, s1.r3, s1.r4, s1.r5, s1.r6, w_worthS s1, e1, e2, nN_le, nN_lt, nN_eq, nN_add, nN_mul, nN_lt0, nN_ge0, nN_gt0, nN_le0, nN_eq0, nN_eq1, nN_neN, pIn_n, pIx_n, eq_self, Bool.false_eq_true, Nat.add_zero, Nat.zero_add, Nat.reduceAdd, Nat.reduceMul, Nat.reduceSub, Nat.zero_le, Nat.reduceLeDiff, Nat.reduceEqDiff, Nat.le_refl, not_false_eq_true, not_true_eq_false, false_implies, true_implies, forall_const, true_and, and_true, if_true, if_false, implies_true, and_self, ne_eq, false_and, and_false, or_false, false_or, true_or, or_true, add_n0]
    exact ⟨R1, A1⟩
end PS
