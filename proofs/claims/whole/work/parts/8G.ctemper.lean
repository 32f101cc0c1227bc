/-! THE CLASS'S temper(): all of it -/
section TC8
variable {d t n u q m c s p src R cr : Nat} {a a' ak : Nat → Int32} {img : Bool} {b b' : Nat → Nat} {fl fl' : Int32} {M M1 M2 M3 M' : pMem} {Q : pOut → pMem → Prop} {h k : Nat} {cs : List Nat}
theorem c_temper (c : CI M a ak img n b fl) (hw : Wg a) (hF : Fr M) (hN : gN M ≤ 800000) (hn : n ≤ 400) (hb : ∀ k, b k < 256) (hs : ShM (gS M) (gP M) 86) :
    mw (d + 36) 4 [.ref 0] M (fun o M' => (match pTemper (th tW n b) (nx9 n b) 400 (nb n b 0) with
      | .inl e => o = .inr 0 ∧ CI M' a ak img 0 b (nN e)
      | .inr _ => if nT a = 6 then o = .inr 2 ∧ CI M' a ak img 0 b (iN (-1)) else o = .inl (some (.int (nN (nT a)))) ∧ CI M' (sTemper a n b) ak img 0 b (iN (-1))) ∧ CQ M 3 430 M') := by
  have k0 := c.sh.k0
  have p0 := c.sh.p0
  have p5 := c.sh.p5
  have k72 := c.sh.k72
  have k1 := c.sh.k1
  have tn := c.tn
  have hT6 := hw.1.t'
  simp (disch := omega) only [m_4, q_aload0, q_aload0N, q_get_r, pTag_1, pRf_s, q_invv0, inv_1, q_invv1, q_istore1, q_get_i, q_put_i, q_iload1, q_if_ne, q_thr, q_bipush, q_ic_lt, q_iret, e_4_0, L_6, k_some, k_none, pRm_i, pRm_r, pRm_0, pF_1, pF_2, inv_s, k0, p5, k72, nN_le, nN_lt, nN_eq, nN_add, nN_mul, nN_lt0, nN_ge0, nN_gt0, nN_le0, nN_eq0, nN_eq1, nN_neN, pIn_n, pIx_n, eq_self, Nat.reduceLT, Bool.false_eq_true, Nat.add_zero, Nat.zero_add, Nat.reduceAdd, Nat.reduceMul, Nat.reduceSub, Nat.zero_le, Nat.reduceLeDiff, Nat.reduceEqDiff, Nat.le_refl, not_false_eq_true, not_true_eq_false, false_implies, true_implies, forall_const, true_and, and_true, if_true, if_false, implies_true, and_self, ne_eq, false_and, and_false, or_false, false_or, true_or, or_true]
  simp (disch := omega) only [m_206, q_aload0, q_aload0N, q_iconst, q_put_i, pTag_1, q_vret, e_206_0, L_0, q_aload0, q_aload0N, q_get_r, pTag_1, pRf_s, q_invv0, inv_1, q_invv1, q_istore1, q_get_i, q_put_i, q_iload1, q_if_ne, q_thr, q_bipush, q_ic_lt, q_iret, e_4_0, L_6, k_some, k_none, pRm_i, pRm_r, pRm_0, pF_1, pF_2, inv_s, k0, p5, k72, p0, k1, gS_sI, gP_sI, nN_le, nN_lt, nN_eq, nN_add, nN_mul, nN_lt0, nN_ge0, nN_gt0, nN_le0, nN_eq0, nN_eq1, nN_neN, pIn_n, pIx_n, eq_self, Nat.reduceLT, Bool.false_eq_true, Nat.add_zero, Nat.zero_add, Nat.reduceAdd, Nat.reduceMul, Nat.reduceSub, Nat.zero_le, Nat.reduceLeDiff, Nat.reduceEqDiff, Nat.le_refl, not_false_eq_true, not_true_eq_false, false_implies, true_implies, forall_const, true_and, and_true, if_true, if_false, implies_true, and_self, ne_eq, false_and, and_false, or_false, false_or, true_or, or_true]
  simp (disch := omega) only [m_199, q_aload0, q_aload0N, q_get_i, pTag_1, pRf_s, q_istore1, q_iconst, q_put_i, q_iload1, q_iret, e_199_0, L_0, q_aload0, q_aload0N, q_get_r, pTag_1, pRf_s, q_invv0, inv_1, q_invv1, q_istore1, q_get_i, q_put_i, q_iload1, q_if_ne, q_thr, q_bipush, q_ic_lt, q_iret, e_4_0, L_6, k_some, k_none, pRm_i, pRm_r, pRm_0, pF_1, pF_2, inv_s, k0, p5, k72, p0, k1, gS_sI, gP_sI, gS_sI, gP_sI, gI_sI, Nat.add_left_cancel_iff, Nat.add_eq_left, Nat.left_eq_add, tn, pF_1, pF_8, nN_le, nN_lt, nN_eq, nN_add, nN_mul, nN_lt0, nN_ge0, nN_gt0, nN_le0, nN_eq0, nN_eq1, nN_neN, pIn_n, pIx_n, eq_self, Nat.reduceLT, Bool.false_eq_true, Nat.add_zero, Nat.zero_add, Nat.reduceAdd, Nat.reduceMul, Nat.reduceSub, Nat.zero_le, Nat.reduceLeDiff, Nat.reduceEqDiff, Nat.le_refl, not_false_eq_true, not_true_eq_false, false_implies, true_implies, forall_const, true_and, and_true, if_true, if_false, implies_true, and_self, ne_eq, false_and, and_false, or_false, false_or, true_or, or_true]
  have k72' : (gS M 72).1 = 8 := by rw [k72]
  have A2 : Ag LoX M (sI (sI M 72 11 (nN 0)) 1 1 (nN 0)) := Ag.put (Ag.one (Or.inr (Or.inr (Or.inr (Or.inr ⟨Or.inr rfl, by omega⟩))))) (Or.inr (Or.inl ⟨rfl, rfl⟩))
  have R2 : RdS (sI (sI M 72 11 (nN 0)) 1 1 (nN 0)) 72 73 74 2 900002 := RdS.mk (Or.inl k72') c.sh.q72a c.sh.q72b c.sh.q72c c.sh.q72d c.sh.k73 c.sh.k74 c.sh.k2 c.sh.s2 (by omega) (by omega) (by omega) (by omega) (by omega) (by omega)
  have tn2 : gI (sI (sI M 72 11 (nN 0)) 1 1 (nN 0)) 1 1 = nN 0 := by rw [gI_sI, if_pos ⟨rfl, rfl⟩]
  have w9 := w_readT (d := d + 1) (cr := 75) R2 WdO_t (W2_t (n := n) (b := b)) (fun k hk => by rw [gI_sI, if_neg (by omega), gI_sI, if_neg (by omega)]; exact c.tb k hk) hb hn k72' c.sh.q72e c.sh.k75 (by omega) (by rw [gI_sI, if_neg (by omega), gI_sI, if_pos ⟨rfl, rfl⟩]) (by rw [gI_sI, if_neg (by omega), gI_sI, if_neg (by omega)]; exact c.l72)
  refine mw_mono w9 ?_
  rintro o M3 ⟨h3, A3⟩
  have A03 : Ag LoX M M3 := A2.trans (A3.mono fun h k z => by
    rcases z with z | z | z | ⟨z, z2⟩
    · exact Or.inr (Or.inr (Or.inr (Or.inl (by omega))))
    · exact Or.inr (Or.inr (Or.inr (Or.inl (by omega))))
    · exact Or.inr (Or.inr (Or.inr (Or.inl (by omega))))
    · exact Or.inr (Or.inr (Or.inr (Or.inr ⟨Or.inr z, by omega⟩))))
  have tn3 : gI M3 1 1 = nN 0 := by
    rw [A3.I (by rintro (z | z | z | ⟨z, -⟩) <;> omega)]
    exact tn2
  have S3 := A03.S
  have P3 := A03.P
  have e0 : (gS M3 0).1 = 11 := by rw [S3, k0]
  have e5 : gP M3 0 5 = some 72 := by rw [P3]; exact p5
  have e1 : gP M3 0 1 = some 3 := by rw [P3]; exact c.sh.p1
  have e72 : (gS M3 72).1 = 8 := by rw [S3]; exact k72'
  have A4 : Ag LoX M3 (sI M3 0 10 (gI M3 72 9)) := Ag.one (Or.inl ⟨rfl, rfl⟩)
  have A04 := A03.trans A4
  have hx9 : ∀ h k, (86 ≤ h ∧ h ≤ 100) ∨ h = 900000 → ¬ LoX h k := fun h k z z2 => by unfold LoX at z2; omega
  have c4 : CI (sI M3 0 10 (gI M3 72 9)) a ak img 0 b (gI M3 72 9) := c.lox A04 (by rw [gI_sI, if_neg (by omega)]; exact tn3) (by omega) (by rw [gI_sI, if_pos ⟨rfl, rfl⟩])
  have q4 : CQ M 0 0 (sI M3 0 10 (gI M3 72 9)) := CQ.ofA hF A04 hx9
  have hN4 : gN (sI M3 0 10 (gI M3 72 9)) = gN M := A04.N
  have nT3 : gI M3 3 9 = nN (nT a) := by rw [← hw.1.t, ← c.rep.nt]; exact A03.I (by unfold LoX; omega)
  have e3 : (gS M3 3).1 = 9 := by rw [S3, c.sh.t3.k0]
  cases hp : pTemper (th tW n b) (nx9 n b) 400 (nb n b 0) with
  | inl e =>
    rw [hp] at h3
    obtain ⟨rfl, f3⟩ := h3
    simp (disch := omega) only [q_aload0, q_aload0N, q_get_r, pTag_1, pRf_s, q_invv0, inv_1, q_invv1, q_istore1, q_get_i, q_put_i, q_iload1, q_if_ne, q_thr, q_bipush, q_ic_lt, q_iret, e_4_0, L_6, k_some, k_none, pRm_i, pRm_r, pRm_0, pF_1, pF_2, inv_s, q_thr, pRm_i, pRm_r, pRm_0, e0, e5, e72, nN_le, nN_lt, nN_eq, nN_add, nN_mul, nN_lt0, nN_ge0, nN_gt0, nN_le0, nN_eq0, nN_eq1, nN_neN, pIn_n, pIx_n, eq_self, Nat.reduceLT, Bool.false_eq_true, Nat.add_zero, Nat.zero_add, Nat.reduceAdd, Nat.reduceMul, Nat.reduceSub, Nat.zero_le, Nat.reduceLeDiff, Nat.reduceEqDiff, Nat.le_refl, not_false_eq_true, not_true_eq_false, false_implies, true_implies, forall_const, true_and, and_true, if_true, if_false, implies_true, and_self, ne_eq, false_and, and_false, or_false, false_or, true_or, or_true]
    rw [f3] at c4 q4 hN4 ⊢
    obtain ⟨z1, z2, z3, z4⟩ := q4.nx (by rw [hN4]; omega)
    exact ⟨c4.ex (Ex.nx q4.2.1 (by rw [hN4]; omega)), z1, z2, by omega, by omega⟩
  | inr s =>
    rw [hp] at h3
    obtain ⟨rfl, p9, T3, hl9⟩ := h3
    have f3 : gI M3 72 9 = iN (-1) := T3.1.ft
    dsimp only
    simp (disch := omega) only [q_aload0, q_aload0N, q_get_r, pTag_1, pRf_s, q_invv0, inv_1, q_invv1, q_istore1, q_get_i, q_put_i, q_iload1, q_if_ne, q_thr, q_bipush, q_ic_lt, q_iret, e_4_0, L_6, k_some, k_none, pRm_i, pRm_r, pRm_0, pF_1, pF_2, inv_s, e0, e5, e72, nN_le, nN_lt, nN_eq, nN_add, nN_mul, nN_lt0, nN_ge0, nN_gt0, nN_le0, nN_eq0, nN_eq1, nN_neN, pIn_n, pIx_n, eq_self, Nat.reduceLT, Bool.false_eq_true, Nat.add_zero, Nat.zero_add, Nat.reduceAdd, Nat.reduceMul, Nat.reduceSub, Nat.zero_le, Nat.reduceLeDiff, Nat.reduceEqDiff, Nat.le_refl, not_false_eq_true, not_true_eq_false, false_implies, true_implies, forall_const, true_and, and_true, if_true, if_false, implies_true, and_self, ne_eq, false_and, and_false, or_false, false_or, true_or, or_true]
    rw [e_4_1]
    by_cases h6 : nT a = 6
    · have g6 : ¬ nT a < 6 := by omega
      simp only [if_pos h6]
      have nT4 : gI (sI M3 0 10 (gI M3 72 9)) 3 9 = nN (nT a) := by rw [gI_sI, if_neg (by omega)]; exact nT3
      simp (disch := omega) only [q_aload0, q_aload0N, q_get_r, pTag_1, pRf_s, q_invv0, inv_1, q_invv1, q_istore1, q_get_i, q_put_i, q_iload1, q_if_ne, q_thr, q_bipush, q_ic_lt, q_iret, e_4_0, L_6, k_some, k_none, pRm_i, pRm_r, pRm_0, pF_1, pF_2, inv_s, q_thr, pRm_i, pRm_r, pRm_0, e0, e1, e3, gS_sI, gP_sI, nT4, g6, nN_le, nN_lt, nN_eq, nN_add, nN_mul, nN_lt0, nN_ge0, nN_gt0, nN_le0, nN_eq0, nN_eq1, nN_neN, pIn_n, pIx_n, eq_self, Nat.reduceLT, Bool.false_eq_true, Nat.add_zero, Nat.zero_add, Nat.reduceAdd, Nat.reduceMul, Nat.reduceSub, Nat.zero_le, Nat.reduceLeDiff, Nat.reduceEqDiff, Nat.le_refl, not_false_eq_true, not_true_eq_false, false_implies, true_implies, forall_const, true_and, and_true, if_true, if_false, implies_true, and_self, ne_eq, false_and, and_false, or_false, false_or, true_or, or_true]
      rw [f3] at c4 q4 hN4 ⊢
      obtain ⟨z1, z2, z3, z4⟩ := q4.nx (by rw [hN4]; omega)
      exact ⟨c4.ex (Ex.nx q4.2.1 (by rw [hN4]; omega)), z1, z2, by omega, by omega⟩
    · have g6 : nT a < 6 := by omega
      simp only [if_neg h6]
      have nT4 : gI (sI M3 0 10 (gI M3 72 9)) 3 9 = nN (nT a) := by rw [gI_sI, if_neg (by omega)]; exact nT3
      simp (disch := omega) only [q_aload0, q_aload0N, q_get_r, pTag_1, pRf_s, q_invv0, inv_1, q_invv1, q_istore1, q_get_i, q_put_i, q_iload1, q_if_ne, q_thr, q_bipush, q_ic_lt, q_iret, e_4_0, e_4_2, L_6, k_some, k_none, pRm_i, pRm_r, pRm_0, pF_1, pF_2, inv_s, e0, e1, e3, e5, e72, gS_sI, gP_sI, nT4, g6, nN_le, nN_lt, nN_eq, nN_add, nN_mul, nN_lt0, nN_ge0, nN_gt0, nN_le0, nN_eq0, nN_eq1, nN_neN, pIn_n, pIx_n, eq_self, Nat.reduceLT, Bool.false_eq_true, Nat.add_zero, Nat.zero_add, Nat.reduceAdd, Nat.reduceMul, Nat.reduceSub, Nat.zero_le, Nat.reduceLeDiff, Nat.reduceEqDiff, Nat.le_refl, not_false_eq_true, not_true_eq_false, false_implies, true_implies, forall_const, true_and, and_true, if_true, if_false, implies_true, and_self, ne_eq, false_and, and_false, or_false, false_or, true_or, or_true]
      obtain ⟨g1, g2, g3⟩ := temper_ok hn hp
      obtain ⟨-, ⟨y1, y2, y3⟩, -, y5, y6⟩ := T3
      rw [f3] at c4 q4 hN4 ⊢
      have hF1 := hF.1
      refine mw_mono (w_made (R := 72) (cr := 75) (m := s.1.length) y1 y2 y3 (by rw [gI_sI, if_neg (by omega)]; exact y5) g1 (by rw [hN4]; omega) (by rw [hN4]; omega)) ?_
      rintro _ M5 ⟨rfl, G5, m1, m2, m3, m4, m5, m6⟩
      have E5 := G5.ex q4.2.1 (by rw [hN4]; omega)
      have F5 := G5.fr q4.2.1
      have c5 := c4.ex E5
      have mf5 := G5.mf q4.2.1 (by rw [hN4]; omega)
      have s5 : ShM (gS M5) (gP M5) 86 := (show ShM (gS (sI M3 0 10 (iN (-1)))) (gP (sI M3 0 10 (iN (-1)))) 86 from by rw [show gS (sI M3 0 10 (iN (-1))) = gS M3 from rfl, show gP (sI M3 0 10 (iN (-1))) = gP M3 from rfl, S3, P3]; exact hs).ex E5
      rw [hN4] at m1 m2 m3 m4 m5 m6 ⊢
      have tm5 : TmO M5 (gN M) s.1 := by
        refine ⟨⟨hF1, by rw [m1], m2, by rw [m3], m4, m5⟩, m3, fun i hi => ?_, fun i => ?_, by omega⟩
        · rw [m6 i hi, gI_sI, if_neg (by omega)]
          have := y6 i hi
          rw [List.nil_append] at this
          exact this
        · rw [List.getD_eq_getElem?_getD]
          cases hh : s.1[i]? with
          | none => show 0 < 4000; omega
          | some v => exact g2 v (List.mem_of_getElem? hh)
      have k3 : (gS M5 3).1 = 9 := by rw [c5.sh.t3.k0]
      simp (disch := omega) only [q_aload0, q_aload0N, q_get_r, pTag_1, pRf_s, q_invv0, inv_1, q_invv1, q_istore1, q_get_i, q_put_i, q_iload1, q_if_ne, q_thr, q_bipush, q_ic_lt, q_iret, e_4_0, e_4_2, L_6, k_some, k_none, pRm_i, pRm_r, pRm_0, pF_1, pF_2, inv_s, k3, w_addTemper c5.rep hw.1 g6 (q := gN M) (by rw [m1]), nN_le, nN_lt, nN_eq, nN_add, nN_mul, nN_lt0, nN_ge0, nN_gt0, nN_le0, nN_eq0, nN_eq1, nN_neN, pIn_n, pIx_n, eq_self, Nat.reduceLT, Bool.false_eq_true, Nat.add_zero, Nat.zero_add, Nat.reduceAdd, Nat.reduceMul, Nat.reduceSub, Nat.zero_le, Nat.reduceLeDiff, Nat.reduceEqDiff, Nat.le_refl, not_false_eq_true, not_true_eq_false, false_implies, true_implies, forall_const, true_and, and_true, if_true, if_false, implies_true, and_self, ne_eq, false_and, and_false, or_false, false_or, true_or, or_true]
      have r6 := sTemper_rep (n := n) (b := b) (k := nT a) (o := some (gN M)) c5.rep hw.1 g6
      have t6 := sTemper_tm (u := 86) hw.1 c5.tm hw.2.2.2 g6 hn hb hp s5 tm5 (by omega)
      have gg : ∀ i j, ¬ (i = 3 ∧ j = 9) → gI (sI (sP M5 (3 + 15) (nT a) (some (gN M))) 3 9 (nN (nT a + 1))) i j = gI M5 i j := fun i j hn => by rw [gI_sI, if_neg hn]; rfl
      have pp : ∀ i j, i ≠ 18 → gP (sI (sP M5 (3 + 15) (nT a) (some (gN M))) 3 9 (nN (nT a + 1))) i j = gP M5 i j := fun i j hn => by rw [gP_sI, gP_sP, if_neg (by omega)]
      have sk : gS (sI (sP M5 (3 + 15) (nT a) (some (gN M))) 3 9 (nN (nT a + 1))) = gS M5 := rfl
      have tmk : ∀ q cs, TmO M5 q cs → TmO (sI (sP M5 (3 + 15) (nT a) (some (gN M))) 3 9 (nN (nT a + 1))) q cs := by
        intro q cs ⟨⟨i1, i2, i3, i4, i5, i6⟩, j2, j3, j4, j5⟩
        exact ⟨⟨i1, i2, i3, i4, by rw [pp _ _ (by omega)]; exact i5, by rw [pp _ _ (by omega)]; exact i6⟩, j2, fun i hi => by rw [gg _ _ (by omega)]; exact j3 i hi, j4, j5⟩
      have pk : ∀ k, k ≠ nT a → gP (sI (sP M5 (3 + 15) (nT a) (some (gN M))) 3 9 (nN (nT a + 1))) (3 + 15) k = gP M5 (3 + 15) k := fun k hk => by rw [gP_sI, gP_sP, if_neg (by omega)]
      have nn : gN (sI (sP M5 (3 + 15) (nT a) (some (gN M))) 3 9 (nN (nT a + 1))) = gN M5 := rfl
      have ll : gL (sI (sP M5 (3 + 15) (nT a) (some (gN M))) 3 9 (nN (nT a + 1))) = gL M5 := rfl
      generalize sI (sP M5 (3 + 15) (nT a) (some (gN M))) 3 9 (nN (nT a + 1)) = M6 at r6 t6 gg pp sk tmk pk nn ll ⊢
      have sh5 := c5.sh
      have sh6 : ShF (gS M6) (gP M6) := by
        have e0 : ∀ k, gP M6 0 k = gP M5 0 k := fun k => pp _ _ (by omega)
        have e1 : ∀ k, gP M6 1 k = gP M5 1 k := fun k => pp _ _ (by omega)
        have e69 : ∀ k, gP M6 69 k = gP M5 69 k := fun k => pp _ _ (by omega)
        have e72 : ∀ k, gP M6 72 k = gP M5 72 k := fun k => pp _ _ (by omega)
        have e76 : ∀ k, gP M6 76 k = gP M5 76 k := fun k => pp _ _ (by omega)
        have e81 : ∀ k, gP M6 81 k = gP M5 81 k := fun k => pp _ _ (by omega)
        have tt : ∀ t, t = 3 ∨ t = 25 ∨ t = 47 → ShT (gS M5) (gP M5) t → ShT (gS M5) (gP M6) t := by
          intro t ht h
          have p0 : ∀ k, gP M6 t k = gP M5 t k := fun k => pp _ _ (by omega)
          have p1 : ∀ k, gP M6 (t + 1) k = gP M5 (t + 1) k := fun k => pp _ _ (by omega)
          have p7 : ∀ k, gP M6 (t + 7) k = gP M5 (t + 7) k := fun k => pp _ _ (by omega)
          unfold ShT at h ⊢
          simp only [p0, p1, p7]
          exact h
        have a3 := tt 3 (by simp) sh5.t3
        have a25 := tt 25 (by simp) sh5.t25
        have a47 := tt 47 (by simp) sh5.t47
        have h := sh5
        rw [sk]
        unfold ShF at h ⊢
        simp only [e0, e1, e69, e72, e76, e81]
        exact ⟨h.1, h.2.1, h.2.2.1, h.2.2.2.1, h.2.2.2.2.1, h.2.2.2.2.2.1, h.2.2.2.2.2.2.1, h.2.2.2.2.2.2.2.1, h.2.2.2.2.2.2.2.2.1, h.2.2.2.2.2.2.2.2.2.1, h.2.2.2.2.2.2.2.2.2.2.1, h.2.2.2.2.2.2.2.2.2.2.2.1, h.2.2.2.2.2.2.2.2.2.2.2.2.1, a3, a25, a47, h.2.2.2.2.2.2.2.2.2.2.2.2.2.2.2.2⟩
      refine ⟨CI.mk sh6 r6 t6 (fun z => rep_ext (c5.kr z) sh6.t25 (fun i k hi => gg _ _ (by omega))) (fun z k hk => ?_) (fun k hk q hq => ?_) (fun k hk q hq => ?_) ?_ ?_ ?_ ?_ ?_ ?_, ?_⟩
      · obtain ⟨q, cs, h1, h2, h3⟩ := c5.kt z k hk
        exact ⟨q, cs, by rw [pp _ _ (by omega)]; exact h1, tmk q cs h2, h3⟩
      · rw [sk]
        by_cases c9 : k = nT a
        · obtain ⟨q8, cs8, i1, i2, -⟩ := t6 k (by rw [nT_s (by omega)]; omega)
          have : q8 = q := Option.some.inj (i1.symm.trans hq)
          rw [← this, ← sk]
          exact i2.1.2.1
        · rw [pk k c9] at hq
          exact c5.qo k hk q hq
      · rw [pp _ _ (by omega)] at hq
        rw [sk]
        exact c5.qk k hk q hq
      · rw [gg _ _ (by omega)]; exact c5.l69
      · rw [gg _ _ (by omega)]; exact c5.l72
      · rw [gg _ _ (by omega)]; exact c5.tn
      · intro k hk; omega
      · rw [gg _ _ (by omega)]; exact c5.im
      · rw [gg _ _ (by omega)]; exact c5.fo
      · refine ⟨(q4.1.trans mf5).trans ⟨fun h k z => gg _ _ (by omega), fun h k z => pp _ _ (by omega), fun h _ => by rw [sk]⟩, ?_, ?_, ?_⟩
        · unfold Fr; rw [nn, sk]; exact F5
        · rw [nn, G5.1.1, hN4]; omega
        · rw [ll, G5.1.2]; have := q4.2.2.2; omega
end TC8
