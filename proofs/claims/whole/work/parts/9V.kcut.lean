/-! cut: the model; wrong people -/
section KCU
variable {d t u n p q f g e K k dd i j x y : Nat} {b : Nat → Nat} {a c ak cp : Nat → Int32} {img : Bool} {fl m : Int32} {M M0 M1 M' : pMem} {Q : pOut → pMem → Prop}
theorem fl_step2 (hI : CpI c n) (hn : n ≤ 12) (hx : x < n) (hyx : y ≠ x) (hy : (bfs c n x).1.testBit y = true) : rowS (flC c n x y) x n = rowS c x n - (flM c n x y).toInt ∧ 0 < (flM c n x y).toInt := by
  have w := bfs_w (cp := c) hx hn
  obtain ⟨k, h1, h2, -⟩ := w.ps y hy
  have hc := bfw_cnt w hn
  have mp : 0 < (flM c n x y).toInt := by
    unfold flM
    rw [← h2]
    exact mnW_pos w hI n k (nN 1000000) h1 (by rw [e10_6]; omega)
  have mo := (mnW_ok (cp := c) (par := (bfs c n x).2.1) (x := x) n y (nN 1000000)).2
  have up := upW_ok (m := flM c n x y) w hn hx (by omega) n k c h1 (by omega) hI (fun _ _ _ => rfl) (by rw [h2]; exact mo)
  rw [h2, if_neg hyx] at up
  exact ⟨up.2, mp⟩
theorem fl_nn (hn : n ≤ 12) (hx : x < n) (hyx : y ≠ x) : ∀ f t c, CpI c n → 0 ≤ t.toInt → t.toInt + rowS c x n < 2147483648 → 0 ≤ (flJ n x y f t c).1.toInt := by
  intro f
  induction f with
  | zero => intro t c _ h _; exact h
  | succ f ih =>
    intro t c hI h0 hb
    unfold flJ
    split
    · rename_i hy
      obtain ⟨I3, -, -⟩ := fl_step hI hn hx hyx hy
      obtain ⟨r1, r2⟩ := fl_step2 hI hn hx hyx hy
      have r3 := rowS_nn I3 hx
      have e : (t + flM c n x y).toInt = t.toInt + (flM c n x y).toInt := tz_add (by omega) (by omega)
      exact ih _ _ I3 (by omega) (by omega)
    · exact h0
theorem k_cut (m : MI M u a ak img n b fl) (hw : Wg a) (hp : p < nP a) (hq : q < nP a) (hne : p ≠ q) : mw (d + 75) 125 [.ref u, .int (nN p), .int (nN q)] M (fun o M' => KO M' u 0 (sCut a p q) o ∧ MI M' u a ak img n b fl ∧ Ag (XU u) M M') := by
  have s := m.mr.1
  have hm := m.mr
  have hrow := cT_row hw.1 hp
  have nn : 0 ≤ (sMost a p q).1 := by
    rw [Int32.le_iff_toInt_le]
    exact fl_nn hw.1.p' hp (fun z => hne z.symm) _ _ _ (cT_I hw.1) (by rw [nN_toInt (by omega)]; omega) (by rw [nN_toInt (by omega)]; omega)
  have nn2 : ¬ (sMost a p q).1 < 0 := Int32.not_lt.mpr nn
  simp (disch := omega) only [m_125, q_aload0, q_aload0N, q_iload1, q_iload2, q_invv2, inv_1, q_put_i, pTag_1, q_get_i, pRf_s, q_if_le, q_iconst, q_iret, q_if_ge, q_goto, q_invv1, q_nop, e_125_0, e_125_1, e_125_2, e_125_3, L_0, k_some, k_none, pRm_i, pRm_r, pRm_0, pF_1, pF_2, inv_s, s.k0, gS_sI, two_0 hm hw.1 hp hq hne, gS_sI, gP_sI, gI_sI, Nat.add_left_cancel_iff, Nat.add_eq_left, Nat.left_eq_add, nN_le, nN_lt, nN_eq, nN_add, nN_mul, nN_lt0, nN_ge0, nN_gt0, nN_le0, nN_eq0, nN_eq1, nN_neN, pIn_n, pIx_n, eq_self, Nat.reduceLT, Bool.false_eq_true, Nat.add_zero, Nat.zero_add, Nat.reduceAdd, Nat.reduceMul, Nat.reduceSub, Nat.zero_le, Nat.reduceLeDiff, Nat.reduceEqDiff, Nat.le_refl, not_false_eq_true, not_true_eq_false, false_implies, true_implies, forall_const, true_and, and_true, if_true, if_false, implies_true, and_self, ne_eq, false_and, and_false, or_false, false_or, true_or, or_true]
  refine mw_mono (w_flowsM (d := d + 4) (f := 100000) (m.th (v := nN 0)).mr hw (cT_I hw.1) (fun i j hi hj => cT_at hw.1.p' hi hj) hp hq (fun z => hne z.symm) hrow) ?_
  rintro _ M1 ⟨rfl, c1, I1, A1⟩
  have m1 := m.th.go A1 XMf_go
  have e1 : (flJ (nP a) p q 100000 (nN 0) (cT a)) = sMost a p q := rfl
  rw [e1] at c1 I1 ⊢
  simp (disch := omega) only [q_aload0, q_aload0N, q_iload1, q_iload2, q_invv2, inv_1, q_put_i, pTag_1, q_get_i, pRf_s, q_if_le, q_iconst, q_iret, q_if_ge, q_goto, q_invv1, q_nop, e_125_0, e_125_1, e_125_2, e_125_3, L_0, k_some, k_none, pRm_i, pRm_r, pRm_0, pF_1, pF_2, inv_s, nn, nn2, m1.mr.1.k0, nN_le, nN_lt, nN_eq, nN_add, nN_mul, nN_lt0, nN_ge0, nN_gt0, nN_le0, nN_eq0, nN_eq1, nN_neN, pIn_n, pIx_n, eq_self, Nat.reduceLT, Bool.false_eq_true, Nat.add_zero, Nat.zero_add, Nat.reduceAdd, Nat.reduceMul, Nat.reduceSub, Nat.zero_le, Nat.reduceLeDiff, Nat.reduceEqDiff, Nat.le_refl, not_false_eq_true, not_true_eq_false, false_implies, true_implies, forall_const, true_and, and_true, if_true, if_false, implies_true, and_self, ne_eq, false_and, and_false, or_false, false_or, true_or, or_true]
  refine mw_mono (w_reaches (d := d + 71) m1.mr hw.1 c1 hp) ?_
  rintro _ M2 ⟨rfl, b2, A2⟩
  simp (disch := omega) only [q_aload0, q_aload0N, q_iload1, q_iload2, q_invv2, inv_1, q_put_i, pTag_1, q_get_i, pRf_s, q_if_le, q_iconst, q_iret, q_if_ge, q_goto, q_invv1, q_nop, e_125_0, e_125_1, e_125_2, e_125_3, L_0, k_some, k_none, pRm_i, pRm_r, pRm_0, pF_1, pF_2, inv_s, eq_self, Nat.reduceLT, Bool.false_eq_true, Nat.add_zero, Nat.zero_add, Nat.reduceAdd, Nat.reduceMul, Nat.reduceSub, Nat.zero_le, Nat.reduceLeDiff, Nat.reduceEqDiff, Nat.le_refl, not_false_eq_true, not_true_eq_false, false_implies, true_implies, forall_const, true_and, and_true, if_true, if_false, implies_true, and_self, ne_eq, false_and, and_false, or_false, false_or, true_or, or_true]
  have A12 : Ag (XMf u) (sI M u 0 (nN 0)) M2 := A1.trans (A2.mono fun h k z => Or.inr (by unfold XBm at z; omega))
  refine ⟨KO.th ?_ (fun _ => rfl), m.th.go A12 XMf_go, XU_0.trans (A12.mono XMf_U)⟩
  rw [A12.I (by rintro ((z | ⟨-, z⟩) | z) <;> omega), gI_sI, if_pos ⟨rfl, rfl⟩]
end KCU
