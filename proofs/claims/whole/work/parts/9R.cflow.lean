/-! the greatest flow: pure, the class -/
def flM (c : Nat → Int32) (n x y : Nat) : Int32 := mnW c (bfs c n x).2.1 x n y (nN 1000000)
def flC (c : Nat → Int32) (n x y : Nat) : Nat → Int32 := upW (bfs c n x).2.1 x (flM c n x y) n y c
def flJ (n x y : Nat) : Nat → Int32 → (Nat → Int32) → Int32 × (Nat → Int32)
  | 0, t, c => (t, c)
  | f + 1, t, c => if (bfs c n x).1.testBit y = true then flJ n x y f (t + flM c n x y) (flC c n x y) else (t, c)
def XFl (h k : Nat) : Prop := XB h k ∨ h = 77
section FL
variable {d t u n q f g e K dd j bl x y i h p v k : Nat} {cp c c' : Nat → Int32} {s : tB} {par : Nat → Nat} {m a b : Int32} {M M1 M' : pMem} {Q : pOut → pMem → Prop}
theorem rowS_nn (hI : CpI c n) (hx : x < n) : 0 ≤ rowS c x n := by
  unfold rowS
  exact lp_inv (f := fun j (s : Int) => s + (c (12 * x + j)).toInt) (P := fun _ s => (0 : Int) ≤ s) n 0 0 (Int.le_refl _) (fun j s h1 h2 h3 => by
    have := (hI x j hx (by omega)).1
    show 0 ≤ s + _
    omega)
theorem e10_6 : (nN 1000000).toInt = 1000000 := nN_toInt (by omega)
theorem fl_step (hI : CpI c n) (hn : n ≤ 12) (hx : x < n) (hyx : y ≠ x) (hy : (bfs c n x).1.testBit y = true) : CpI (flC c n x y) n ∧ rowS (flC c n x y) x n + 1 ≤ rowS c x n ∧ ∃ k, k < (bfs c n x).2.2.2 ∧ (bfs c n x).2.2.1 k = y := by
  have w := bfs_w (cp := c) hx hn
  obtain ⟨k, h1, h2, -⟩ := w.ps y hy
  have hc := bfw_cnt w hn
  have mp : 0 < (flM c n x y).toInt := by
    unfold flM
    rw [← h2]
    exact mnW_pos w hI n k (nN 1000000) h1 (by rw [e10_6]; omega)
  have mo := (mnW_ok (cp := c) (par := (bfs c n x).2.1) (x := x) n y (nN 1000000)).2
  have up := upW_ok (m := flM c n x y) w hn hx (by omega) n k c h1 (by omega) hI (fun _ _ _ => rfl) (by rw [h2]; exact mo)
  rw [h2, if_neg hyx] at up
  exact ⟨up.1, by have := up.2; show rowS (upW _ _ _ _ _ _) _ _ + 1 ≤ _; omega, k, h1, h2⟩
theorem XFl_n (z : ¬ XFl h k) : ¬ XB h k ∧ h ≠ 77 := ⟨fun h => z (Or.inl h), fun h => z (Or.inr h)⟩
theorem cpi_nn (hI : CpI c n) : ∀ i j, i < n → j < n → 0 ≤ c (12 * i + j) := fun i j hi hj => by
  rw [Int32.le_iff_toInt_le]
  exact (hI i j hi hj).1
theorem w_flow (sh : ShP (gS M) (gP M)) (hc : CpO M n cp) (hn : n ≤ 12) (hI : CpI cp n) (hx : x < n) (hy : y < n) (hyx : y ≠ x) (hr : rowS cp x n < 100000) : mw (d + 4) 172 [.ref 76, .int (nN x), .int (nN y)] M (fun o M' => o = .inl (some (.int (flJ n x y 100000 (nN 0) cp).1)) ∧ CpO M' n (flJ n x y 100000 (nN 0) cp).2 ∧ CpI (flJ n x y 100000 (nN 0) cp).2 n ∧ BmC x (bfs (flJ n x y 100000 (nN 0) cp).2 n x) M' ∧ Ag XFl M M') := by
  have key : ∀ (f cc : Nat) (t : Int32) (c : Nat → Int32) (M1 : pMem), cc + f = 100000 → CpI c n → CpO M1 n c → Ag XFl M M1 → rowS c x n < f → bw (d + 3) 172 1 ([some (.ref 76), some (.int (nN x)), some (.int (nN y)), some (.int t), some (.int (nN cc))], [], M1) (fun o M' => o = .inl (some (.int (flJ n x y f t c).1)) ∧ CpO M' n (flJ n x y f t c).2 ∧ CpI (flJ n x y f t c).2 n ∧ BmC x (bfs (flJ n x y f t c).2 n x) M' ∧ Ag XFl M M') := by
    intro f
    induction f with
    | zero =>
      intro cc t c M1 hf I1 c1 A1 r1
      have := rowS_nn I1 hx
      omega
    | succ f ih =>
      intro cc t c M1 hf I1 c1 A1 r1
      have h3 : ¬ 100000 ≤ cc := by omega
      have sh1 : ShP (gS M1) (gP M1) := by rw [A1.S, A1.P]; exact sh
      have kk : (gS M1 76).1 = 4 := by rw [sh1.k76]
      rw [e_172_1]
      simp (disch := omega) only [q_iconst, q_istore3, q_istore4, q_nop, q_iload4, q_ldc_i, q_ic_ge, q_aload0, q_aload0N, q_iload1, q_iload2, q_invv2, inv_1, q_if_eq, q_iload3, q_iadd, q_iinc4, q_goto, q_iret, e_172_0, e_172_2, L_0, L_1, L_100000, k_some, k_none, pRm_i, pRm_r, pRm_0, pF_1, pF_2, inv_s, kk, h3, iN_s0, nN_le, nN_lt, nN_eq, nN_add, nN_mul, nN_lt0, nN_ge0, nN_gt0, nN_le0, nN_eq0, nN_eq1, nN_neN, pIn_n, pIx_n, eq_self, Nat.reduceLT, Bool.false_eq_true, Nat.add_zero, Nat.zero_add, Nat.reduceAdd, Nat.reduceMul, Nat.reduceSub, Nat.zero_le, Nat.reduceLeDiff, Nat.reduceEqDiff, Nat.le_refl, not_false_eq_true, not_true_eq_false, false_implies, true_implies, forall_const, true_and, and_true, if_true, if_false, implies_true, and_self, ne_eq, false_and, and_false, or_false, false_or, true_or, or_true]
      refine mw_mono (w_findWay (d := d) sh1 c1 hn (cpi_nn I1) hx hy) ?_
      rintro _ M2 ⟨rfl, b2, A2⟩
      have A12 : Ag XFl M M2 := A1.trans (A2.mono fun h k z => Or.inl z)
      have c2 := c1.ag A2 XB_cp
      have sh2 : ShP (gS M2) (gP M2) := by rw [A2.S, A2.P]; exact sh1
      have kk2 : (gS M2 76).1 = 4 := by rw [sh2.k76]
      by_cases hb : (bfs c n x).1.testBit y = true
      · have e : flJ n x y (f + 1) t c = flJ n x y f (t + flM c n x y) (flC c n x y) := if_pos hb
        rw [e, hb]
        have e0 : bI (true = true) = nN 1 := rfl
        obtain ⟨I3, r3, k, hk, hq⟩ := fl_step I1 hn hx hyx hb
        rw [e0]
        simp (disch := omega) only [q_iconst, q_istore3, q_istore4, q_nop, q_iload4, q_ldc_i, q_ic_ge, q_aload0, q_aload0N, q_iload1, q_iload2, q_invv2, inv_1, q_if_eq, q_iload3, q_iadd, q_iinc4, q_goto, q_iret, e_172_0, e_172_2, L_0, L_1, L_100000, k_some, k_none, pRm_i, pRm_r, pRm_0, pF_1, pF_2, inv_s, kk2, zb_1, nN_le, nN_lt, nN_eq, nN_add, nN_mul, nN_lt0, nN_ge0, nN_gt0, nN_le0, nN_eq0, nN_eq1, nN_neN, pIn_n, pIx_n, eq_self, Nat.reduceLT, Bool.false_eq_true, Nat.add_zero, Nat.zero_add, Nat.reduceAdd, Nat.reduceMul, Nat.reduceSub, Nat.zero_le, Nat.reduceLeDiff, Nat.reduceEqDiff, Nat.le_refl, not_false_eq_true, not_true_eq_false, false_implies, true_implies, forall_const, true_and, and_true, if_true, if_false, implies_true, and_self, ne_eq, false_and, and_false, or_false, false_or, true_or, or_true]
        refine mw_mono (w_carry (d := d + 1) sh2 c2 hn (bfs_w hx hn) b2 hx hk hq.symm) ?_
        rintro _ M3 ⟨rfl, c3, A3⟩
        simp (disch := omega) only [q_iconst, q_istore3, q_istore4, q_nop, q_iload4, q_ldc_i, q_ic_ge, q_aload0, q_aload0N, q_iload1, q_iload2, q_invv2, inv_1, q_if_eq, q_iload3, q_iadd, q_iinc4, q_goto, q_iret, e_172_0, e_172_2, L_0, L_1, L_100000, k_some, k_none, pRm_i, pRm_r, pRm_0, pF_1, pF_2, inv_s, nN_le, nN_lt, nN_eq, nN_add, nN_mul, nN_lt0, nN_ge0, nN_gt0, nN_le0, nN_eq0, nN_eq1, nN_neN, pIn_n, pIx_n, eq_self, Nat.reduceLT, Bool.false_eq_true, Nat.add_zero, Nat.zero_add, Nat.reduceAdd, Nat.reduceMul, Nat.reduceSub, Nat.zero_le, Nat.reduceLeDiff, Nat.reduceEqDiff, Nat.le_refl, not_false_eq_true, not_true_eq_false, false_implies, true_implies, forall_const, true_and, and_true, if_true, if_false, implies_true, and_self, ne_eq, false_and, and_false, or_false, false_or, true_or, or_true]
        exact ih (cc + 1) _ _ M3 (by omega) I3 c3 (A12.trans (A3.mono fun h k z => Or.inr z)) (by omega)
      · have e : flJ n x y (f + 1) t c = (t, c) := if_neg hb
        rw [e]
        have hb' : (bfs c n x).1.testBit y = false := by simpa using hb
        have e0 : bI ((bfs c n x).1.testBit y = true) = nN 0 := if_neg hb
        rw [e0]
        simp (disch := omega) only [q_iconst, q_istore3, q_istore4, q_nop, q_iload4, q_ldc_i, q_ic_ge, q_aload0, q_aload0N, q_iload1, q_iload2, q_invv2, inv_1, q_if_eq, q_iload3, q_iadd, q_iinc4, q_goto, q_iret, e_172_0, e_172_2, L_0, L_1, L_100000, k_some, k_none, pRm_i, pRm_r, pRm_0, pF_1, pF_2, inv_s, zb_0, nN_le, nN_lt, nN_eq, nN_add, nN_mul, nN_lt0, nN_ge0, nN_gt0, nN_le0, nN_eq0, nN_eq1, nN_neN, pIn_n, pIx_n, eq_self, Nat.reduceLT, Bool.false_eq_true, Nat.add_zero, Nat.zero_add, Nat.reduceAdd, Nat.reduceMul, Nat.reduceSub, Nat.zero_le, Nat.reduceLeDiff, Nat.reduceEqDiff, Nat.le_refl, not_false_eq_true, not_true_eq_false, false_implies, true_implies, forall_const, true_and, and_true, if_true, if_false, implies_true, and_self, ne_eq, false_and, and_false, or_false, false_or, true_or, or_true]
        exact ⟨c2, I1, b2, A12⟩
  simp (disch := omega) only [m_172, q_iconst, q_istore3, q_istore4, q_nop, q_iload4, q_ldc_i, q_ic_ge, q_aload0, q_aload0N, q_iload1, q_iload2, q_invv2, inv_1, q_if_eq, q_iload3, q_iadd, q_iinc4, q_goto, q_iret, e_172_0, e_172_2, L_0, L_1, L_100000, k_some, k_none, pRm_i, pRm_r, pRm_0, pF_1, pF_2, inv_s, nN_le, nN_lt, nN_eq, nN_add, nN_mul, nN_lt0, nN_ge0, nN_gt0, nN_le0, nN_eq0, nN_eq1, nN_neN, pIn_n, pIx_n, eq_self, Nat.reduceLT, Bool.false_eq_true, Nat.add_zero, Nat.zero_add, Nat.reduceAdd, Nat.reduceMul, Nat.reduceSub, Nat.zero_le, Nat.reduceLeDiff, Nat.reduceEqDiff, Nat.le_refl, not_false_eq_true, not_true_eq_false, false_implies, true_implies, forall_const, true_and, and_true, if_true, if_false, implies_true, and_self, ne_eq, false_and, and_false, or_false, false_or, true_or, or_true]
  exact key 100000 0 (nN 0) cp M (by omega) hI hc Ag.rfl (by omega)
end FL
