/-! the greatest flow: the model -/
def XMf (u h k : Nat) : Prop := XMs u h k ∨ (u + 6 ≤ h ∧ h ≤ u + 8)
section MFL
variable {d t u n q f g e K dd j bl x y i h p v k : Nat} {cp c c' a : Nat → Int32} {s : tB} {par : Nat → Nat} {m b : Int32} {M M1 M' : pMem} {Q : pOut → pMem → Prop}
theorem XMf_1 (k : Nat) : ¬ XMf u (u + 1) k := by rintro ((z | ⟨z, -⟩) | z) <;> omega
theorem mn_first (hne : y ≠ x) (h : c (12 * par y + y) < m) : mnW c par x (f + 1) y m = mnW c par x (f + 1) y (c (12 * par y + y)) := by
  unfold mnW
  rw [if_neg hne, if_neg hne, if_pos h, ite_self]
theorem walk_min (hr : MR M u a) (hw : Wf a) (hc : CpM M u (nP a) cp) (w : BfW cp (nP a) x s) (hb : BmM u x s M) {l2 l3 : Option Value} : ∀ (f k : Nat) (m : Int32), k < s.2.2.2 → k ≤ f → (∀ v', bw d 123 5 ([some (.ref u), some (.int (nN x)), l2, l3, some (.int (mnW cp s.2.1 x f (s.2.2.1 k) m)), v'], [], M) Q) → bw d 123 2 ([some (.ref u), some (.int (nN x)), l2, l3, some (.int m), some (.int (nN (s.2.2.1 k)))], [], M) Q := by
  have hn := hw.p'
  have s9 := hr.1
  have hx : x < nP a := by have := (w.qn 0 w.c1).1; rw [w.q0] at this; exact this
  intro f
  induction f with
  | zero =>
    intro k m hk hf go
    have : k = 0 := by omega
    subst this
    rw [e_123_2]
    simp (disch := omega) only [q_aload0, q_aload0N, q_invv0, inv_1, q_iconst, q_istore3, q_nop, q_iload1, q_invv1, q_iload2, q_ishr, q_iand, q_ic_ne, q_get_r, pTag_1, pRf_s, q_bipush, q_iald, q_imul, q_iadd, q_istore4, q_istore5, q_iload5, q_ic_eq, q_iload4, q_ic_ge, q_goto, q_dup2, q_isub, q_iast, q_iload3, q_iret, e_123_0, e_123_3, e_123_4, e_123_7, e_123_8, L_0, L_1, L_12, k_some, k_none, pRm_i, pRm_r, pRm_0, pF_1, pF_2, inv_s, w.q0, nN_le, nN_lt, nN_eq, nN_add, nN_mul, nN_lt0, nN_ge0, nN_gt0, nN_le0, nN_eq0, nN_eq1, nN_neN, pIn_n, pIx_n, eq_self, Nat.reduceLT, Bool.false_eq_true, Nat.add_zero, Nat.zero_add, Nat.reduceAdd, Nat.reduceMul, Nat.reduceSub, Nat.zero_le, Nat.reduceLeDiff, Nat.reduceEqDiff, Nat.le_refl, not_false_eq_true, not_true_eq_false, false_implies, true_implies, forall_const, true_and, and_true, if_true, if_false, implies_true, and_self, ne_eq, false_and, and_false, or_false, false_or, true_or, or_true]
    have := go (some (.int (nN (s.2.2.1 0))))
    rw [w.q0] at this
    exact this
  | succ f ih =>
    intro k m hk hf go
    have hv := (w.qn k hk).1
    unfold mnW at go
    rw [e_123_2]
    by_cases e : s.2.2.1 k = x
    · rw [if_pos e] at go
      simp (disch := omega) only [q_aload0, q_aload0N, q_invv0, inv_1, q_iconst, q_istore3, q_nop, q_iload1, q_invv1, q_iload2, q_ishr, q_iand, q_ic_ne, q_get_r, pTag_1, pRf_s, q_bipush, q_iald, q_imul, q_iadd, q_istore4, q_istore5, q_iload5, q_ic_eq, q_iload4, q_ic_ge, q_goto, q_dup2, q_isub, q_iast, q_iload3, q_iret, e_123_0, e_123_3, e_123_4, e_123_7, e_123_8, L_0, L_1, L_12, k_some, k_none, pRm_i, pRm_r, pRm_0, pF_1, pF_2, inv_s, e, nN_le, nN_lt, nN_eq, nN_add, nN_mul, nN_lt0, nN_ge0, nN_gt0, nN_le0, nN_eq0, nN_eq1, nN_neN, pIn_n, pIx_n, eq_self, Nat.reduceLT, Bool.false_eq_true, Nat.add_zero, Nat.zero_add, Nat.reduceAdd, Nat.reduceMul, Nat.reduceSub, Nat.zero_le, Nat.reduceLeDiff, Nat.reduceEqDiff, Nat.le_refl, not_false_eq_true, not_true_eq_false, false_implies, true_implies, forall_const, true_and, and_true, if_true, if_false, implies_true, and_self, ne_eq, false_and, and_false, or_false, false_or, true_or, or_true]
      exact go _
    · rw [if_neg e] at go
      obtain ⟨k', h1, h2, h4, h5⟩ := bf_par w hk e
      have g1 := hb.2 _ (w.qn k hk).2 e
      rw [h2] at g1 go
      have g2 := hc _ _ h4 hv
      have i9 : 12 * s.2.2.1 k' + s.2.2.1 k < 144 := by omega
      have i8 : s.2.2.1 k < 12 := by omega
      by_cases l : cp (12 * s.2.2.1 k' + s.2.2.1 k) < m
      · have l2 : ¬ m ≤ cp (12 * s.2.2.1 k' + s.2.2.1 k) := Int32.not_le.mpr l
        rw [if_pos l] at go
        simp (disch := omega) only [q_aload0, q_aload0N, q_invv0, inv_1, q_iconst, q_istore3, q_nop, q_iload1, q_invv1, q_iload2, q_ishr, q_iand, q_ic_ne, q_get_r, pTag_1, pRf_s, q_bipush, q_iald, q_imul, q_iadd, q_istore4, q_istore5, q_iload5, q_ic_eq, q_iload4, q_ic_ge, q_goto, q_dup2, q_isub, q_iast, q_iload3, q_iret, e_123_0, e_123_3, e_123_4, e_123_7, e_123_8, L_0, L_1, L_12, k_some, k_none, pRm_i, pRm_r, pRm_0, pF_1, pF_2, inv_s, e, s9.k0, s9.k6, s9.k7, s9.p18, s9.p19, pIn_n, pIx_n, g1, g2, i9, i8, l2, nN_le, nN_lt, nN_eq, nN_add, nN_mul, nN_lt0, nN_ge0, nN_gt0, nN_le0, nN_eq0, nN_eq1, nN_neN, pIn_n, pIx_n, eq_self, Nat.reduceLT, Bool.false_eq_true, Nat.add_zero, Nat.zero_add, Nat.reduceAdd, Nat.reduceMul, Nat.reduceSub, Nat.zero_le, Nat.reduceLeDiff, Nat.reduceEqDiff, Nat.le_refl, not_false_eq_true, not_true_eq_false, false_implies, true_implies, forall_const, true_and, and_true, if_true, if_false, implies_true, and_self, ne_eq, false_and, and_false, or_false, false_or, true_or, or_true]
        exact ih k' _ (by omega) (by omega) go
      · have l2 : m ≤ cp (12 * s.2.2.1 k' + s.2.2.1 k) := Int32.not_lt.mp l
        rw [if_neg l] at go
        simp (disch := omega) only [q_aload0, q_aload0N, q_invv0, inv_1, q_iconst, q_istore3, q_nop, q_iload1, q_invv1, q_iload2, q_ishr, q_iand, q_ic_ne, q_get_r, pTag_1, pRf_s, q_bipush, q_iald, q_imul, q_iadd, q_istore4, q_istore5, q_iload5, q_ic_eq, q_iload4, q_ic_ge, q_goto, q_dup2, q_isub, q_iast, q_iload3, q_iret, e_123_0, e_123_3, e_123_4, e_123_7, e_123_8, L_0, L_1, L_12, k_some, k_none, pRm_i, pRm_r, pRm_0, pF_1, pF_2, inv_s, e, s9.k0, s9.k6, s9.k7, s9.p18, s9.p19, pIn_n, pIx_n, g1, g2, i9, i8, l2, nN_le, nN_lt, nN_eq, nN_add, nN_mul, nN_lt0, nN_ge0, nN_gt0, nN_le0, nN_eq0, nN_eq1, nN_neN, pIn_n, pIx_n, eq_self, Nat.reduceLT, Bool.false_eq_true, Nat.add_zero, Nat.zero_add, Nat.reduceAdd, Nat.reduceMul, Nat.reduceSub, Nat.zero_le, Nat.reduceLeDiff, Nat.reduceEqDiff, Nat.le_refl, not_false_eq_true, not_true_eq_false, false_implies, true_implies, forall_const, true_and, and_true, if_true, if_false, implies_true, and_self, ne_eq, false_and, and_false, or_false, false_or, true_or, or_true]
        exact ih k' _ (by omega) (by omega) go
theorem walk_up (hr : MR M u a) (hw : Wf a) (w : BfW cp (nP a) x s) (hb : BmM u x s M) {l2 l3 : Option Value} : ∀ (f k : Nat) (c : Nat → Int32) (M1 : pMem), k < s.2.2.2 → k ≤ f → Ag (fun h _ => h = u + 6) M M1 → CpM M1 u (nP a) c → (∀ v' M', Ag (fun h _ => h = u + 6) M M' → CpM M' u (nP a) (upW s.2.1 x m f (s.2.2.1 k) c) → bw d 123 7 ([some (.ref u), some (.int (nN x)), l2, l3, some (.int m), v'], [], M') Q) → bw d 123 6 ([some (.ref u), some (.int (nN x)), l2, l3, some (.int m), some (.int (nN (s.2.2.1 k)))], [], M1) Q := by
  have hn := hw.p'
  intro f
  induction f with
  | zero =>
    intro k c M1 hk hf A c1 go
    have : k = 0 := by omega
    subst this
    have hx : x < nP a := by have := (w.qn 0 w.c1).1; rw [w.q0] at this; exact this
    rw [e_123_6]
    simp (disch := omega) only [q_aload0, q_aload0N, q_invv0, inv_1, q_iconst, q_istore3, q_nop, q_iload1, q_invv1, q_iload2, q_ishr, q_iand, q_ic_ne, q_get_r, pTag_1, pRf_s, q_bipush, q_iald, q_imul, q_iadd, q_istore4, q_istore5, q_iload5, q_ic_eq, q_iload4, q_ic_ge, q_goto, q_dup2, q_isub, q_iast, q_iload3, q_iret, e_123_0, e_123_3, e_123_4, e_123_8, L_0, L_1, L_12, k_some, k_none, pRm_i, pRm_r, pRm_0, pF_1, pF_2, inv_s, w.q0, nN_le, nN_lt, nN_eq, nN_add, nN_mul, nN_lt0, nN_ge0, nN_gt0, nN_le0, nN_eq0, nN_eq1, nN_neN, pIn_n, pIx_n, eq_self, Nat.reduceLT, Bool.false_eq_true, Nat.add_zero, Nat.zero_add, Nat.reduceAdd, Nat.reduceMul, Nat.reduceSub, Nat.zero_le, Nat.reduceLeDiff, Nat.reduceEqDiff, Nat.le_refl, not_false_eq_true, not_true_eq_false, false_implies, true_implies, forall_const, true_and, and_true, if_true, if_false, implies_true, and_self, ne_eq, false_and, and_false, or_false, false_or, true_or, or_true]
    have := go (some (.int (nN (s.2.2.1 0)))) M1 A c1
    rw [w.q0] at this
    exact this
  | succ f ih =>
    intro k c M1 hk hf A c1 go
    have hv := (w.qn k hk).1
    have s9 : ShM (gS M1) (gP M1) u := by rw [A.S, A.P]; exact hr.1
    have hx : x < nP a := by have := (w.qn 0 w.c1).1; rw [w.q0] at this; exact this
    unfold upW at go
    rw [e_123_6]
    by_cases e : s.2.2.1 k = x
    · rw [if_pos e] at go
      simp (disch := omega) only [q_aload0, q_aload0N, q_invv0, inv_1, q_iconst, q_istore3, q_nop, q_iload1, q_invv1, q_iload2, q_ishr, q_iand, q_ic_ne, q_get_r, pTag_1, pRf_s, q_bipush, q_iald, q_imul, q_iadd, q_istore4, q_istore5, q_iload5, q_ic_eq, q_iload4, q_ic_ge, q_goto, q_dup2, q_isub, q_iast, q_iload3, q_iret, e_123_0, e_123_3, e_123_4, e_123_8, L_0, L_1, L_12, k_some, k_none, pRm_i, pRm_r, pRm_0, pF_1, pF_2, inv_s, e, nN_le, nN_lt, nN_eq, nN_add, nN_mul, nN_lt0, nN_ge0, nN_gt0, nN_le0, nN_eq0, nN_eq1, nN_neN, pIn_n, pIx_n, eq_self, Nat.reduceLT, Bool.false_eq_true, Nat.add_zero, Nat.zero_add, Nat.reduceAdd, Nat.reduceMul, Nat.reduceSub, Nat.zero_le, Nat.reduceLeDiff, Nat.reduceEqDiff, Nat.le_refl, not_false_eq_true, not_true_eq_false, false_implies, true_implies, forall_const, true_and, and_true, if_true, if_false, implies_true, and_self, ne_eq, false_and, and_false, or_false, false_or, true_or, or_true]
      exact go _ M1 A c1
    · rw [if_neg e] at go
      obtain ⟨k', h1, h2, h4, h5⟩ := bf_par w hk e
      have g1 : gI M1 (u + 7) (s.2.2.1 k) = nN (s.2.1 (s.2.2.1 k)) := by rw [A.I (by omega)]; exact hb.2 _ (w.qn k hk).2 e
      rw [h2] at g1 go
      have g2 := c1 _ _ h4 hv
      have g3 := c1 _ _ hv h4
      have i9 : 12 * s.2.2.1 k' + s.2.2.1 k < 144 := by omega
      have i7 : 12 * s.2.2.1 k + s.2.2.1 k' < 144 := by omega
      have i8 : s.2.2.1 k < 12 := by omega
      have u76 : ¬ (u + 7 = u + 6) := by omega
      have i6 : ¬ (12 * s.2.2.1 k + s.2.2.1 k' = 12 * s.2.2.1 k' + s.2.2.1 k) := by omega
      have fin : CpM (sI (sI M1 (u + 6) (12 * s.2.2.1 k' + s.2.2.1 k) (c (12 * s.2.2.1 k' + s.2.2.1 k) - m)) (u + 6) (12 * s.2.2.1 k + s.2.2.1 k') (c (12 * s.2.2.1 k + s.2.2.1 k') + m)) u (nP a) (up1 c (s.2.2.1 k') (s.2.2.1 k) m) := by
        intro i j hi hj
        have gij := c1 i j hi hj
        unfold up1
        rw [gI_sI, gI_sI]
        by_cases e1 : 12 * i + j = 12 * s.2.2.1 k + s.2.2.1 k'
        · rw [if_pos ⟨rfl, e1⟩, if_pos e1, if_neg (by omega), e1]
        · rw [if_neg (fun z => e1 z.2), if_neg e1]
          by_cases e2 : 12 * i + j = 12 * s.2.2.1 k' + s.2.2.1 k
          · rw [if_pos ⟨rfl, e2⟩, if_pos e2, e2]
          · rw [if_neg (fun z => e2 z.2), if_neg e2]; exact gij
      have nx9 := ih k' _ _ (by omega) (by omega) (Ag.put (Ag.put A rfl) rfl) fin go
      simp (disch := omega) only [q_aload0, q_aload0N, q_invv0, inv_1, q_iconst, q_istore3, q_nop, q_iload1, q_invv1, q_iload2, q_ishr, q_iand, q_ic_ne, q_get_r, pTag_1, pRf_s, q_bipush, q_iald, q_imul, q_iadd, q_istore4, q_istore5, q_iload5, q_ic_eq, q_iload4, q_ic_ge, q_goto, q_dup2, q_isub, q_iast, q_iload3, q_iret, e_123_0, e_123_3, e_123_4, e_123_8, L_0, L_1, L_12, k_some, k_none, pRm_i, pRm_r, pRm_0, pF_1, pF_2, inv_s, e, s9.k0, s9.k6, s9.k7, s9.p18, s9.p19, gS_sI, gP_sI, pIn_n, pIx_n, g1, g2, g3, i9, i7, i8, i6, u76, gS_sI, gP_sI, gI_sI, Nat.add_left_cancel_iff, Nat.add_eq_left, Nat.left_eq_add, nN_le, nN_lt, nN_eq, nN_add, nN_mul, nN_lt0, nN_ge0, nN_gt0, nN_le0, nN_eq0, nN_eq1, nN_neN, pIn_n, pIx_n, eq_self, Nat.reduceLT, Bool.false_eq_true, Nat.add_zero, Nat.zero_add, Nat.reduceAdd, Nat.reduceMul, Nat.reduceSub, Nat.zero_le, Nat.reduceLeDiff, Nat.reduceEqDiff, Nat.le_refl, not_false_eq_true, not_true_eq_false, false_implies, true_implies, forall_const, true_and, and_true, if_true, if_false, implies_true, and_self, ne_eq, false_and, and_false, or_false, false_or, true_or, or_true]
      exact nx9
theorem cap_lt (hI : CpI c n) (hn : n ≤ 12) (hi : i < n) (hj : j < n) : c (12 * i + j) < nN 1000000 := by
  have h1 := hI i j hi hj
  have h2 := hI j i hj hi
  rw [Int32.lt_iff_toInt_lt, e10_6]
  omega
theorem w_flowsM (hr : MR M u a) (hw : Wg a) (hI : CpI cp (nP a)) (hcp : ∀ i j, i < nP a → j < nP a → cp (12 * i + j) = cP a i j) (hx : x < nP a) (hy : y < nP a) (hyx : y ≠ x) (hs : rowS cp x (nP a) < f) : mw (d + 70) 123 [.ref u, .int (nN x), .int (nN y)] M (fun o M' => o = .inl (some (.int (flJ (nP a) x y f (nN 0) cp).1)) ∧ CpM M' u (nP a) (flJ (nP a) x y f (nN 0) cp).2 ∧ CpI (flJ (nP a) x y f (nN 0) cp).2 (nP a) ∧ Ag (XMf u) M M') := by
  have hn := hw.1.p'
  have key : ∀ (f : Nat) (t : Int32) (c : Nat → Int32) (z4 z5 : Option Value) (M1 : pMem), CpI c (nP a) → CpM M1 u (nP a) c → Ag (XMf u) M M1 → rowS c x (nP a) < f → bw (d + 69) 123 1 ([some (.ref u), some (.int (nN x)), some (.int (nN y)), some (.int t), z4, z5], [], M1) (fun o M' => o = .inl (some (.int (flJ (nP a) x y f t c).1)) ∧ CpM M' u (nP a) (flJ (nP a) x y f t c).2 ∧ CpI (flJ (nP a) x y f t c).2 (nP a) ∧ Ag (XMf u) M M') := by
    intro f
    induction f with
    | zero =>
      intro t c z4 z5 M1 I1 c1 A1 r1
      have := rowS_nn I1 hx
      omega
    | succ f ih =>
      intro t c z4 z5 M1 I1 c1 A1 r1
      have m1 := hr.ag A1 XMf_1
      rw [e_123_1]
      simp (disch := omega) only [q_aload0, q_aload0N, q_invv0, inv_1, q_iconst, q_istore3, q_nop, q_iload1, q_invv1, q_iload2, q_ishr, q_iand, q_ic_ne, q_get_r, pTag_1, pRf_s, q_bipush, q_iald, q_imul, q_iadd, q_istore4, q_istore5, q_iload5, q_ic_eq, q_iload4, q_ic_ge, q_goto, q_dup2, q_isub, q_iast, q_iload3, q_iret, e_123_0, e_123_3, e_123_4, L_0, L_1, L_12, k_some, k_none, pRm_i, pRm_r, pRm_0, pF_1, pF_2, inv_s, m1.1.k0, nN_le, nN_lt, nN_eq, nN_add, nN_mul, nN_lt0, nN_ge0, nN_gt0, nN_le0, nN_eq0, nN_eq1, nN_neN, pIn_n, pIx_n, eq_self, Nat.reduceLT, Bool.false_eq_true, Nat.add_zero, Nat.zero_add, Nat.reduceAdd, Nat.reduceMul, Nat.reduceSub, Nat.zero_le, Nat.reduceLeDiff, Nat.reduceEqDiff, Nat.le_refl, not_false_eq_true, not_true_eq_false, false_implies, true_implies, forall_const, true_and, and_true, if_true, if_false, implies_true, and_self, ne_eq, false_and, and_false, or_false, false_or, true_or, or_true]
      refine mw_mono (w_reaches (d := d + 66) m1 hw.1 c1 hx) ?_
      rintro _ M2 ⟨rfl, b2, A2⟩
      have A12 : Ag (XMf u) M M2 := A1.trans (A2.mono fun h k z => Or.inr (by unfold XBm at z; omega))
      have m2 := hr.ag A12 XMf_1
      have c2 := c1.ag A2 XBm_6
      have w := bfs_w (cp := c) hx hn
      have sn := w.sn
      have sn2 := pow12 hn
      have bt := bit_nN (s := (bfs c (nP a) x).1) (h := y) (by omega) (by omega)
      by_cases hb : (bfs c (nP a) x).1.testBit y = true
      · have e : flJ (nP a) x y (f + 1) t c = flJ (nP a) x y f (t + flM c (nP a) x y) (flC c (nP a) x y) := if_pos hb
        rw [e]
        have bt2 : ((nN (bfs c (nP a) x).1 >>> (nN y &&& 31)) &&& nN 1 = nN 1) = True := by rw [bt]; exact eq_true hb
        obtain ⟨I3, r3, k, hk, hq⟩ := fl_step I1 hn hx hyx hb
        have hcn := bfw_cnt w hn
        have hne : (bfs c (nP a) x).2.2.1 k ≠ x := by rw [hq]; exact hyx
        obtain ⟨k', h1, h2, h4, h5⟩ := bf_par w hk hne
        rw [hq] at h2
        have g1 := b2.2 y hb hyx
        rw [h2] at g1
        have g2 := c2 _ _ h4 hy
        have i9 : 12 * (bfs c (nP a) x).2.2.1 k' + y < 144 := by omega
        have i8 : y < 12 := by omega
        have s2 := m2.1
        simp (disch := omega) only [q_aload0, q_aload0N, q_invv0, inv_1, q_iconst, q_istore3, q_nop, q_iload1, q_invv1, q_iload2, q_ishr, q_iand, q_ic_ne, q_get_r, pTag_1, pRf_s, q_bipush, q_iald, q_imul, q_iadd, q_istore4, q_istore5, q_iload5, q_ic_eq, q_iload4, q_ic_ge, q_goto, q_dup2, q_isub, q_iast, q_iload3, q_iret, e_123_0, e_123_3, e_123_4, L_0, L_1, L_12, k_some, k_none, pRm_i, pRm_r, pRm_0, pF_1, pF_2, inv_s, bt2, s2.k0, s2.k6, s2.k7, s2.p18, s2.p19, pIn_n, pIx_n, g1, g2, i9, i8, nN_le, nN_lt, nN_eq, nN_add, nN_mul, nN_lt0, nN_ge0, nN_gt0, nN_le0, nN_eq0, nN_eq1, nN_neN, pIn_n, pIx_n, eq_self, Nat.reduceLT, Bool.false_eq_true, Nat.add_zero, Nat.zero_add, Nat.reduceAdd, Nat.reduceMul, Nat.reduceSub, Nat.zero_le, Nat.reduceLeDiff, Nat.reduceEqDiff, Nat.le_refl, not_false_eq_true, not_true_eq_false, false_implies, true_implies, forall_const, true_and, and_true, if_true, if_false, implies_true, and_self, ne_eq, false_and, and_false, or_false, false_or, true_or, or_true]
        have n1 : nP a = (nP a - 1) + 1 := by omega
        have em : mnW c (bfs c (nP a) x).2.1 x (nP a) ((bfs c (nP a) x).2.2.1 k) (c (12 * (bfs c (nP a) x).2.2.1 k' + y)) = flM c (nP a) x y := by
          have lt := cap_lt I1 hn h4 hy
          rw [← h2] at lt ⊢
          rw [hq]
          unfold flM
          have := mn_first (f := nP a - 1) (par := (bfs c (nP a) x).2.1) hyx lt
          rw [← n1] at this
          exact this.symm
        have W := walk_min (d := d + 69) (l2 := some (.int (nN y))) (l3 := some (.int t)) (Q := fun o M' => o = .inl (some (.int (flJ (nP a) x y f (t + flM c (nP a) x y) (flC c (nP a) x y)).1)) ∧ CpM M' u (nP a) (flJ (nP a) x y f (t + flM c (nP a) x y) (flC c (nP a) x y)).2 ∧ CpI (flJ (nP a) x y f (t + flM c (nP a) x y) (flC c (nP a) x y)).2 (nP a) ∧ Ag (XMf u) M M') m2 hw.1 c2 w b2 (nP a) k (c (12 * (bfs c (nP a) x).2.2.1 k' + y)) hk (by omega)
        rw [em, hq] at W
        refine W ?_
        intro v'
        rw [e_123_5]
        simp (disch := omega) only [q_aload0, q_aload0N, q_invv0, inv_1, q_iconst, q_istore3, q_nop, q_iload1, q_invv1, q_iload2, q_ishr, q_iand, q_ic_ne, q_get_r, pTag_1, pRf_s, q_bipush, q_iald, q_imul, q_iadd, q_istore4, q_istore5, q_iload5, q_ic_eq, q_iload4, q_ic_ge, q_goto, q_dup2, q_isub, q_iast, q_iload3, q_iret, e_123_0, e_123_3, e_123_4, L_0, L_1, L_12, k_some, k_none, pRm_i, pRm_r, pRm_0, pF_1, pF_2, inv_s, nN_le, nN_lt, nN_eq, nN_add, nN_mul, nN_lt0, nN_ge0, nN_gt0, nN_le0, nN_eq0, nN_eq1, nN_neN, pIn_n, pIx_n, eq_self, Nat.reduceLT, Bool.false_eq_true, Nat.add_zero, Nat.zero_add, Nat.reduceAdd, Nat.reduceMul, Nat.reduceSub, Nat.zero_le, Nat.reduceLeDiff, Nat.reduceEqDiff, Nat.le_refl, not_false_eq_true, not_true_eq_false, false_implies, true_implies, forall_const, true_and, and_true, if_true, if_false, implies_true, and_self, ne_eq, false_and, and_false, or_false, false_or, true_or, or_true]
        have U := walk_up (d := d + 69) (m := flM c (nP a) x y) (l2 := some (.int (nN y))) (l3 := some (.int t)) (Q := fun o M' => o = .inl (some (.int (flJ (nP a) x y f (t + flM c (nP a) x y) (flC c (nP a) x y)).1)) ∧ CpM M' u (nP a) (flJ (nP a) x y f (t + flM c (nP a) x y) (flC c (nP a) x y)).2 ∧ CpI (flJ (nP a) x y f (t + flM c (nP a) x y) (flC c (nP a) x y)).2 (nP a) ∧ Ag (XMf u) M M') m2 hw.1 w b2 (nP a) k c M2 hk (by omega) Ag.rfl c2
        rw [hq] at U
        refine U ?_
        intro v2 M3 A3 c3
        rw [e_123_7]
        simp (disch := omega) only [q_aload0, q_aload0N, q_invv0, inv_1, q_iconst, q_istore3, q_nop, q_iload1, q_invv1, q_iload2, q_ishr, q_iand, q_ic_ne, q_get_r, pTag_1, pRf_s, q_bipush, q_iald, q_imul, q_iadd, q_istore4, q_istore5, q_iload5, q_ic_eq, q_iload4, q_ic_ge, q_goto, q_dup2, q_isub, q_iast, q_iload3, q_iret, e_123_0, e_123_3, e_123_4, L_0, L_1, L_12, k_some, k_none, pRm_i, pRm_r, pRm_0, pF_1, pF_2, inv_s, nN_le, nN_lt, nN_eq, nN_add, nN_mul, nN_lt0, nN_ge0, nN_gt0, nN_le0, nN_eq0, nN_eq1, nN_neN, pIn_n, pIx_n, eq_self, Nat.reduceLT, Bool.false_eq_true, Nat.add_zero, Nat.zero_add, Nat.reduceAdd, Nat.reduceMul, Nat.reduceSub, Nat.zero_le, Nat.reduceLeDiff, Nat.reduceEqDiff, Nat.le_refl, not_false_eq_true, not_true_eq_false, false_implies, true_implies, forall_const, true_and, and_true, if_true, if_false, implies_true, and_self, ne_eq, false_and, and_false, or_false, false_or, true_or, or_true]
        exact ih _ _ _ _ M3 I3 c3 (A12.trans (A3.mono fun h k z => Or.inr (by omega))) (by omega)
      · have e : flJ (nP a) x y (f + 1) t c = (t, c) := if_neg hb
        rw [e]
        have bt2 : ((nN (bfs c (nP a) x).1 >>> (nN y &&& 31)) &&& nN 1 = nN 1) = False := by rw [bt]; exact eq_false hb
        simp (disch := omega) only [q_aload0, q_aload0N, q_invv0, inv_1, q_iconst, q_istore3, q_nop, q_iload1, q_invv1, q_iload2, q_ishr, q_iand, q_ic_ne, q_get_r, pTag_1, pRf_s, q_bipush, q_iald, q_imul, q_iadd, q_istore4, q_istore5, q_iload5, q_ic_eq, q_iload4, q_ic_ge, q_goto, q_dup2, q_isub, q_iast, q_iload3, q_iret, e_123_0, e_123_3, e_123_4, e_123_8, L_0, L_1, L_12, k_some, k_none, pRm_i, pRm_r, pRm_0, pF_1, pF_2, inv_s, bt2, nN_le, nN_lt, nN_eq, nN_add, nN_mul, nN_lt0, nN_ge0, nN_gt0, nN_le0, nN_eq0, nN_eq1, nN_neN, pIn_n, pIx_n, eq_self, Nat.reduceLT, Bool.false_eq_true, Nat.add_zero, Nat.zero_add, Nat.reduceAdd, Nat.reduceMul, Nat.reduceSub, Nat.zero_le, Nat.reduceLeDiff, Nat.reduceEqDiff, Nat.le_refl, not_false_eq_true, not_true_eq_false, false_implies, true_implies, forall_const, true_and, and_true, if_true, if_false, implies_true, and_self, ne_eq, false_and, and_false, or_false, false_or, true_or, or_true]
        exact ⟨c2, I1, A12⟩
  simp (disch := omega) only [m_123, q_aload0, q_aload0N, q_invv0, inv_1, q_iconst, q_istore3, q_nop, q_iload1, q_invv1, q_iload2, q_ishr, q_iand, q_ic_ne, q_get_r, pTag_1, pRf_s, q_bipush, q_iald, q_imul, q_iadd, q_istore4, q_istore5, q_iload5, q_ic_eq, q_iload4, q_ic_ge, q_goto, q_dup2, q_isub, q_iast, q_iload3, q_iret, e_123_0, e_123_3, e_123_4, e_123_8, L_0, L_1, L_12, k_some, k_none, pRm_i, pRm_r, pRm_0, pF_1, pF_2, inv_s, hr.1.k0, nN_le, nN_lt, nN_eq, nN_add, nN_mul, nN_lt0, nN_ge0, nN_gt0, nN_le0, nN_eq0, nN_eq1, nN_neN, pIn_n, pIx_n, eq_self, Nat.reduceLT, Bool.false_eq_true, Nat.add_zero, Nat.zero_add, Nat.reduceAdd, Nat.reduceMul, Nat.reduceSub, Nat.zero_le, Nat.reduceLeDiff, Nat.reduceEqDiff, Nat.le_refl, not_false_eq_true, not_true_eq_false, false_implies, true_implies, forall_const, true_and, and_true, if_true, if_false, implies_true, and_self, ne_eq, false_and, and_false, or_false, false_or, true_or, or_true]
  refine mw_mono (w_allPorts (d := d) hr hw) ?_
  rintro _ M1 ⟨rfl, p1, A1⟩
  simp (disch := omega) only [q_aload0, q_aload0N, q_invv0, inv_1, q_iconst, q_istore3, q_nop, q_iload1, q_invv1, q_iload2, q_ishr, q_iand, q_ic_ne, q_get_r, pTag_1, pRf_s, q_bipush, q_iald, q_imul, q_iadd, q_istore4, q_istore5, q_iload5, q_ic_eq, q_iload4, q_ic_ge, q_goto, q_dup2, q_isub, q_iast, q_iload3, q_iret, e_123_0, e_123_3, e_123_4, e_123_8, L_0, L_1, L_12, k_some, k_none, pRm_i, pRm_r, pRm_0, pF_1, pF_2, inv_s, nN_le, nN_lt, nN_eq, nN_add, nN_mul, nN_lt0, nN_ge0, nN_gt0, nN_le0, nN_eq0, nN_eq1, nN_neN, pIn_n, pIx_n, eq_self, Nat.reduceLT, Bool.false_eq_true, Nat.add_zero, Nat.zero_add, Nat.reduceAdd, Nat.reduceMul, Nat.reduceSub, Nat.zero_le, Nat.reduceLeDiff, Nat.reduceEqDiff, Nat.le_refl, not_false_eq_true, not_true_eq_false, false_implies, true_implies, forall_const, true_and, and_true, if_true, if_false, implies_true, and_self, ne_eq, false_and, and_false, or_false, false_or, true_or, or_true]
  exact key f (nN 0) cp none none M1 hI (fun i j hi hj => by rw [p1 i j hi hj, hcp i j hi hj]) (A1.mono fun h k z => by unfold XMo at z; rcases z with z | z; exact Or.inl z; exact Or.inr (by omega)) hs
end MFL
