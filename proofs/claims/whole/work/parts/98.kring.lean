/-! ring: the model -/
def zJ (k : Nat) : Option Value := match k with | 0 => none | k + 1 => some (.int (nN k))
def neB (b : Nat → Nat) (k i : Nat) (s : Bool) : Bool := s && decide (b i ≠ b k)
section KR
variable {d t u n p q f g m c e K k dd : Nat} {n' : Nat} {b b' : Nat → Nat} {a a' ak : Nat → Int32} {img fc : Bool} {fl : Int32} {M M0 M1 M' : pMem} {Q : pOut → pMem → Prop} {x y z v w : Int32} {s : Bool}
theorem neB_lp : ∀ j i (s : Bool), (lp j i s (neB b k) = true) = (s = true ∧ ∀ l, i ≤ l → l < i + j → b l ≠ b k) := by
  intro j
  induction j with
  | zero => intro i s; exact propext ⟨fun h => ⟨h, fun l h1 h2 => by omega⟩, fun h => h.1⟩
  | succ j ih =>
    intro i s
    show (lp j (i + 1) (neB b k i s) (neB b k) = true) = _
    rw [ih]
    unfold neB
    rw [Bool.and_eq_true, decide_eq_true_iff]
    refine propext ⟨?_, ?_⟩
    · rintro ⟨⟨h1, h2⟩, h3⟩
      refine ⟨h1, fun l h4 h5 => ?_⟩
      by_cases e : l = i
      · rw [e]; exact h2
      · exact h3 l (by omega) (by omega)
    · rintro ⟨h1, h2⟩
      exact ⟨⟨h1, h2 i (by omega) (by omega)⟩, fun l h4 h5 => h2 l (by omega) (by omega)⟩
/-- one letter of the ring -/
theorem ring_in (hm : MR M u a) (hn : n ≤ 400) (hk : k < n) (tb : ∀ k, k < n → gI M (u + 4) k = nN (b k)) (hb : ∀ k, b k < 256) (hw : Wf a) {o1 : Option Value} : bw (d + 3) 127 1 ([some (.ref u), some (.int (nN n)), some (.int (nN 1)), some (.int (nN k)), o1], [], M) Q = bw (d + 3) 127 1 ([some (.ref u), some (.int (nN n)), some (.int (@bI (okR a b k) (Classical.propDecidable _))), some (.int (nN (k + 1))), some (.int (nN k))], [], M) Q := by
  have s := hm.1
  have h3 : ¬ n ≤ k := by omega
  have h4 : k < 400 := by omega
  have key : ∀ r : Bool, (r = true) = Ix (nP a) (nN (b k) - nN 97) → bw (d + 3) 127 2 ([some (.ref u), some (.int (nN n)), some (.int (bI (r = true))), some (.int (nN k)), some (.int (nN 0))], [], M) Q = bw (d + 3) 127 1 ([some (.ref u), some (.int (nN n)), some (.int (@bI (okR a b k) (Classical.propDecidable _))), some (.int (nN (k + 1))), some (.int (nN k))], [], M) Q := by
    intro r hr
    rw [lp_rule (n := k) (C := fun i s => ([some (.ref u), some (.int (nN n)), some (.int (bI (s = true))), some (.int (nN k)), some (.int (nN i))], [], M)) (f := neB b k) ?_ k 0 r (by omega)]
    · have e : bI (lp k 0 r (neB b k) = true) = @bI (okR a b k) (Classical.propDecidable _) := by
        have e1 := neB_lp (b := b) (k := k) k 0 r
        by_cases c : okR a b k
        · rw [bI_p (by rw [e1, hr]; exact ⟨c.1, fun l _ h => c.2 l (by omega)⟩)]
          exact (@if_pos _ (Classical.propDecidable _) c _ _ _).symm
        · rw [bI_n (fun z => by rw [e1, hr] at z; exact c ⟨z.1, fun l h => z.2 l (by omega) (by omega)⟩)]
          exact (@if_neg _ (Classical.propDecidable _) c _ _ _).symm
      rw [e, e_127_2]
      simp (disch := omega) only [q_aload0, q_aload0N, q_get_i, pTag_1, pRf_s, q_istore1, q_iconst, q_put_i, q_iload1, q_bipush, q_invs3_20, q_istore2, q_istore3, q_nop, q_iload2, q_if_eq, q_iload3, q_ic_ge, q_get_r, q_iald, q_isub, q_invv1, inv_1, q_istore4, q_iload4, q_ic_eq, q_goto, q_iinc4, q_iinc3, q_if_ne, q_ic_ne, q_if_le, q_iret, q_imul, q_iadd, q_iast, q_dup2, e_127_0, e_127_3, e_127_4, e_127_5, e_127_6, e_127_7, e_127_8, e_127_9, e_127_10, e_127_11, e_127_12, L_0, L_1, L_2, L_5, L_6, L_7, L_8, L_82, L_97, k_some, k_none, pRm_i, pRm_r, pRm_0, pF_1, pF_2, inv_s, nN_le, nN_lt, nN_eq, nN_add, nN_mul, nN_lt0, nN_ge0, nN_gt0, nN_le0, nN_eq0, nN_eq1, nN_neN, pIn_n, pIx_n, eq_self, Nat.reduceLT, Bool.false_eq_true, Nat.add_zero, Nat.zero_add, Nat.reduceAdd, Nat.reduceMul, Nat.reduceSub, Nat.zero_le, Nat.reduceLeDiff, Nat.reduceEqDiff, Nat.le_refl, not_false_eq_true, not_true_eq_false, false_implies, true_implies, forall_const, true_and, and_true, if_true, if_false, implies_true, and_self, ne_eq, false_and, and_false, or_false, false_or, true_or, or_true]
    · intro i s9 hi
      have i4 : i < 400 := by omega
      have i5 : ¬ k ≤ i := by omega
      have b1 := hb i
      have b2 := hb k
      rw [e_127_2]
      cases s9 with
      | false =>
        have e0 : bI (false = true) = nN 0 := rfl
        have e1 : neB b k i false = false := rfl
        simp (disch := omega) only [q_aload0, q_aload0N, q_get_i, pTag_1, pRf_s, q_istore1, q_iconst, q_put_i, q_iload1, q_bipush, q_invs3_20, q_istore2, q_istore3, q_nop, q_iload2, q_if_eq, q_iload3, q_ic_ge, q_get_r, q_iald, q_isub, q_invv1, inv_1, q_istore4, q_iload4, q_ic_eq, q_goto, q_iinc4, q_iinc3, q_if_ne, q_ic_ne, q_if_le, q_iret, q_imul, q_iadd, q_iast, q_dup2, e_127_0, e_127_3, e_127_4, e_127_5, e_127_6, e_127_7, e_127_8, e_127_9, e_127_10, e_127_11, e_127_12, L_0, L_1, L_2, L_5, L_6, L_7, L_8, L_82, L_97, k_some, k_none, pRm_i, pRm_r, pRm_0, pF_1, pF_2, inv_s, e1, e0, zb_0, i5, bI_T, bI_F, nN_le, nN_lt, nN_eq, nN_add, nN_mul, nN_lt0, nN_ge0, nN_gt0, nN_le0, nN_eq0, nN_eq1, nN_neN, pIn_n, pIx_n, eq_self, Nat.reduceLT, Bool.false_eq_true, Nat.add_zero, Nat.zero_add, Nat.reduceAdd, Nat.reduceMul, Nat.reduceSub, Nat.zero_le, Nat.reduceLeDiff, Nat.reduceEqDiff, Nat.le_refl, not_false_eq_true, not_true_eq_false, false_implies, true_implies, forall_const, true_and, and_true, if_true, if_false, implies_true, and_self, ne_eq, false_and, and_false, or_false, false_or, true_or, or_true]
      | true =>
        have e0 : bI (true = true) = nN 1 := rfl
        by_cases c : b i = b k
        · have e1 : neB b k i true = false := by simp [neB, c]
          have e2 : bI (false = true) = nN 0 := rfl
          simp (disch := omega) only [q_aload0, q_aload0N, q_get_i, pTag_1, pRf_s, q_istore1, q_iconst, q_put_i, q_iload1, q_bipush, q_invs3_20, q_istore2, q_istore3, q_nop, q_iload2, q_if_eq, q_iload3, q_ic_ge, q_get_r, q_iald, q_isub, q_invv1, inv_1, q_istore4, q_iload4, q_ic_eq, q_goto, q_iinc4, q_iinc3, q_if_ne, q_ic_ne, q_if_le, q_iret, q_imul, q_iadd, q_iast, q_dup2, e_127_0, e_127_3, e_127_4, e_127_5, e_127_6, e_127_7, e_127_8, e_127_9, e_127_10, e_127_11, e_127_12, L_0, L_1, L_2, L_5, L_6, L_7, L_8, L_82, L_97, k_some, k_none, pRm_i, pRm_r, pRm_0, pF_1, pF_2, inv_s, e1, e0, e2, zb_0, zb_1, bI_T, bI_F, i5, i4, h4, s.k0, s.k4, s.p5, pIn_n, pIx_n, tb, c, nN_le, nN_lt, nN_eq, nN_add, nN_mul, nN_lt0, nN_ge0, nN_gt0, nN_le0, nN_eq0, nN_eq1, nN_neN, pIn_n, pIx_n, eq_self, Nat.reduceLT, Bool.false_eq_true, Nat.add_zero, Nat.zero_add, Nat.reduceAdd, Nat.reduceMul, Nat.reduceSub, Nat.zero_le, Nat.reduceLeDiff, Nat.reduceEqDiff, Nat.le_refl, not_false_eq_true, not_true_eq_false, false_implies, true_implies, forall_const, true_and, and_true, if_true, if_false, implies_true, and_self, ne_eq, false_and, and_false, or_false, false_or, true_or, or_true]
        · have e1 : neB b k i true = true := by simp [neB, c]
          simp (disch := omega) only [q_aload0, q_aload0N, q_get_i, pTag_1, pRf_s, q_istore1, q_iconst, q_put_i, q_iload1, q_bipush, q_invs3_20, q_istore2, q_istore3, q_nop, q_iload2, q_if_eq, q_iload3, q_ic_ge, q_get_r, q_iald, q_isub, q_invv1, inv_1, q_istore4, q_iload4, q_ic_eq, q_goto, q_iinc4, q_iinc3, q_if_ne, q_ic_ne, q_if_le, q_iret, q_imul, q_iadd, q_iast, q_dup2, e_127_0, e_127_3, e_127_4, e_127_5, e_127_6, e_127_7, e_127_8, e_127_9, e_127_10, e_127_11, e_127_12, L_0, L_1, L_2, L_5, L_6, L_7, L_8, L_82, L_97, k_some, k_none, pRm_i, pRm_r, pRm_0, pF_1, pF_2, inv_s, e1, e0, zb_0, zb_1, bI_T, bI_F, i5, i4, h4, s.k0, s.k4, s.p5, pIn_n, pIx_n, tb, c, nN_le, nN_lt, nN_eq, nN_add, nN_mul, nN_lt0, nN_ge0, nN_gt0, nN_le0, nN_eq0, nN_eq1, nN_neN, pIn_n, pIx_n, eq_self, Nat.reduceLT, Bool.false_eq_true, Nat.add_zero, Nat.zero_add, Nat.reduceAdd, Nat.reduceMul, Nat.reduceSub, Nat.zero_le, Nat.reduceLeDiff, Nat.reduceEqDiff, Nat.le_refl, not_false_eq_true, not_true_eq_false, false_implies, true_implies, forall_const, true_and, and_true, if_true, if_false, implies_true, and_self, ne_eq, false_and, and_false, or_false, false_or, true_or, or_true]
  rw [e_127_1]
  by_cases c : Ix (nP a) (nN (b k) - nN 97)
  · have kk := key true (by simp [c])
    have e0 : bI (true = true) = nN 1 := rfl
    rw [e0] at kk
    rw [← kk]
    simp (disch := omega) only [q_aload0, q_aload0N, q_get_i, pTag_1, pRf_s, q_istore1, q_iconst, q_put_i, q_iload1, q_bipush, q_invs3_20, q_istore2, q_istore3, q_nop, q_iload2, q_if_eq, q_iload3, q_ic_ge, q_get_r, q_iald, q_isub, q_invv1, inv_1, q_istore4, q_iload4, q_ic_eq, q_goto, q_iinc4, q_iinc3, q_if_ne, q_ic_ne, q_if_le, q_iret, q_imul, q_iadd, q_iast, q_dup2, e_127_0, e_127_3, e_127_4, e_127_5, e_127_6, e_127_7, e_127_8, e_127_9, e_127_10, e_127_11, e_127_12, L_0, L_1, L_2, L_5, L_6, L_7, L_8, L_82, L_97, k_some, k_none, pRm_i, pRm_r, pRm_0, pF_1, pF_2, inv_s, zb_1, h3, h4, s.k0, s.k4, s.p5, pIn_n, pIx_n, tb, isP_t hm hw c, nN_le, nN_lt, nN_eq, nN_add, nN_mul, nN_lt0, nN_ge0, nN_gt0, nN_le0, nN_eq0, nN_eq1, nN_neN, pIn_n, pIx_n, eq_self, Nat.reduceLT, Bool.false_eq_true, Nat.add_zero, Nat.zero_add, Nat.reduceAdd, Nat.reduceMul, Nat.reduceSub, Nat.zero_le, Nat.reduceLeDiff, Nat.reduceEqDiff, Nat.le_refl, not_false_eq_true, not_true_eq_false, false_implies, true_implies, forall_const, true_and, and_true, if_true, if_false, implies_true, and_self, ne_eq, false_and, and_false, or_false, false_or, true_or, or_true]
  · have kk := key false (by simp [c])
    have e0 : bI (false = true) = nN 0 := rfl
    rw [e0] at kk
    rw [← kk]
    simp (disch := omega) only [q_aload0, q_aload0N, q_get_i, pTag_1, pRf_s, q_istore1, q_iconst, q_put_i, q_iload1, q_bipush, q_invs3_20, q_istore2, q_istore3, q_nop, q_iload2, q_if_eq, q_iload3, q_ic_ge, q_get_r, q_iald, q_isub, q_invv1, inv_1, q_istore4, q_iload4, q_ic_eq, q_goto, q_iinc4, q_iinc3, q_if_ne, q_ic_ne, q_if_le, q_iret, q_imul, q_iadd, q_iast, q_dup2, e_127_0, e_127_3, e_127_4, e_127_5, e_127_6, e_127_7, e_127_8, e_127_9, e_127_10, e_127_11, e_127_12, L_0, L_1, L_2, L_5, L_6, L_7, L_8, L_82, L_97, k_some, k_none, pRm_i, pRm_r, pRm_0, pF_1, pF_2, inv_s, zb_1, h3, h4, s.k0, s.k4, s.p5, pIn_n, pIx_n, tb, isP_f hm hw c, nN_le, nN_lt, nN_eq, nN_add, nN_mul, nN_lt0, nN_ge0, nN_gt0, nN_le0, nN_eq0, nN_eq1, nN_neN, pIn_n, pIx_n, eq_self, Nat.reduceLT, Bool.false_eq_true, Nat.add_zero, Nat.zero_add, Nat.reduceAdd, Nat.reduceMul, Nat.reduceSub, Nat.zero_le, Nat.reduceLeDiff, Nat.reduceEqDiff, Nat.le_refl, not_false_eq_true, not_true_eq_false, false_implies, true_implies, forall_const, true_and, and_true, if_true, if_false, implies_true, and_self, ne_eq, false_and, and_false, or_false, false_or, true_or, or_true]
/-- all letters: what the loop leaves -/
theorem ring_all (hm : MR M u a) (hn : n ≤ 400) (tb : ∀ k, k < n → gI M (u + 4) k = nN (b k)) (hb : ∀ k, b k < 256) (hw : Wf a) (hn2 : 2 ≤ n) (hn6 : n ≤ 6) (h : ∀ o k, bw (d + 3) 127 6 ([some (.ref u), some (.int (nN n)), some (.int (@bI (RgO a n b) (Classical.propDecidable _))), some (.int (nN k)), o], [], M) Q) : bw (d + 3) 127 1 ([some (.ref u), some (.int (nN n)), some (.int (nN 1)), some (.int (nN 0)), none], [], M) Q := by
  refine Eq.mpr (fst_rule2 (n := n) (P := okB a b) (C := fun k => ([some (.ref u), some (.int (nN n)), some (.int (nN 1)), some (.int (nN k)), zJ k], [], M)) ?_ n 0 (by omega) (fun i hi => absurd hi (by omega))) ?_
  · intro k hk hp hP
    rw [okB_iff] at hP
    rw [ring_in (d := d) hm hn hk tb hb hw]
    rw [show @bI (okR a b k) (Classical.propDecidable _) = nN 1 from @if_pos _ (Classical.propDecidable _) hP _ _ _]
    rfl
  · obtain ⟨z1, z2⟩ := fstN_le (P := okB a b) n 0
    have hpre := fstN_pre (P := okB a b) n 0
    have hat := fstN_at (P := okB a b) n 0
    simp only [okB_iff] at hpre hat
    generalize fstN (okB a b) n 0 = kk at *
    by_cases e : kk = n
    · subst e
      have hR : RgO a kk b := ⟨by omega, by omega, fun k hk => hpre k (by omega) hk⟩
      rw [show @bI (RgO a kk b) (Classical.propDecidable _) = nN 1 from @if_pos _ (Classical.propDecidable _) hR _ _ _] at h
      rw [e_127_1]
      simp (disch := omega) only [q_aload0, q_aload0N, q_get_i, pTag_1, pRf_s, q_istore1, q_iconst, q_put_i, q_iload1, q_bipush, q_invs3_20, q_istore2, q_istore3, q_nop, q_iload2, q_if_eq, q_iload3, q_ic_ge, q_get_r, q_iald, q_isub, q_invv1, inv_1, q_istore4, q_iload4, q_ic_eq, q_goto, q_iinc4, q_iinc3, q_if_ne, q_ic_ne, q_if_le, q_iret, q_imul, q_iadd, q_iast, q_dup2, e_127_0, e_127_3, e_127_4, e_127_5, e_127_7, e_127_8, e_127_9, e_127_10, e_127_11, e_127_12, L_0, L_1, L_2, L_5, L_6, L_7, L_8, L_82, L_97, k_some, k_none, pRm_i, pRm_r, pRm_0, pF_1, pF_2, inv_s, zb_1, nN_le, nN_lt, nN_eq, nN_add, nN_mul, nN_lt0, nN_ge0, nN_gt0, nN_le0, nN_eq0, nN_eq1, nN_neN, pIn_n, pIx_n, eq_self, Nat.reduceLT, Bool.false_eq_true, Nat.add_zero, Nat.zero_add, Nat.reduceAdd, Nat.reduceMul, Nat.reduceSub, Nat.zero_le, Nat.reduceLeDiff, Nat.reduceEqDiff, Nat.le_refl, not_false_eq_true, not_true_eq_false, false_implies, true_implies, forall_const, true_and, and_true, if_true, if_false, implies_true, and_self, ne_eq, false_and, and_false, or_false, false_or, true_or, or_true]
      exact h _ _
    · have hno := hat (by omega)
      have hR : ¬ RgO a n b := fun z => hno (z.2.2 kk (by omega))
      rw [show @bI (RgO a n b) (Classical.propDecidable _) = nN 0 from @if_neg _ (Classical.propDecidable _) hR _ _ _] at h
      rw [ring_in (d := d) hm hn (show kk < n by omega) tb hb hw]
      rw [show @bI (okR a b kk) (Classical.propDecidable _) = nN 0 from @if_neg _ (Classical.propDecidable _) hno _ _ _]
      rw [e_127_1]
      simp (disch := omega) only [q_aload0, q_aload0N, q_get_i, pTag_1, pRf_s, q_istore1, q_iconst, q_put_i, q_iload1, q_bipush, q_invs3_20, q_istore2, q_istore3, q_nop, q_iload2, q_if_eq, q_iload3, q_ic_ge, q_get_r, q_iald, q_isub, q_invv1, inv_1, q_istore4, q_iload4, q_ic_eq, q_goto, q_iinc4, q_iinc3, q_if_ne, q_ic_ne, q_if_le, q_iret, q_imul, q_iadd, q_iast, q_dup2, e_127_0, e_127_3, e_127_4, e_127_5, e_127_7, e_127_8, e_127_9, e_127_10, e_127_11, e_127_12, L_0, L_1, L_2, L_5, L_6, L_7, L_8, L_82, L_97, k_some, k_none, pRm_i, pRm_r, pRm_0, pF_1, pF_2, inv_s, zb_0, nN_le, nN_lt, nN_eq, nN_add, nN_mul, nN_lt0, nN_ge0, nN_gt0, nN_le0, nN_eq0, nN_eq1, nN_neN, pIn_n, pIx_n, eq_self, Nat.reduceLT, Bool.false_eq_true, Nat.add_zero, Nat.zero_add, Nat.reduceAdd, Nat.reduceMul, Nat.reduceSub, Nat.zero_le, Nat.reduceLeDiff, Nat.reduceEqDiff, Nat.le_refl, not_false_eq_true, not_true_eq_false, false_implies, true_implies, forall_const, true_and, and_true, if_true, if_false, implies_true, and_self, ne_eq, false_and, and_false, or_false, false_or, true_or, or_true]
      exact h _ _
theorem k_ring (m : MI M u a ak img n b fl) (hw : Wf a) (hn : n ≤ 400) (hb : ∀ k, b k < 256) : mw (d + 4) 127 [.ref u] M (fun o M' => ((RgO a n b ∧ nR a = 8 ∧ KO M' u 2 0 o ∧ MI M' u a ak img 0 b fl) ∨ (RgO a n b ∧ nR a < 8 ∧ KO M' u 0 (nN (nR a)) o ∧ MI M' u (sRing a n b) ak img 0 b fl) ∨ (¬ RgO a n b ∧ KO M' u 1 0 o ∧ MI M' u a ak img 0 b fl)) ∧ Ag (XU u) M M') := by
  have s := m.mr.1
  have tn := m.tn
  have A : Ag (fun h k => h = u ∧ k = 6) M (sI M u 6 (nN 0)) := Ag.one ⟨rfl, rfl⟩
  have hm : MR (sI M u 6 (nN 0)) u a := m.mr.ag A (fun k z => by omega)
  have tb : ∀ k, k < n → gI (sI M u 6 (nN 0)) (u + 4) k = nN (b k) := fun k hk => by rw [A.I (by omega)]; exact m.tb k hk
  have fin0 : ∀ v, MI (sI (sI M u 6 (nN 0)) u 0 v) u a ak img 0 b fl := by
    intro v
    have A2 : Ag (fun h k => h = u ∧ (k = 0 ∨ k = 6)) M (sI (sI M u 6 (nN 0)) u 0 v) := Ag.put (Ag.one ⟨rfl, Or.inr rfl⟩) ⟨rfl, Or.inl rfl⟩
    refine MI.mk (m.mr.ag A2 (fun k z => by omega)) ?_ ?_ ?_ ?_ ?_
    · intro h k hk; rw [A2.I (by omega)]; exact m.ik h k hk
    · rw [A2.I (by omega)]; exact m.hi
    · rw [gI_sI, if_neg (by omega), gI_sI, if_pos ⟨rfl, rfl⟩]
    · intro k hk; omega
    · rw [A2.I (by omega)]; exact m.fo
  have AU : ∀ v, Ag (XU u) M (sI (sI M u 6 (nN 0)) u 0 v) := fun v => Ag.put (A.mono fun h k z => ⟨by omega, by omega⟩) ⟨Nat.le_refl _, by omega⟩
  by_cases h26 : 2 ≤ n ∧ n ≤ 6
  · have i1 : nN 2 ≤ nN n ∧ nN n ≤ nN 6 := by rw [nN_le (by omega) (by omega), nN_le (by omega) (by omega)]; omega
    simp (disch := omega) only [m_127, q_aload0, q_aload0N, q_get_i, pTag_1, pRf_s, q_istore1, q_iconst, q_put_i, q_iload1, q_bipush, q_invs3_20, q_istore2, q_istore3, q_nop, q_iload2, q_if_eq, q_iload3, q_ic_ge, q_get_r, q_iald, q_isub, q_invv1, inv_1, q_istore4, q_iload4, q_ic_eq, q_goto, q_iinc4, q_iinc3, q_if_ne, q_ic_ne, q_if_le, q_iret, q_imul, q_iadd, q_iast, q_dup2, e_127_0, e_127_3, e_127_4, e_127_5, e_127_7, e_127_8, e_127_9, e_127_10, e_127_12, L_0, L_1, L_2, L_5, L_6, L_7, L_8, L_82, L_97, k_some, k_none, pRm_i, pRm_r, pRm_0, pF_1, pF_2, inv_s, s.k0, gS_sI, tn, isI_t i1, gS_sI, gP_sI, gI_sI, Nat.add_left_cancel_iff, Nat.add_eq_left, Nat.left_eq_add, nN_le, nN_lt, nN_eq, nN_add, nN_mul, nN_lt0, nN_ge0, nN_gt0, nN_le0, nN_eq0, nN_eq1, nN_neN, pIn_n, pIx_n, eq_self, Nat.reduceLT, Bool.false_eq_true, Nat.add_zero, Nat.zero_add, Nat.reduceAdd, Nat.reduceMul, Nat.reduceSub, Nat.zero_le, Nat.reduceLeDiff, Nat.reduceEqDiff, Nat.le_refl, not_false_eq_true, not_true_eq_false, false_implies, true_implies, forall_const, true_and, and_true, if_true, if_false, implies_true, and_self, ne_eq, false_and, and_false, or_false, false_or, true_or, or_true]
    refine ring_all (d := d) hm hn tb hb hw h26.1 h26.2 ?_
    intro o k
    have hR8 := hw.r'
    have k1' := s.k1
    by_cases hR : RgO a n b
    · rw [show @bI (RgO a n b) (Classical.propDecidable _) = nN 1 from @if_pos _ (Classical.propDecidable _) hR _ _ _, e_127_6]
      have a5 : gI M (u + 1) 5 = nN (nR a) := by rw [m.mr.2]; exact hw.r
      by_cases h8 : nR a = 8
      · have a5' : gI M (u + 1) 5 = nN 8 := by rw [a5, h8]
        simp (disch := first | omega | rfl | (repeat' (first | exact gS_sI | exact gP_sI | refine Eq.trans gS_sI ?_ | refine Eq.trans gP_sI ?_ | refine Eq.trans (gIr_sI (by omega)) ?_ | rfl))) only [q_aload0, q_aload0N, q_get_i, pTag_1, pRf_s, q_istore1, q_iconst, q_put_i, q_iload1, q_bipush, q_invs3_20, q_istore2, q_istore3, q_nop, q_iload2, q_if_eq, q_iload3, q_ic_ge, q_get_r, q_iald, q_isub, q_invv1, inv_1, q_istore4, q_iload4, q_ic_eq, q_goto, q_iinc4, q_iinc3, q_if_ne, q_ic_ne, q_if_le, q_iret, q_imul, q_iadd, q_iast, q_dup2, e_127_0, e_127_3, e_127_4, e_127_5, e_127_7, e_127_8, e_127_9, e_127_10, e_127_12, L_0, L_1, L_2, L_5, L_6, L_7, L_8, L_82, L_97, k_some, k_none, pRm_i, pRm_r, pRm_0, pF_1, pF_2, inv_s, hm.1.k0, hm.1.k1, hm.1.k2, hm.1.k3, hm.1.k4, hm.1.k5, hm.1.k6, hm.1.k7, hm.1.k8, hm.1.k9, hm.1.k10, hm.1.k11, hm.1.k12, hm.1.k13, hm.1.p1, hm.1.p2, hm.1.p4, hm.1.p5, hm.1.p13, hm.1.p18, hm.1.p19, hm.1.p20, hm.1.p21, hm.1.p22, hm.1.p23, hm.1.p24, hm.1.p27, hm.2, zb_1, a5', gS_sI, gP_sI, gI_sI, Nat.add_left_cancel_iff, Nat.add_eq_left, Nat.left_eq_add, nN_le, nN_lt, nN_eq, nN_add, nN_mul, nN_lt0, nN_ge0, nN_gt0, nN_le0, nN_eq0, nN_eq1, nN_neN, pIn_n, pIx_n, eq_self, Nat.reduceLT, Bool.false_eq_true, Nat.add_zero, Nat.zero_add, Nat.reduceAdd, Nat.reduceMul, Nat.reduceSub, Nat.zero_le, Nat.reduceLeDiff, Nat.reduceEqDiff, Nat.le_refl, not_false_eq_true, not_true_eq_false, false_implies, true_implies, forall_const, true_and, and_true, if_true, if_false, implies_true, and_self, ne_eq, false_and, and_false, or_false, false_or, true_or, or_true]
        exact ⟨Or.inl ⟨hR, h8, KO.one.mpr (fun h => absurd h (by omega)), fin0 _⟩, AU _⟩
      · have h8' : nR a < 8 := by omega
        simp (disch := first | omega | rfl | (repeat' (first | exact gS_sI | exact gP_sI | refine Eq.trans gS_sI ?_ | refine Eq.trans gP_sI ?_ | refine Eq.trans (gIr_sI (by omega)) ?_ | rfl))) only [q_aload0, q_aload0N, q_get_i, pTag_1, pRf_s, q_istore1, q_iconst, q_put_i, q_iload1, q_bipush, q_invs3_20, q_istore2, q_istore3, q_nop, q_iload2, q_if_eq, q_iload3, q_ic_ge, q_get_r, q_iald, q_isub, q_invv1, inv_1, q_istore4, q_iload4, q_ic_eq, q_goto, q_iinc4, q_iinc3, q_if_ne, q_ic_ne, q_if_le, q_iret, q_imul, q_iadd, q_iast, q_dup2, e_127_0, e_127_3, e_127_4, e_127_5, e_127_7, e_127_8, e_127_9, e_127_10, e_127_12, L_0, L_1, L_2, L_5, L_6, L_7, L_8, L_82, L_97, k_some, k_none, pRm_i, pRm_r, pRm_0, pF_1, pF_2, inv_s, hm.1.k0, hm.1.k1, hm.1.k2, hm.1.k3, hm.1.k4, hm.1.k5, hm.1.k6, hm.1.k7, hm.1.k8, hm.1.k9, hm.1.k10, hm.1.k11, hm.1.k12, hm.1.k13, hm.1.p1, hm.1.p2, hm.1.p4, hm.1.p5, hm.1.p13, hm.1.p18, hm.1.p19, hm.1.p20, hm.1.p21, hm.1.p22, hm.1.p23, hm.1.p24, hm.1.p27, hm.2, zb_1, a5, h8, gS_sI, gP_sI, gI_sI, Nat.add_left_cancel_iff, Nat.add_eq_left, Nat.left_eq_add, nN_le, nN_lt, nN_eq, nN_add, nN_mul, nN_lt0, nN_ge0, nN_gt0, nN_le0, nN_eq0, nN_eq1, nN_neN, pIn_n, pIx_n, eq_self, Nat.reduceLT, Bool.false_eq_true, Nat.add_zero, Nat.zero_add, Nat.reduceAdd, Nat.reduceMul, Nat.reduceSub, Nat.zero_le, Nat.reduceLeDiff, Nat.reduceEqDiff, Nat.le_refl, not_false_eq_true, not_true_eq_false, false_implies, true_implies, forall_const, true_and, and_true, if_true, if_false, implies_true, and_self, ne_eq, false_and, and_false, or_false, false_or, true_or, or_true]
        have m0 := fin0 (nN 0)
        have A0 := AU (nN 0)
        have g0 : gI (sI (sI M u 6 (nN 0)) u 0 (nN 0)) u 0 = nN 0 := by rw [gI_sI, if_pos ⟨rfl, rfl⟩]
        have tb0 : ∀ k, k < n → gI (sI (sI M u 6 (nN 0)) u 0 (nN 0)) (u + 4) k = nN (b k) := fun k hk => by rw [gI_sI, if_neg (by omega)]; exact tb k hk
        generalize sI (sI M u 6 (nN 0)) u 0 (nN 0) = M0 at *
        have s0 := m0.mr.1
        have i82 : 82 + 7 * nR a < 3346 := by omega
        refine ⟨i82, ?_⟩
        refine loopR (n := n) (J := Unit) (C := fun k _ _ M => ([some (.ref u), some (.int (nN n)), some (.int (nN 1)), some (.int (nN (82 + 7 * nR a))), some (.int (nN k))], [], M)) (f := fun _ (_ : Unit) => ()) (R := fun k _ M1 => Ag (fun h _ => h = u + 1) M0 M1 ∧ gI M1 (u + 1) = fun j => if j = 82 + 7 * nR a then nN n else if 83 + 7 * nR a ≤ j ∧ j < 83 + 7 * nR a + k then nN (qB b (j - (83 + 7 * nR a))) else a j) ?_ n 0 () () _ (by omega) ⟨Ag.one rfl, ?_⟩ ?_
        · rintro k _ _ M1 hk ⟨A1, e1⟩ go
          have s1 : ShM (gS M1) (gP M1) u := by rw [A1.S, A1.P]; exact s0
          have h3 : ¬ n ≤ k := by omega
          have tb1 : gI M1 (u + 4) k = nN (b k) := by rw [A1.I (by omega)]; exact tb0 k hk
          have g2 := (okR_q hw.p' (hR.2.2 k hk).1).2
          have i1 : 82 + 7 * nR a + 1 + k < 3346 := by omega
          have i2 : k < 400 := by omega
          rw [e_127_11]
          simp (disch := omega) only [q_aload0, q_aload0N, q_get_i, pTag_1, pRf_s, q_istore1, q_iconst, q_put_i, q_iload1, q_bipush, q_invs3_20, q_istore2, q_istore3, q_nop, q_iload2, q_if_eq, q_iload3, q_ic_ge, q_get_r, q_iald, q_isub, q_invv1, inv_1, q_istore4, q_iload4, q_ic_eq, q_goto, q_iinc4, q_iinc3, q_if_ne, q_ic_ne, q_if_le, q_iret, q_imul, q_iadd, q_iast, q_dup2, e_127_0, e_127_3, e_127_4, e_127_5, e_127_7, e_127_8, e_127_9, e_127_10, e_127_12, L_0, L_1, L_2, L_5, L_6, L_7, L_8, L_82, L_97, k_some, k_none, pRm_i, pRm_r, pRm_0, pF_1, pF_2, inv_s, s1.k0, s1.k1, s1.k4, s1.p1, s1.p5, h3, i1, i2, tb1, g2, pIn_n, pIx_n, nN_add, nN_le, nN_lt, nN_eq, nN_add, nN_mul, nN_lt0, nN_ge0, nN_gt0, nN_le0, nN_eq0, nN_eq1, nN_neN, pIn_n, pIx_n, eq_self, Nat.reduceLT, Bool.false_eq_true, Nat.add_zero, Nat.zero_add, Nat.reduceAdd, Nat.reduceMul, Nat.reduceSub, Nat.zero_le, Nat.reduceLeDiff, Nat.reduceEqDiff, Nat.le_refl, not_false_eq_true, not_true_eq_false, false_implies, true_implies, forall_const, true_and, and_true, if_true, if_false, implies_true, and_self, ne_eq, false_and, and_false, or_false, false_or, true_or, or_true]
          refine go _ () ⟨Ag.put A1 rfl, ?_⟩
          funext j
          rw [gI_sI, e1]
          dsimp only
          by_cases c : j = 82 + 7 * nR a + 1 + k
          · rw [if_pos ⟨rfl, c⟩, if_neg (by omega), if_pos (by omega), c, show 82 + 7 * nR a + 1 + k - (83 + 7 * nR a) = k from by omega]
          · rw [if_neg (fun z => c z.2)]
            by_cases c1 : j = 82 + 7 * nR a
            · rw [if_pos c1, if_pos c1]
            · rw [if_neg c1, if_neg c1]
              by_cases c2 : 83 + 7 * nR a ≤ j ∧ j < 83 + 7 * nR a + k
              · rw [if_pos c2, if_pos (by omega)]
              · rw [if_neg c2, if_neg (by omega)]
        · funext j
          rw [gI_sI, m0.mr.2]
          by_cases c1 : j = 82 + 7 * nR a
          · rw [if_pos ⟨rfl, c1⟩, if_pos c1]
          · rw [if_neg (fun z => c1 z.2), if_neg c1, if_neg (by omega)]
        · rintro M1 _ ⟨A1, e1⟩
          have s1 : ShM (gS M1) (gP M1) u := by rw [A1.S, A1.P]; exact s0
          have g5 : gI M1 (u + 1) 5 = nN (nR a) := by rw [e1]; dsimp only; rw [if_neg (by omega), if_neg (by omega)]; exact hw.r
          rw [e_127_11]
          simp (disch := omega) only [q_aload0, q_aload0N, q_get_i, pTag_1, pRf_s, q_istore1, q_iconst, q_put_i, q_iload1, q_bipush, q_invs3_20, q_istore2, q_istore3, q_nop, q_iload2, q_if_eq, q_iload3, q_ic_ge, q_get_r, q_iald, q_isub, q_invv1, inv_1, q_istore4, q_iload4, q_ic_eq, q_goto, q_iinc4, q_iinc3, q_if_ne, q_ic_ne, q_if_le, q_iret, q_imul, q_iadd, q_iast, q_dup2, e_127_0, e_127_3, e_127_4, e_127_5, e_127_7, e_127_8, e_127_9, e_127_10, e_127_12, L_0, L_1, L_2, L_5, L_6, L_7, L_8, L_82, L_97, k_some, k_none, pRm_i, pRm_r, pRm_0, pF_1, pF_2, inv_s, s1.k0, s1.k1, s1.p1, g5, pIn_n, pIx_n, gS_sI, gP_sI, nN_add, gS_sI, gP_sI, gI_sI, Nat.add_left_cancel_iff, Nat.add_eq_left, Nat.left_eq_add, nN_le, nN_lt, nN_eq, nN_add, nN_mul, nN_lt0, nN_ge0, nN_gt0, nN_le0, nN_eq0, nN_eq1, nN_neN, pIn_n, pIx_n, eq_self, Nat.reduceLT, Bool.false_eq_true, Nat.add_zero, Nat.zero_add, Nat.reduceAdd, Nat.reduceMul, Nat.reduceSub, Nat.zero_le, Nat.reduceLeDiff, Nat.reduceEqDiff, Nat.le_refl, not_false_eq_true, not_true_eq_false, false_implies, true_implies, forall_const, true_and, and_true, if_true, if_false, implies_true, and_self, ne_eq, false_and, and_false, or_false, false_or, true_or, or_true]
          have A2 : Ag (fun h _ => h = u + 1) M0 (sI M1 (u + 1) 5 (nN (nR a + 1))) := Ag.put A1 rfl
          refine ⟨Or.inl ⟨hR, h8', KO.th ?_ (fun _ => by rw [nN_subN (by omega)]; rfl), m0.tab A2 (fun h k z => by omega) ⟨by rw [A2.S, A2.P]; exact s0, ?_⟩⟩, A0.trans (A2.mono fun h k z => ⟨by omega, by omega⟩)⟩
          · rw [A2.I (by omega)]; exact g0
          · funext j
            rw [gI_sI, e1]
            dsimp only
            unfold sRing
            by_cases c : j = 5
            · rw [if_pos ⟨rfl, c⟩, if_pos c]
            · rw [if_neg (fun z => c z.2), if_neg c]
    · rw [show @bI (RgO a n b) (Classical.propDecidable _) = nN 0 from @if_neg _ (Classical.propDecidable _) hR _ _ _, e_127_6]
      simp (disch := first | omega | rfl | (repeat' (first | exact gS_sI | exact gP_sI | refine Eq.trans gS_sI ?_ | refine Eq.trans gP_sI ?_ | refine Eq.trans (gIr_sI (by omega)) ?_ | rfl))) only [q_aload0, q_aload0N, q_get_i, pTag_1, pRf_s, q_istore1, q_iconst, q_put_i, q_iload1, q_bipush, q_invs3_20, q_istore2, q_istore3, q_nop, q_iload2, q_if_eq, q_iload3, q_ic_ge, q_get_r, q_iald, q_isub, q_invv1, inv_1, q_istore4, q_iload4, q_ic_eq, q_goto, q_iinc4, q_iinc3, q_if_ne, q_ic_ne, q_if_le, q_iret, q_imul, q_iadd, q_iast, q_dup2, e_127_0, e_127_3, e_127_4, e_127_5, e_127_7, e_127_8, e_127_9, e_127_10, e_127_12, L_0, L_1, L_2, L_5, L_6, L_7, L_8, L_82, L_97, k_some, k_none, pRm_i, pRm_r, pRm_0, pF_1, pF_2, inv_s, hm.1.k0, hm.1.k1, hm.1.k2, hm.1.k3, hm.1.k4, hm.1.k5, hm.1.k6, hm.1.k7, hm.1.k8, hm.1.k9, hm.1.k10, hm.1.k11, hm.1.k12, hm.1.k13, hm.1.p1, hm.1.p2, hm.1.p4, hm.1.p5, hm.1.p13, hm.1.p18, hm.1.p19, hm.1.p20, hm.1.p21, hm.1.p22, hm.1.p23, hm.1.p24, hm.1.p27, hm.2, zb_0, gS_sI, gP_sI, gI_sI, Nat.add_left_cancel_iff, Nat.add_eq_left, Nat.left_eq_add, nN_le, nN_lt, nN_eq, nN_add, nN_mul, nN_lt0, nN_ge0, nN_gt0, nN_le0, nN_eq0, nN_eq1, nN_neN, pIn_n, pIx_n, eq_self, Nat.reduceLT, Bool.false_eq_true, Nat.add_zero, Nat.zero_add, Nat.reduceAdd, Nat.reduceMul, Nat.reduceSub, Nat.zero_le, Nat.reduceLeDiff, Nat.reduceEqDiff, Nat.le_refl, not_false_eq_true, not_true_eq_false, false_implies, true_implies, forall_const, true_and, and_true, if_true, if_false, implies_true, and_self, ne_eq, false_and, and_false, or_false, false_or, true_or, or_true]
      exact ⟨Or.inr (Or.inr ⟨hR, KO.one.mpr (fun h => absurd h (by omega)), fin0 _⟩), AU _⟩
  · have i1 : ¬ (nN 2 ≤ nN n ∧ nN n ≤ nN 6) := by rw [nN_le (by omega) (by omega), nN_le (by omega) (by omega)]; omega
    have hR : ¬ RgO a n b := fun z => h26 ⟨z.1, z.2.1⟩
    simp (disch := omega) only [m_127, q_aload0, q_aload0N, q_get_i, pTag_1, pRf_s, q_istore1, q_iconst, q_put_i, q_iload1, q_bipush, q_invs3_20, q_istore2, q_istore3, q_nop, q_iload2, q_if_eq, q_iload3, q_ic_ge, q_get_r, q_iald, q_isub, q_invv1, inv_1, q_istore4, q_iload4, q_ic_eq, q_goto, q_iinc4, q_iinc3, q_if_ne, q_ic_ne, q_if_le, q_iret, q_imul, q_iadd, q_iast, q_dup2, e_127_0, e_127_1, e_127_3, e_127_4, e_127_5, e_127_6, e_127_7, e_127_8, e_127_9, e_127_10, e_127_12, L_0, L_1, L_2, L_5, L_6, L_7, L_8, L_82, L_97, k_some, k_none, pRm_i, pRm_r, pRm_0, pF_1, pF_2, inv_s, s.k0, gS_sI, tn, isI_f i1, gS_sI, gP_sI, gI_sI, Nat.add_left_cancel_iff, Nat.add_eq_left, Nat.left_eq_add, nN_le, nN_lt, nN_eq, nN_add, nN_mul, nN_lt0, nN_ge0, nN_gt0, nN_le0, nN_eq0, nN_eq1, nN_neN, pIn_n, pIx_n, eq_self, Nat.reduceLT, Bool.false_eq_true, Nat.add_zero, Nat.zero_add, Nat.reduceAdd, Nat.reduceMul, Nat.reduceSub, Nat.zero_le, Nat.reduceLeDiff, Nat.reduceEqDiff, Nat.le_refl, not_false_eq_true, not_true_eq_false, false_implies, true_implies, forall_const, true_and, and_true, if_true, if_false, implies_true, and_self, ne_eq, false_and, and_false, or_false, false_or, true_or, or_true]
    exact ⟨Or.inr (Or.inr ⟨hR, KO.one.mpr (fun h => absurd h (by omega)), fin0 _⟩), AU _⟩
end KR
