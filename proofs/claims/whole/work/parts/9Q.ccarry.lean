/-! what one way carries: the class; the greatest flow -/
def X77 (h _k : Nat) : Prop := h = 77
section CC
variable {d t u n q f g e K dd j bl x y i h p v k : Nat} {cp c c' : Nat → Int32} {s : tB} {par : Nat → Nat} {m a b : Int32} {M M1 M' : pMem} {Q : pOut → pMem → Prop}
theorem w_carry (sh : ShP (gS M) (gP M)) (hc : CpO M n cp) (hn : n ≤ 12) (w : BfW cp n x s) (hb : BmC x s M) (hx : x < n) (hk : k < s.2.2.2) (hy : y = s.2.2.1 k) : mw (d + 2) 174 [.ref 76, .int (nN x), .int (nN y)] M (fun o M' => o = .inl (some (.int (mnW cp s.2.1 x n y (nN 1000000)))) ∧ CpO M' n (upW s.2.1 x (mnW cp s.2.1 x n y (nN 1000000)) n y cp) ∧ Ag X77 M M') := by
  have k76 := sh.k76
  have k77 := sh.k77
  have k79 := sh.k79
  have pa := sh.a
  have pc := sh.c
  have key1 : ∀ (f cc k : Nat) (m : Int32) (z : Option Value) (Q : pOut → pMem → Prop), cc + f = n → k < s.2.2.2 → (∀ v' c', bw (d + 1) 174 2 ([some (.ref 76), some (.int (nN x)), some (.int (nN y)), some (.int (mnW cp s.2.1 x f (s.2.2.1 k) m)), v', c', z], [], M) Q) → bw (d + 1) 174 1 ([some (.ref 76), some (.int (nN x)), some (.int (nN y)), some (.int m), some (.int (nN (s.2.2.1 k))), some (.int (nN cc)), z], [], M) Q := by
    intro f
    induction f with
    | zero =>
      intro cc k m z Q hf hk go
      have h3 : n ≤ cc := by omega
      rw [e_174_1]
      simp (disch := omega) only [q_ldc_i, q_istore3, q_iload2, q_istore4, q_iconst, q_istore5, q_nop, q_iload5, q_aload0, q_aload0N, q_get_i, pTag_1, pRf_s, q_ic_ge, q_iload4, q_iload1, q_ic_eq, q_iload3, q_get_r, q_invs2_21, q_invs2_20, q_min, q_iinc5, q_goto, q_istore6, q_iload6, q_ineg, q_invs3_21, q_iret, e_174_0, e_174_4, L_0, L_1, L_1000000, k_some, k_none, pRm_i, pRm_r, pRm_0, pF_1, pF_2, inv_s, k76, hc.1, h3, gS_sI, gP_sI, gI_sI, Nat.add_left_cancel_iff, Nat.add_eq_left, Nat.left_eq_add, nN_le, nN_lt, nN_eq, nN_add, nN_mul, nN_lt0, nN_ge0, nN_gt0, nN_le0, nN_eq0, nN_eq1, nN_neN, pIn_n, pIx_n, eq_self, Nat.reduceLT, Bool.false_eq_true, Nat.add_zero, Nat.zero_add, Nat.reduceAdd, Nat.reduceMul, Nat.reduceSub, Nat.zero_le, Nat.reduceLeDiff, Nat.reduceEqDiff, Nat.le_refl, not_false_eq_true, not_true_eq_false, false_implies, true_implies, forall_const, true_and, and_true, if_true, if_false, implies_true, and_self, ne_eq, false_and, and_false, or_false, false_or, true_or, or_true]
      exact go _ _
    | succ f ih =>
      intro cc k m z Q hf hk go
      have h3 : ¬ n ≤ cc := by omega
      have hv := (w.qn k hk).1
      unfold mnW at go
      rw [e_174_1]
      by_cases e : s.2.2.1 k = x
      · rw [if_pos e] at go
        simp (disch := omega) only [q_ldc_i, q_istore3, q_iload2, q_istore4, q_iconst, q_istore5, q_nop, q_iload5, q_aload0, q_aload0N, q_get_i, pTag_1, pRf_s, q_ic_ge, q_iload4, q_iload1, q_ic_eq, q_iload3, q_get_r, q_invs2_21, q_invs2_20, q_min, q_iinc5, q_goto, q_istore6, q_iload6, q_ineg, q_invs3_21, q_iret, e_174_0, e_174_4, L_0, L_1, L_1000000, k_some, k_none, pRm_i, pRm_r, pRm_0, pF_1, pF_2, inv_s, k76, hc.1, h3, e, gS_sI, gP_sI, gI_sI, Nat.add_left_cancel_iff, Nat.add_eq_left, Nat.left_eq_add, nN_le, nN_lt, nN_eq, nN_add, nN_mul, nN_lt0, nN_ge0, nN_gt0, nN_le0, nN_eq0, nN_eq1, nN_neN, pIn_n, pIx_n, eq_self, Nat.reduceLT, Bool.false_eq_true, Nat.add_zero, Nat.zero_add, Nat.reduceAdd, Nat.reduceMul, Nat.reduceSub, Nat.zero_le, Nat.reduceLeDiff, Nat.reduceEqDiff, Nat.le_refl, not_false_eq_true, not_true_eq_false, false_implies, true_implies, forall_const, true_and, and_true, if_true, if_false, implies_true, and_self, ne_eq, false_and, and_false, or_false, false_or, true_or, or_true]
        exact go _ _
      · rw [if_neg e] at go
        obtain ⟨k', h1, h2, h4, h5⟩ := bf_par w hk e
        have g1 := hb.2.2 _ (w.qn k hk).2 e
        rw [h2] at g1 go
        have g2 := hc.2 _ _ h4 hv
        have i9 : s.2.2.1 k' * 12 + s.2.2.1 k = 12 * s.2.2.1 k' + s.2.2.1 k := by omega
        simp (disch := omega) only [q_ldc_i, q_istore3, q_iload2, q_istore4, q_iconst, q_istore5, q_nop, q_iload5, q_aload0, q_aload0N, q_get_i, pTag_1, pRf_s, q_ic_ge, q_iload4, q_iload1, q_ic_eq, q_iload3, q_get_r, q_invs2_21, q_invs2_20, q_min, q_iinc5, q_goto, q_istore6, q_iload6, q_ineg, q_invs3_21, q_iret, e_174_0, e_174_4, L_0, L_1, L_1000000, k_some, k_none, pRm_i, pRm_r, pRm_0, pF_1, pF_2, inv_s, k76, hc.1, h3, e, pa, pc, w_atN k77, w_atN k79, g1, g2, m_171, q_iload0, q_bipush, q_imul, q_iload1, q_iadd, q_iret, e_171_0, L_12, i9, gS_sI, gP_sI, gI_sI, Nat.add_left_cancel_iff, Nat.add_eq_left, Nat.left_eq_add, nN_le, nN_lt, nN_eq, nN_add, nN_mul, nN_lt0, nN_ge0, nN_gt0, nN_le0, nN_eq0, nN_eq1, nN_neN, pIn_n, pIx_n, eq_self, Nat.reduceLT, Bool.false_eq_true, Nat.add_zero, Nat.zero_add, Nat.reduceAdd, Nat.reduceMul, Nat.reduceSub, Nat.zero_le, Nat.reduceLeDiff, Nat.reduceEqDiff, Nat.le_refl, not_false_eq_true, not_true_eq_false, false_implies, true_implies, forall_const, true_and, and_true, if_true, if_false, implies_true, and_self, ne_eq, false_and, and_false, or_false, false_or, true_or, or_true]
        exact ih (cc + 1) k' _ z Q (by omega) (by omega) go
  have key2 : ∀ (m : Int32) (f cc k : Nat) (c : Nat → Int32) (z : Option Value) (M1 : pMem), cc + f = n → k < s.2.2.2 → Ag X77 M M1 → CpO M1 n c → bw (d + 1) 174 3 ([some (.ref 76), some (.int (nN x)), some (.int (nN y)), some (.int m), some (.int (nN (s.2.2.1 k))), some (.int (nN cc)), z], [], M1) (fun o M' => o = .inl (some (.int m)) ∧ CpO M' n (upW s.2.1 x m f (s.2.2.1 k) c) ∧ Ag X77 M M') := by
    intro m f
    induction f with
    | zero =>
      intro cc k c z M1 hf hk A h1
      have h3 : n ≤ cc := by omega
      have kk : (gS M1 76).1 = 4 := by rw [A.S, k76]
      rw [e_174_3]
      simp (disch := omega) only [q_ldc_i, q_istore3, q_iload2, q_istore4, q_iconst, q_istore5, q_nop, q_iload5, q_aload0, q_aload0N, q_get_i, pTag_1, pRf_s, q_ic_ge, q_iload4, q_iload1, q_ic_eq, q_iload3, q_get_r, q_invs2_21, q_invs2_20, q_min, q_iinc5, q_goto, q_istore6, q_iload6, q_ineg, q_invs3_21, q_iret, e_174_0, e_174_4, L_0, L_1, L_1000000, k_some, k_none, pRm_i, pRm_r, pRm_0, pF_1, pF_2, inv_s, kk, h1.1, h3, gS_sI, gP_sI, gI_sI, Nat.add_left_cancel_iff, Nat.add_eq_left, Nat.left_eq_add, nN_le, nN_lt, nN_eq, nN_add, nN_mul, nN_lt0, nN_ge0, nN_gt0, nN_le0, nN_eq0, nN_eq1, nN_neN, pIn_n, pIx_n, eq_self, Nat.reduceLT, Bool.false_eq_true, Nat.add_zero, Nat.zero_add, Nat.reduceAdd, Nat.reduceMul, Nat.reduceSub, Nat.zero_le, Nat.reduceLeDiff, Nat.reduceEqDiff, Nat.le_refl, not_false_eq_true, not_true_eq_false, false_implies, true_implies, forall_const, true_and, and_true, if_true, if_false, implies_true, and_self, ne_eq, false_and, and_false, or_false, false_or, true_or, or_true]
      exact ⟨h1, A⟩
    | succ f ih =>
      intro cc k c z M1 hf hk A c1
      have h3 : ¬ n ≤ cc := by omega
      have hv := (w.qn k hk).1
      have kk : (gS M1 76).1 = 4 := by rw [A.S, k76]
      have k77' : gS M1 77 = (100, 144) := by rw [A.S]; exact k77
      have k79' : gS M1 79 = (100, 12) := by rw [A.S]; exact k79
      have pa' : gP M1 76 0 = some 77 := by rw [A.P]; exact pa
      have pc' : gP M1 76 2 = some 79 := by rw [A.P]; exact pc
      unfold upW
      rw [e_174_3]
      by_cases e : s.2.2.1 k = x
      · rw [if_pos e]
        simp (disch := omega) only [q_ldc_i, q_istore3, q_iload2, q_istore4, q_iconst, q_istore5, q_nop, q_iload5, q_aload0, q_aload0N, q_get_i, pTag_1, pRf_s, q_ic_ge, q_iload4, q_iload1, q_ic_eq, q_iload3, q_get_r, q_invs2_21, q_invs2_20, q_min, q_iinc5, q_goto, q_istore6, q_iload6, q_ineg, q_invs3_21, q_iret, e_174_0, e_174_4, L_0, L_1, L_1000000, k_some, k_none, pRm_i, pRm_r, pRm_0, pF_1, pF_2, inv_s, kk, c1.1, h3, e, gS_sI, gP_sI, gI_sI, Nat.add_left_cancel_iff, Nat.add_eq_left, Nat.left_eq_add, nN_le, nN_lt, nN_eq, nN_add, nN_mul, nN_lt0, nN_ge0, nN_gt0, nN_le0, nN_eq0, nN_eq1, nN_neN, pIn_n, pIx_n, eq_self, Nat.reduceLT, Bool.false_eq_true, Nat.add_zero, Nat.zero_add, Nat.reduceAdd, Nat.reduceMul, Nat.reduceSub, Nat.zero_le, Nat.reduceLeDiff, Nat.reduceEqDiff, Nat.le_refl, not_false_eq_true, not_true_eq_false, false_implies, true_implies, forall_const, true_and, and_true, if_true, if_false, implies_true, and_self, ne_eq, false_and, and_false, or_false, false_or, true_or, or_true]
        exact ⟨c1, A⟩
      · rw [if_neg e]
        obtain ⟨k', h1, h2, h4, h5⟩ := bf_par w hk e
        have g1 : gI M1 79 (s.2.2.1 k) = nN (s.2.1 (s.2.2.1 k)) := by rw [A.I (by unfold X77; omega)]; exact hb.2.2 _ (w.qn k hk).2 e
        rw [h2] at g1 ⊢
        have i9 : s.2.2.1 k' * 12 + s.2.2.1 k = 12 * s.2.2.1 k' + s.2.2.1 k := by omega
        have i8 : s.2.2.1 k * 12 + s.2.2.1 k' = 12 * s.2.2.1 k + s.2.2.1 k' := by omega
        have i7 : 12 * s.2.2.1 k' + s.2.2.1 k < 144 := by omega
        have i6 : 12 * s.2.2.1 k + s.2.2.1 k' < 144 := by omega
        have W1 := fun Q => w_addN (d := d) (k := 12 * s.2.2.1 k' + s.2.2.1 k) (x := -m) (Q := Q) k77' (by omega) i7
        have W2 := fun Q => w_addN (d := d) (M := sI M1 77 (12 * s.2.2.1 k' + s.2.2.1 k) (gI M1 77 (12 * s.2.2.1 k' + s.2.2.1 k) + -m)) (k := 12 * s.2.2.1 k + s.2.2.1 k') (x := m) (Q := Q) k77' (by omega) i6
        have g2 := c1.2 _ _ h4 hv
        have g3 := c1.2 _ _ hv h4
        have fin : CpO (sI (sI M1 77 (12 * s.2.2.1 k' + s.2.2.1 k) (gI M1 77 (12 * s.2.2.1 k' + s.2.2.1 k) + -m)) 77 (12 * s.2.2.1 k + s.2.2.1 k') (gI (sI M1 77 (12 * s.2.2.1 k' + s.2.2.1 k) (gI M1 77 (12 * s.2.2.1 k' + s.2.2.1 k) + -m)) 77 (12 * s.2.2.1 k + s.2.2.1 k') + m)) n (up1 c (s.2.2.1 k') (s.2.2.1 k) m) := by
          refine ⟨by rw [gI_sI, if_neg (by omega), gI_sI, if_neg (by omega)]; exact c1.1, fun i j hi hj => ?_⟩
          have gij := c1.2 i j hi hj
          unfold up1
          rw [gI_sI, gI_sI, gI_sI]
          by_cases e1 : 12 * i + j = 12 * s.2.2.1 k + s.2.2.1 k'
          · rw [if_pos ⟨rfl, e1⟩, if_pos e1, if_neg (by omega), if_neg (by omega), g3, e1]
          · rw [if_neg (fun z => e1 z.2), if_neg e1]
            by_cases e2 : 12 * i + j = 12 * s.2.2.1 k' + s.2.2.1 k
            · rw [if_pos ⟨rfl, e2⟩, if_pos e2, g2, e2, Int32.sub_eq_add_neg]
            · rw [if_neg (fun z => e2 z.2), if_neg e2]; exact gij
        have A2 : Ag X77 M (sI (sI M1 77 (12 * s.2.2.1 k' + s.2.2.1 k) (gI M1 77 (12 * s.2.2.1 k' + s.2.2.1 k) + -m)) 77 (12 * s.2.2.1 k + s.2.2.1 k') (gI (sI M1 77 (12 * s.2.2.1 k' + s.2.2.1 k) (gI M1 77 (12 * s.2.2.1 k' + s.2.2.1 k) + -m)) 77 (12 * s.2.2.1 k + s.2.2.1 k') + m)) := Ag.put (Ag.put A rfl) rfl
        have nx9 := ih (cc + 1) k' _ (some (.int (nN (s.2.2.1 k')))) _ (by omega) (by omega) A2 fin
        simp (disch := omega) only [q_ldc_i, q_istore3, q_iload2, q_istore4, q_iconst, q_istore5, q_nop, q_iload5, q_aload0, q_aload0N, q_get_i, pTag_1, pRf_s, q_ic_ge, q_iload4, q_iload1, q_ic_eq, q_iload3, q_get_r, q_invs2_21, q_invs2_20, q_min, q_iinc5, q_goto, q_istore6, q_iload6, q_ineg, q_invs3_21, q_iret, e_174_0, e_174_4, L_0, L_1, L_1000000, k_some, k_none, pRm_i, pRm_r, pRm_0, pF_1, pF_2, inv_s, kk, c1.1, h3, e, pa', pc', gS_sI, gP_sI, w_atN k79', W1, W2, g1, m_171, q_iload0, q_bipush, q_imul, q_iload1, q_iadd, q_iret, e_171_0, L_12, i9, i8, nN_le, nN_lt, nN_eq, nN_add, nN_mul, nN_lt0, nN_ge0, nN_gt0, nN_le0, nN_eq0, nN_eq1, nN_neN, pIn_n, pIx_n, eq_self, Nat.reduceLT, Bool.false_eq_true, Nat.add_zero, Nat.zero_add, Nat.reduceAdd, Nat.reduceMul, Nat.reduceSub, Nat.zero_le, Nat.reduceLeDiff, Nat.reduceEqDiff, Nat.le_refl, not_false_eq_true, not_true_eq_false, false_implies, true_implies, forall_const, true_and, and_true, if_true, if_false, implies_true, and_self, ne_eq, false_and, and_false, or_false, false_or, true_or, or_true]
        exact nx9
  simp (disch := omega) only [m_174, q_ldc_i, q_istore3, q_iload2, q_istore4, q_iconst, q_istore5, q_nop, q_iload5, q_aload0, q_aload0N, q_get_i, pTag_1, pRf_s, q_ic_ge, q_iload4, q_iload1, q_ic_eq, q_iload3, q_get_r, q_invs2_21, q_invs2_20, q_min, q_iinc5, q_goto, q_istore6, q_iload6, q_ineg, q_invs3_21, q_iret, e_174_0, e_174_4, L_0, L_1, L_1000000, k_some, k_none, pRm_i, pRm_r, pRm_0, pF_1, pF_2, inv_s, nN_le, nN_lt, nN_eq, nN_add, nN_mul, nN_lt0, nN_ge0, nN_gt0, nN_le0, nN_eq0, nN_eq1, nN_neN, pIn_n, pIx_n, eq_self, Nat.reduceLT, Bool.false_eq_true, Nat.add_zero, Nat.zero_add, Nat.reduceAdd, Nat.reduceMul, Nat.reduceSub, Nat.zero_le, Nat.reduceLeDiff, Nat.reduceEqDiff, Nat.le_refl, not_false_eq_true, not_true_eq_false, false_implies, true_implies, forall_const, true_and, and_true, if_true, if_false, implies_true, and_self, ne_eq, false_and, and_false, or_false, false_or, true_or, or_true]
  subst hy
  simp only [iN_s0]
  refine key1 n 0 k (nN 1000000) none _ (by omega) hk ?_
  intro v' c'
  rw [e_174_2]
  simp (disch := omega) only [q_ldc_i, q_istore3, q_iload2, q_istore4, q_iconst, q_istore5, q_nop, q_iload5, q_aload0, q_aload0N, q_get_i, pTag_1, pRf_s, q_ic_ge, q_iload4, q_iload1, q_ic_eq, q_iload3, q_get_r, q_invs2_21, q_invs2_20, q_min, q_iinc5, q_goto, q_istore6, q_iload6, q_ineg, q_invs3_21, q_iret, e_174_0, e_174_4, L_0, L_1, L_1000000, k_some, k_none, pRm_i, pRm_r, pRm_0, pF_1, pF_2, inv_s, nN_le, nN_lt, nN_eq, nN_add, nN_mul, nN_lt0, nN_ge0, nN_gt0, nN_le0, nN_eq0, nN_eq1, nN_neN, pIn_n, pIx_n, eq_self, Nat.reduceLT, Bool.false_eq_true, Nat.add_zero, Nat.zero_add, Nat.reduceAdd, Nat.reduceMul, Nat.reduceSub, Nat.zero_le, Nat.reduceLeDiff, Nat.reduceEqDiff, Nat.le_refl, not_false_eq_true, not_true_eq_false, false_implies, true_implies, forall_const, true_and, and_true, if_true, if_false, implies_true, and_self, ne_eq, false_and, and_false, or_false, false_or, true_or, or_true]
  exact key2 _ n 0 k cp none M (by omega) hk Ag.rfl hc
end CC
