/-! clear: the model's rings -/
section MRG
variable {d t u n p q f g m e K k dd j bl x y i h L v r l used : Nat} {a a' ak : Nat → Int32} {c c2 : Nat → Nat} {img : Bool} {fl : Int32} {M M1 M' : pMem} {Q : pOut → pMem → Prop} {w z : Int32}
theorem ra_k (hw : Wf a) (hr : r < nR a) : a (82 + 7 * r) = nN (rZ a r) ∧ ∀ k, k < rZ a r → a (82 + 7 * r + 1 + k) = nN (rQ a r k) := by
  obtain ⟨h1, h2, h3, h4⟩ := rg_ok hw hr
  refine ⟨h3, fun k hk => ?_⟩
  have := (h4 k hk).2
  unfold ra at this
  rw [Nat.add_assoc]
  exact this
theorem w_putsBack (hm : MR M u a) (hw : Wf a) (hd : Rd a) (o : OwC M (u + 10) (nP a) c) (hr : r < nR a) (hv : ∀ i, i < rZ a r → nN (c (rE a r i)) + w = nN (c2 (rE a r i))) (h0 : ∀ p, ¬ isE a r p = true → c2 p = c p) : mw (d + 1) 128 [.ref u, .int (nN r), .int w] M (fun o M' => o = .inl none ∧ OwC M' (u + 10) (nP a) c2 ∧ Ag (fun h _ => h = u + 10) M M') := by
  obtain ⟨h1, h2, h3, h4⟩ := rg_ok hw hr
  obtain ⟨a0, a1⟩ := ra_k hw hr
  have hR := hw.r'
  have hp' := hw.p'
  have s9 := hm.1
  have q0 : 82 + 7 * r < 3346 := by omega
  simp (disch := omega) only [m_128, q_bipush, q_iload1, q_imul, q_iadd, q_istore3, q_iconst, q_istore4, q_nop, q_iload4, q_aload0, q_aload0N, q_get_r, pTag_1, pRf_s, q_iload3, q_iald, q_ic_ge, q_irem, q_dup2, q_iload2, q_iast, q_iinc4, q_goto, q_vret, e_128_0, e_128_2, L_0, L_1, L_7, L_12, L_82, nN_le, nN_lt, nN_eq, nN_add, nN_mul, nN_lt0, nN_ge0, nN_gt0, nN_le0, nN_eq0, nN_eq1, nN_neN, pIn_n, pIx_n, eq_self, Nat.reduceLT, Bool.false_eq_true, Nat.add_zero, Nat.zero_add, Nat.reduceAdd, Nat.reduceMul, Nat.reduceSub, Nat.zero_le, Nat.reduceLeDiff, Nat.reduceEqDiff, Nat.le_refl, not_false_eq_true, not_true_eq_false, false_implies, true_implies, forall_const, true_and, and_true, if_true, if_false, implies_true, and_self, ne_eq, false_and, and_false, or_false, false_or, true_or, or_true]
  refine loopR (n := rZ a r) (J := Unit) (C := fun k _ _ M => ([some (.ref u), some (.int (nN r)), some (.int w), some (.int (nN (82 + 7 * r))), some (.int (nN k))], [], M)) (f := fun _ (_ : Unit) => ()) (R := fun k _ M1 => Ag (fun h _ => h = u + 10) M M1 ∧ (∀ i, i < k → gI M1 (u + 10) (rE a r i) = nN (c2 (rE a r i))) ∧ ∀ i j, i < nP a → j < nP a → (∀ q, q < k → 12 * i + j ≠ rE a r q) → gI M1 (u + 10) (12 * i + j) = nN (c (12 * i + j))) ?_ (rZ a r) 0 () () M (by omega) ⟨Ag.rfl, fun i hi => absurd hi (by omega), fun i j h1 h2 _ => o i j h1 h2⟩ ?_
  · rintro k _ _ M1 hk ⟨A1, e1, e2⟩ go
    have m1 := hm.ag A1 (fun k => by omega)
    have c9 : ¬ rZ a r ≤ k := by omega
    have c8 : ¬ rZ a r = 0 := by omega
    have hE := rE_144 hw hr hk
    have ge : gI M1 (u + 10) (rE a r k) = nN (c (rE a r k)) := by
      obtain ⟨x, y, g1, g2, g3, -⟩ := rE_in hw hr hk
      rw [g3]
      refine e2 x y g1 g2 fun q hq z => ?_
      rw [← g3] at z
      have := rE_ne hw hd hr hk (show q < rZ a r by omega) z
      omega
    have hv9 := hv k hk
    have ml : (k + 1) % rZ a r < rZ a r := Nat.mod_lt _ (by omega)
    have ak1 := a1 k hk
    have ak2 := a1 _ ml
    have er : nN (k + 1) - nN (k + 1) / nN (rZ a r) * nN (rZ a r) = nN ((k + 1) % rZ a r) := nN_rem (by omega) (by omega)
    have q1 : 82 + 7 * r + 1 + k < 3346 := by omega
    have q2 : 82 + 7 * r + 1 + (k + 1) % rZ a r < 3346 := by omega
    have eE : 12 * rQ a r k + rQ a r ((k + 1) % rZ a r) = rE a r k := rfl
    rw [e_128_1]
    simp (disch := omega) only [q_bipush, q_iload1, q_imul, q_iadd, q_istore3, q_iconst, q_istore4, q_nop, q_iload4, q_aload0, q_aload0N, q_get_r, pTag_1, pRf_s, q_iload3, q_iald, q_ic_ge, q_irem, q_dup2, q_iload2, q_iast, q_iinc4, q_goto, q_vret, e_128_0, e_128_2, L_0, L_1, L_7, L_12, L_82, m1.1.k0, m1.1.k1, m1.1.k2, m1.1.k3, m1.1.k4, m1.1.k5, m1.1.k6, m1.1.k7, m1.1.k8, m1.1.k9, m1.1.k10, m1.1.k11, m1.1.k12, m1.1.k13, m1.1.p1, m1.1.p2, m1.1.p4, m1.1.p5, m1.1.p13, m1.1.p18, m1.1.p19, m1.1.p20, m1.1.p21, m1.1.p22, m1.1.p23, m1.1.p24, m1.1.p27, m1.2, q0, q1, q2, a0, ak1, ak2, er, eE, c9, c8, hE, ge, hv9, pIn_n, pIx_n, gS_sI, gP_sI, gI_sI, Nat.add_left_cancel_iff, Nat.add_eq_left, Nat.left_eq_add, nN_le, nN_lt, nN_add, nN_mul, nN_eq0, eq_self, Nat.reduceLT, Bool.false_eq_true, Nat.add_zero, Nat.zero_add, Nat.reduceAdd, Nat.reduceMul, Nat.reduceSub, Nat.zero_le, Nat.reduceLeDiff, Nat.reduceEqDiff, Nat.le_refl, not_false_eq_true, not_true_eq_false, false_implies, true_implies, forall_const, true_and, and_true, if_true, if_false, implies_true, and_self, ne_eq, false_and, and_false, or_false, false_or, true_or, or_true]
    refine go _ () ⟨Ag.put A1 rfl, fun i hi => ?_, fun i j g1 g2 g3 => ?_⟩
    · rw [gI_sI]
      by_cases b : rE a r i = rE a r k
      · rw [if_pos ⟨rfl, b⟩, b]
      · rw [if_neg (fun z => b z.2)]
        refine e1 i ?_
        refine Classical.byContradiction fun z => b ?_
        rw [show i = k from by omega]
    · rw [gI_sI, if_neg (fun z => g3 k (by omega) z.2)]
      exact e2 i j g1 g2 fun q hq => g3 q (by omega)
  · rintro M1 _ ⟨A1, e1, e2⟩
    have m1 := hm.ag A1 (fun k => by omega)
    rw [e_128_1]
    simp (disch := omega) only [q_bipush, q_iload1, q_imul, q_iadd, q_istore3, q_iconst, q_istore4, q_nop, q_iload4, q_aload0, q_aload0N, q_get_r, pTag_1, pRf_s, q_iload3, q_iald, q_ic_ge, q_irem, q_dup2, q_iload2, q_iast, q_iinc4, q_goto, q_vret, e_128_0, e_128_2, L_0, L_1, L_7, L_12, L_82, m1.1.k0, m1.1.k1, m1.1.k2, m1.1.k3, m1.1.k4, m1.1.k5, m1.1.k6, m1.1.k7, m1.1.k8, m1.1.k9, m1.1.k10, m1.1.k11, m1.1.k12, m1.1.k13, m1.1.p1, m1.1.p2, m1.1.p4, m1.1.p5, m1.1.p13, m1.1.p18, m1.1.p19, m1.1.p20, m1.1.p21, m1.1.p22, m1.1.p23, m1.1.p24, m1.1.p27, m1.2, q0, a0, gS_sI, gP_sI, gI_sI, Nat.add_left_cancel_iff, Nat.add_eq_left, Nat.left_eq_add, nN_le, nN_lt, nN_eq, nN_add, nN_mul, nN_lt0, nN_ge0, nN_gt0, nN_le0, nN_eq0, nN_eq1, nN_neN, pIn_n, pIx_n, eq_self, Nat.reduceLT, Bool.false_eq_true, Nat.add_zero, Nat.zero_add, Nat.reduceAdd, Nat.reduceMul, Nat.reduceSub, Nat.zero_le, Nat.reduceLeDiff, Nat.reduceEqDiff, Nat.le_refl, not_false_eq_true, not_true_eq_false, false_implies, true_implies, forall_const, true_and, and_true, if_true, if_false, implies_true, and_self, ne_eq, false_and, and_false, or_false, false_or, true_or, or_true]
    refine ⟨fun i j g1 g2 => ?_, A1⟩
    by_cases b : isE a r (12 * i + j) = true
    · obtain ⟨q, b1, b2⟩ := isE_iff.mp b
      rw [b2]
      exact e1 q b1
    · rw [h0 _ b]
      exact e2 i j g1 g2 fun q hq z => b (isE_iff.mpr ⟨q, hq, z⟩)
theorem w_ringOf (hm : MR M u a) (hw : Wf a) (hd : Rd a) (o : OwC M (u + 10) (nP a) c) (hc : ∀ p, c p < 4000) (hr : r < nR a) : mw (d + 2) 129 [.ref u, .int (nN r)] M (fun o M' => o = .inl (some (.int (nN (rL a c r)))) ∧ OwC M' (u + 10) (nP a) (tkE a r (rL a c r) c) ∧ Ag (fun h _ => h = u + 10) M M') := by
  obtain ⟨h1, h2, h3, h4⟩ := rg_ok hw hr
  obtain ⟨a0, a1⟩ := ra_k hw hr
  have hR := hw.r'
  have hp' := hw.p'
  have s9 := hm.1
  have q0 : 82 + 7 * r < 3346 := by omega
  simp (disch := omega) only [m_129, q_bipush, q_iload1, q_imul, q_iadd, q_istore2, q_aload0, q_aload0N, q_get_r, pTag_1, pRf_s, q_iload2, q_iald, q_istore3, q_iconst, q_istore4, q_istore5, q_nop, q_iload5, q_iload3, q_ic_ge, q_irem, q_istore6, q_iload4, q_ic_eq, q_iload6, q_goto, q_iinc5, q_ineg, q_invv2, inv_1, q_iret, e_129_0, L_0, L_1, L_7, L_12, L_82, k_some, k_none, pRm_i, pRm_r, pRm_0, pF_1, pF_2, inv_s, hm.1.k0, hm.1.k1, hm.1.k2, hm.1.k3, hm.1.k4, hm.1.k5, hm.1.k6, hm.1.k7, hm.1.k8, hm.1.k9, hm.1.k10, hm.1.k11, hm.1.k12, hm.1.k13, hm.1.p1, hm.1.p2, hm.1.p4, hm.1.p5, hm.1.p13, hm.1.p18, hm.1.p19, hm.1.p20, hm.1.p21, hm.1.p22, hm.1.p23, hm.1.p24, hm.1.p27, hm.2, q0, a0, gS_sI, gP_sI, gI_sI, Nat.add_left_cancel_iff, Nat.add_eq_left, Nat.left_eq_add, nN_le, nN_lt, nN_eq, nN_add, nN_mul, nN_lt0, nN_ge0, nN_gt0, nN_le0, nN_eq0, nN_eq1, nN_neN, pIn_n, pIx_n, eq_self, Nat.reduceLT, Bool.false_eq_true, Nat.add_zero, Nat.zero_add, Nat.reduceAdd, Nat.reduceMul, Nat.reduceSub, Nat.zero_le, Nat.reduceLeDiff, Nat.reduceEqDiff, Nat.le_refl, not_false_eq_true, not_true_eq_false, false_implies, true_implies, forall_const, true_and, and_true, if_true, if_false, implies_true, and_self, ne_eq, false_and, and_false, or_false, false_or, true_or, or_true]
  have key : ∀ (l k m : Nat) (z : Option Value), k + l = rZ a r → (k = 0 → m = 1000000) → (k ≠ 0 → m < 4000) → (∀ i, i < k → m ≤ c (rE a r i)) → bw (d + 1) 129 1 ([some (.ref u), some (.int (nN r)), some (.int (nN (82 + 7 * r))), some (.int (nN (rZ a r))), some (.int (if k = 0 then iN (-1) else nN m)), some (.int (nN k)), z], [], M) (fun o M' => o = .inl (some (.int (nN (lp l k m (fun k m => min m (c (rE a r k))))))) ∧ OwC M' (u + 10) (nP a) (tkE a r (lp l k m (fun k m => min m (c (rE a r k)))) c) ∧ Ag (fun h _ => h = u + 10) M M') := by
    intro l
    induction l with
    | zero =>
      intro k m z hk g1 g2 g3
      have c9 : rZ a r ≤ k := by omega
      have k0 : ¬ k = 0 := by omega
      rw [e_129_1]
      simp (disch := omega) only [q_bipush, q_iload1, q_imul, q_iadd, q_istore2, q_aload0, q_aload0N, q_get_r, pTag_1, pRf_s, q_iload2, q_iald, q_istore3, q_iconst, q_istore4, q_istore5, q_nop, q_iload5, q_iload3, q_ic_ge, q_irem, q_istore6, q_iload4, q_ic_eq, q_iload6, q_goto, q_iinc5, q_ineg, q_invv2, inv_1, q_iret, e_129_0, e_129_5, L_0, L_1, L_7, L_12, L_82, k_some, k_none, pRm_i, pRm_r, pRm_0, pF_1, pF_2, inv_s, s9.k0, c9, k0, gS_sI, gP_sI, gI_sI, Nat.add_left_cancel_iff, Nat.add_eq_left, Nat.left_eq_add, nN_le, nN_lt, nN_eq, nN_add, nN_mul, nN_lt0, nN_ge0, nN_gt0, nN_le0, nN_eq0, nN_eq1, nN_neN, pIn_n, pIx_n, eq_self, Nat.reduceLT, Bool.false_eq_true, Nat.add_zero, Nat.zero_add, Nat.reduceAdd, Nat.reduceMul, Nat.reduceSub, Nat.zero_le, Nat.reduceLeDiff, Nat.reduceEqDiff, Nat.le_refl, not_false_eq_true, not_true_eq_false, false_implies, true_implies, forall_const, true_and, and_true, if_true, if_false, implies_true, and_self, ne_eq, false_and, and_false, or_false, false_or, true_or, or_true]
      refine mw_mono (w_putsBack (d := d) (c2 := tkE a r m c) hm hw hd o hr (fun i hi => tk_v (isE_iff.mpr ⟨i, hi, rfl⟩) (g3 i (by omega))) (fun p hp => if_neg hp)) ?_
      rintro _ M1 ⟨rfl, o1, A1⟩
      simp (disch := omega) only [q_bipush, q_iload1, q_imul, q_iadd, q_istore2, q_aload0, q_aload0N, q_get_r, pTag_1, pRf_s, q_iload2, q_iald, q_istore3, q_iconst, q_istore4, q_istore5, q_nop, q_iload5, q_iload3, q_ic_ge, q_irem, q_istore6, q_iload4, q_ic_eq, q_iload6, q_goto, q_iinc5, q_ineg, q_invv2, inv_1, q_iret, e_129_0, e_129_5, L_0, L_1, L_7, L_12, L_82, k_some, k_none, pRm_i, pRm_r, pRm_0, pF_1, pF_2, inv_s, nN_le, nN_lt, nN_eq, nN_add, nN_mul, nN_lt0, nN_ge0, nN_gt0, nN_le0, nN_eq0, nN_eq1, nN_neN, pIn_n, pIx_n, eq_self, Nat.reduceLT, Bool.false_eq_true, Nat.add_zero, Nat.zero_add, Nat.reduceAdd, Nat.reduceMul, Nat.reduceSub, Nat.zero_le, Nat.reduceLeDiff, Nat.reduceEqDiff, Nat.le_refl, not_false_eq_true, not_true_eq_false, false_implies, true_implies, forall_const, true_and, and_true, if_true, if_false, implies_true, and_self, ne_eq, false_and, and_false, or_false, false_or, true_or, or_true]
      exact ⟨rfl, o1, A1⟩
    | succ l ih =>
      intro k m z hk g1 g2 g3
      have c9 : ¬ rZ a r ≤ k := by omega
      have k9 : k < rZ a r := by omega
      have c8 : ¬ rZ a r = 0 := by omega
      have hE := rE_144 hw hr k9
      have ge := o.at hw hr k9
      have ml : (k + 1) % rZ a r < rZ a r := Nat.mod_lt _ (by omega)
      have ak1 := a1 k k9
      have ak2 := a1 _ ml
      have er : nN (k + 1) - nN (k + 1) / nN (rZ a r) * nN (rZ a r) = nN ((k + 1) % rZ a r) := nN_rem (by omega) (by omega)
      have q1 : 82 + 7 * r + 1 + k < 3346 := by omega
      have q2 : 82 + 7 * r + 1 + (k + 1) % rZ a r < 3346 := by omega
      have eE : 12 * rQ a r k + rQ a r ((k + 1) % rZ a r) = rE a r k := rfl
      have b1 := hc (rE a r k)
      have nx := ih (k + 1) (min m (c (rE a r k))) (some (.int (nN (rE a r k)))) (by omega) (fun h => by omega) (fun _ => by omega) (fun i hi => by
        by_cases e : i = k
        · subst e; exact Nat.min_le_right _ _
        · exact Nat.le_trans (Nat.min_le_left _ _) (g3 i (by omega)))
      rw [if_neg (show ¬ k + 1 = 0 by omega)] at nx
      have el : lp (l + 1) k m (fun k m => min m (c (rE a r k))) = lp l (k + 1) (min m (c (rE a r k))) (fun k m => min m (c (rE a r k))) := rfl
      rw [e_129_1, el]
      by_cases k0 : k = 0
      · have e1 := g1 k0
        have e2 : min m (c (rE a r k)) = c (rE a r k) := by omega
        rw [e2] at nx ⊢
        rw [if_pos k0]
        simp (disch := omega) only [q_bipush, q_iload1, q_imul, q_iadd, q_istore2, q_aload0, q_aload0N, q_get_r, pTag_1, pRf_s, q_iload2, q_iald, q_istore3, q_iconst, q_istore4, q_istore5, q_nop, q_iload5, q_iload3, q_ic_ge, q_irem, q_istore6, q_iload4, q_ic_eq, q_iload6, q_goto, q_iinc5, q_ineg, q_invv2, inv_1, q_iret, e_129_0, e_129_2, e_129_3, e_129_4, L_0, L_1, L_7, L_12, L_82, k_some, k_none, pRm_i, pRm_r, pRm_0, pF_1, pF_2, inv_s, hm.1.k0, hm.1.k1, hm.1.k2, hm.1.k3, hm.1.k4, hm.1.k5, hm.1.k6, hm.1.k7, hm.1.k8, hm.1.k9, hm.1.k10, hm.1.k11, hm.1.k12, hm.1.k13, hm.1.p1, hm.1.p2, hm.1.p4, hm.1.p5, hm.1.p13, hm.1.p18, hm.1.p19, hm.1.p20, hm.1.p21, hm.1.p22, hm.1.p23, hm.1.p24, hm.1.p27, hm.2, q0, q1, q2, ak1, ak2, er, eE, c9, c8, hE, ge, pIn_n, pIx_n, gS_sI, gP_sI, gI_sI, Nat.add_left_cancel_iff, Nat.add_eq_left, Nat.left_eq_add, nN_le, nN_lt, nN_add, nN_mul, nN_eq0, eq_self, Nat.reduceLT, Bool.false_eq_true, Nat.add_zero, Nat.zero_add, Nat.reduceAdd, Nat.reduceMul, Nat.reduceSub, Nat.zero_le, Nat.reduceLeDiff, Nat.reduceEqDiff, Nat.le_refl, not_false_eq_true, not_true_eq_false, false_implies, true_implies, forall_const, true_and, and_true, if_true, if_false, implies_true, and_self, ne_eq, false_and, and_false, or_false, false_or, true_or, or_true]
        exact nx
      · have g2' := g2 k0
        by_cases b : c (rE a r k) < m
        · have e2 : min m (c (rE a r k)) = c (rE a r k) := by omega
          rw [e2] at nx ⊢
          have b2 : ¬ m ≤ c (rE a r k) := by omega
          simp (disch := omega) only [q_bipush, q_iload1, q_imul, q_iadd, q_istore2, q_aload0, q_aload0N, q_get_r, pTag_1, pRf_s, q_iload2, q_iald, q_istore3, q_iconst, q_istore4, q_istore5, q_nop, q_iload5, q_iload3, q_ic_ge, q_irem, q_istore6, q_iload4, q_ic_eq, q_iload6, q_goto, q_iinc5, q_ineg, q_invv2, inv_1, q_iret, e_129_0, e_129_2, e_129_3, e_129_4, L_0, L_1, L_7, L_12, L_82, k_some, k_none, pRm_i, pRm_r, pRm_0, pF_1, pF_2, inv_s, hm.1.k0, hm.1.k1, hm.1.k2, hm.1.k3, hm.1.k4, hm.1.k5, hm.1.k6, hm.1.k7, hm.1.k8, hm.1.k9, hm.1.k10, hm.1.k11, hm.1.k12, hm.1.k13, hm.1.p1, hm.1.p2, hm.1.p4, hm.1.p5, hm.1.p13, hm.1.p18, hm.1.p19, hm.1.p20, hm.1.p21, hm.1.p22, hm.1.p23, hm.1.p24, hm.1.p27, hm.2, q0, q1, q2, ak1, ak2, er, eE, c9, c8, hE, ge, k0, b2, pIn_n, pIx_n, gS_sI, gP_sI, gI_sI, Nat.add_left_cancel_iff, Nat.add_eq_left, Nat.left_eq_add, nN_le, nN_lt, nN_eq, nN_add, nN_mul, nN_lt0, nN_ge0, nN_gt0, nN_le0, nN_eq0, nN_eq1, nN_neN, pIn_n, pIx_n, eq_self, Nat.reduceLT, Bool.false_eq_true, Nat.add_zero, Nat.zero_add, Nat.reduceAdd, Nat.reduceMul, Nat.reduceSub, Nat.zero_le, Nat.reduceLeDiff, Nat.reduceEqDiff, Nat.le_refl, not_false_eq_true, not_true_eq_false, false_implies, true_implies, forall_const, true_and, and_true, if_true, if_false, implies_true, and_self, ne_eq, false_and, and_false, or_false, false_or, true_or, or_true]
          exact nx
        · have e2 : min m (c (rE a r k)) = m := by omega
          rw [e2] at nx ⊢
          have b2 : m ≤ c (rE a r k) := by omega
          simp (disch := omega) only [q_bipush, q_iload1, q_imul, q_iadd, q_istore2, q_aload0, q_aload0N, q_get_r, pTag_1, pRf_s, q_iload2, q_iald, q_istore3, q_iconst, q_istore4, q_istore5, q_nop, q_iload5, q_iload3, q_ic_ge, q_irem, q_istore6, q_iload4, q_ic_eq, q_iload6, q_goto, q_iinc5, q_ineg, q_invv2, inv_1, q_iret, e_129_0, e_129_2, e_129_3, e_129_4, L_0, L_1, L_7, L_12, L_82, k_some, k_none, pRm_i, pRm_r, pRm_0, pF_1, pF_2, inv_s, hm.1.k0, hm.1.k1, hm.1.k2, hm.1.k3, hm.1.k4, hm.1.k5, hm.1.k6, hm.1.k7, hm.1.k8, hm.1.k9, hm.1.k10, hm.1.k11, hm.1.k12, hm.1.k13, hm.1.p1, hm.1.p2, hm.1.p4, hm.1.p5, hm.1.p13, hm.1.p18, hm.1.p19, hm.1.p20, hm.1.p21, hm.1.p22, hm.1.p23, hm.1.p24, hm.1.p27, hm.2, q0, q1, q2, ak1, ak2, er, eE, c9, c8, hE, ge, k0, b2, pIn_n, pIx_n, gS_sI, gP_sI, gI_sI, Nat.add_left_cancel_iff, Nat.add_eq_left, Nat.left_eq_add, nN_le, nN_lt, nN_eq, nN_add, nN_mul, nN_lt0, nN_ge0, nN_gt0, nN_le0, nN_eq0, nN_eq1, nN_neN, pIn_n, pIx_n, eq_self, Nat.reduceLT, Bool.false_eq_true, Nat.add_zero, Nat.zero_add, Nat.reduceAdd, Nat.reduceMul, Nat.reduceSub, Nat.zero_le, Nat.reduceLeDiff, Nat.reduceEqDiff, Nat.le_refl, not_false_eq_true, not_true_eq_false, false_implies, true_implies, forall_const, true_and, and_true, if_true, if_false, implies_true, and_self, ne_eq, false_and, and_false, or_false, false_or, true_or, or_true]
          exact nx
  exact key (rZ a r) 0 1000000 none (by omega) (fun _ => rfl) (fun h => absurd rfl h) (fun i hi => absurd hi (by omega))
end MRG
