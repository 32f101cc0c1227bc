/-! chain: the model's levels -/
def lvE (cp : Nat → Int32) (n : Nat) (t : Int32) (dd : Nat) (f : Nat → Int32) (j : Nat) : Nat → Bool → Bool := fun i s => s || (decide (f i = nN dd) && decide (t ≤ cp (12 * j + i)))
def lvS (cp : Nat → Int32) (n : Nat) (t : Int32) (dd : Nat) (f : Nat → Int32) : Nat → Int32 := fun j => if f j = iN (-1) ∧ lp n 0 false (lvE cp n t dd f j) = true then nN (dd + 1) else f j
def lv0 (y : Nat) : Nat → Int32 := fun j => if j = y then nN 0 else iN (-1)
section LVM
variable {d u n dd i j k x y : Nat} {cp f : Nat → Int32} {t : Int32} {a : Nat → Int32} {M M1 M' : pMem} {Q : pOut → pMem → Prop}
def Xl9 (u h _k : Nat) : Prop := h = u + 9
theorem Xl9_1 (k : Nat) : ¬ Xl9 u (u + 1) k := by unfold Xl9; omega
theorem Xl9_6 (k : Nat) : ¬ Xl9 u (u + 6) k := by unfold Xl9; omega
/-- one person's level in one round -/
theorem lv_in (hr : MR M u a) (hw : Wf a) (hc : CpM M u (nP a) cp) (hj : j < nP a) (hdd : dd < 100) {l1 l2 l4 : Option Value} (hf : f j = iN (-1)) : ∀ (l i : Nat) (s : Bool) (M1 : pMem), i + l = nP a → Ag (Xl9 u) M M1 → (∀ k, k < nP a → k ≠ j → (gI M1 (u + 9) k = nN dd) = (f k = nN dd)) → gI M1 (u + 9) j = (if s = true then nN (dd + 1) else iN (-1)) → (∀ M', Ag (Xl9 u) M M' → (∀ k, k ≠ j → gI M' (u + 9) k = gI M1 (u + 9) k) → gI M' (u + 9) j = (if lp l i s (lvE cp (nP a) t dd f j) = true then nN (dd + 1) else iN (-1)) → bw d 126 13 ([some (.ref u), l1, l2, some (.int t), l4, some (.int (nN (dd + 1))), some (.int (nN j)), some (.int (nN (nP a)))], [], M') Q) → bw d 126 11 ([some (.ref u), l1, l2, some (.int t), l4, some (.int (nN (dd + 1))), some (.int (nN j)), some (.int (nN i))], [], M1) Q := by
  have hp' := hw.p'
  intro l
  induction l with
  | zero =>
    intro i s M1 hl A h1 h2 go
    have e : i = nP a := by omega
    subst e
    have r1 := hr.ag A Xl9_1
    rw [e_126_11]
    simp (disch := first | omega | rfl | (repeat' (first | exact gS_sI | exact gP_sI | refine Eq.trans gS_sI ?_ | refine Eq.trans gP_sI ?_ | refine Eq.trans (gIr_sI (by omega)) ?_ | rfl))) only [q_aload0, q_aload0N, q_iload1, q_iload2, q_invv2, inv_1, q_put_i, pTag_1, q_get_i, pRf_s, q_if_ne, q_iload3, q_iconst, q_bipush, q_invs3_20, q_if_eq, q_iload4, q_ic_ge, q_nop, q_if_le, q_iret, q_invv0, q_istore5, q_iload5, q_get_r, q_ic_ne, q_goto, q_iast, q_iinc5, q_iald, q_istore6, q_iload6, q_ic_eq, q_istore7, q_iload7, q_isub, q_imul, q_iadd, q_ic_lt, q_iinc7, q_iinc6, q_ic_le, e_126_0, e_126_1, e_126_2, e_126_3, e_126_5, e_126_6, e_126_7, e_126_10, e_126_12, e_126_14, e_126_15, e_126_16, e_126_17, e_126_18, e_126_21, e_126_22, e_126_23, L_0, L_1, L_2, L_12, L_99, k_some, k_none, pRm_i, pRm_r, pRm_0, pF_1, pF_2, inv_s, r1.1.k0, r1.1.k1, r1.1.k2, r1.1.k3, r1.1.k4, r1.1.k5, r1.1.k6, r1.1.k7, r1.1.k8, r1.1.k9, r1.1.k10, r1.1.k11, r1.1.k12, r1.1.k13, r1.1.p1, r1.1.p2, r1.1.p4, r1.1.p5, r1.1.p13, r1.1.p18, r1.1.p19, r1.1.p20, r1.1.p21, r1.1.p22, r1.1.p23, r1.1.p24, r1.1.p27, r1.2, hw.p, nN_le, nN_lt, nN_eq, nN_add, nN_mul, nN_lt0, nN_ge0, nN_gt0, nN_le0, nN_eq0, nN_eq1, nN_neN, pIn_n, pIx_n, eq_self, Nat.reduceLT, Bool.false_eq_true, Nat.add_zero, Nat.zero_add, Nat.reduceAdd, Nat.reduceMul, Nat.reduceSub, Nat.zero_le, Nat.reduceLeDiff, Nat.reduceEqDiff, Nat.le_refl, not_false_eq_true, not_true_eq_false, false_implies, true_implies, forall_const, true_and, and_true, if_true, if_false, implies_true, and_self, ne_eq, false_and, and_false, or_false, false_or, true_or, or_true]
    exact go M1 A (fun _ _ => rfl) h2
  | succ l ih =>
    intro i s M1 hl A h1 h2 go
    have r1 := hr.ag A Xl9_1
    have s9 := r1.1
    have h3 : ¬ nP a ≤ i := by omega
    have i12 : i < 12 := by omega
    have j12 : j < 12 := by omega
    have g6 := hc.ag A Xl9_6 j i hj (by omega)
    have i9 : 12 * j + i < 144 := by omega
    have e1 : nN (dd + 1) - nN 1 = nN dd := by rw [nN_subN (by omega)]; rfl
    rw [e_126_11]
    by_cases c1 : gI M1 (u + 9) i = nN dd
    · by_cases c2 : t ≤ cp (12 * j + i)
      · have c3 : ¬ cp (12 * j + i) < t := Int32.not_lt.mpr c2
        simp (disch := first | omega | rfl | (repeat' (first | exact gS_sI | exact gP_sI | refine Eq.trans gS_sI ?_ | refine Eq.trans gP_sI ?_ | refine Eq.trans (gIr_sI (by omega)) ?_ | rfl))) only [q_aload0, q_aload0N, q_iload1, q_iload2, q_invv2, inv_1, q_put_i, pTag_1, q_get_i, pRf_s, q_if_ne, q_iload3, q_iconst, q_bipush, q_invs3_20, q_if_eq, q_iload4, q_ic_ge, q_nop, q_if_le, q_iret, q_invv0, q_istore5, q_iload5, q_get_r, q_ic_ne, q_goto, q_iast, q_iinc5, q_iald, q_istore6, q_iload6, q_ic_eq, q_istore7, q_iload7, q_isub, q_imul, q_iadd, q_ic_lt, q_iinc7, q_iinc6, q_ic_le, e_126_0, e_126_1, e_126_2, e_126_3, e_126_5, e_126_6, e_126_7, e_126_10, e_126_12, e_126_14, e_126_15, e_126_16, e_126_17, e_126_18, e_126_21, e_126_22, e_126_23, L_0, L_1, L_2, L_12, L_99, k_some, k_none, pRm_i, pRm_r, pRm_0, pF_1, pF_2, inv_s, r1.1.k0, r1.1.k1, r1.1.k2, r1.1.k3, r1.1.k4, r1.1.k5, r1.1.k6, r1.1.k7, r1.1.k8, r1.1.k9, r1.1.k10, r1.1.k11, r1.1.k12, r1.1.k13, r1.1.p1, r1.1.p2, r1.1.p4, r1.1.p5, r1.1.p13, r1.1.p18, r1.1.p19, r1.1.p20, r1.1.p21, r1.1.p22, r1.1.p23, r1.1.p24, r1.1.p27, r1.2, hw.p, h3, i12, j12, i9, s9.k0, s9.k6, s9.k9, s9.p18, s9.p21, pIn_n, pIx_n, e1, c1, c3, g6, gS_sI, gP_sI, gI_sI, Nat.add_left_cancel_iff, Nat.add_eq_left, Nat.left_eq_add, nN_le, nN_lt, nN_eq, nN_add, nN_mul, nN_lt0, nN_ge0, nN_gt0, nN_le0, nN_eq0, nN_eq1, nN_neN, pIn_n, pIx_n, eq_self, Nat.reduceLT, Bool.false_eq_true, Nat.add_zero, Nat.zero_add, Nat.reduceAdd, Nat.reduceMul, Nat.reduceSub, Nat.zero_le, Nat.reduceLeDiff, Nat.reduceEqDiff, Nat.le_refl, not_false_eq_true, not_true_eq_false, false_implies, true_implies, forall_const, true_and, and_true, if_true, if_false, implies_true, and_self, ne_eq, false_and, and_false, or_false, false_or, true_or, or_true]
        have ij : i ≠ j := by
          intro z
          subst z
          rw [h2] at c1
          split at c1
          · exact absurd c1 (by rw [nN_eq (by omega) (by omega)]; omega)
          · exact absurd c1.symm (by rw [nN_neN (by omega)]; exact not_false)
        have fi : f i = nN dd := by rw [← h1 i (by omega) ij]; exact c1
        have es : lvE cp (nP a) t dd f j i s = true := by unfold lvE; rw [decide_eq_true fi, decide_eq_true c2]; simp
        refine ih (i + 1) true _ (by omega) (Ag.put A rfl) (fun k hk hne => by rw [gI_sI, if_neg (fun z => hne z.2)]; exact h1 k hk hne) (by rw [gI_sI, if_pos ⟨rfl, rfl⟩]; rfl) (fun M' A' k' e' => go M' A' (fun k hne => by rw [k' k hne, gI_sI, if_neg (fun z => hne z.2)]) ?_)
        rw [e']
        show _ = if lp l (i + 1) (lvE cp (nP a) t dd f j i s) (lvE cp (nP a) t dd f j) = true then _ else _
        rw [es]
      · have c3 : cp (12 * j + i) < t := Int32.not_le.mp c2
        simp (disch := first | omega | rfl | (repeat' (first | exact gS_sI | exact gP_sI | refine Eq.trans gS_sI ?_ | refine Eq.trans gP_sI ?_ | refine Eq.trans (gIr_sI (by omega)) ?_ | rfl))) only [q_aload0, q_aload0N, q_iload1, q_iload2, q_invv2, inv_1, q_put_i, pTag_1, q_get_i, pRf_s, q_if_ne, q_iload3, q_iconst, q_bipush, q_invs3_20, q_if_eq, q_iload4, q_ic_ge, q_nop, q_if_le, q_iret, q_invv0, q_istore5, q_iload5, q_get_r, q_ic_ne, q_goto, q_iast, q_iinc5, q_iald, q_istore6, q_iload6, q_ic_eq, q_istore7, q_iload7, q_isub, q_imul, q_iadd, q_ic_lt, q_iinc7, q_iinc6, q_ic_le, e_126_0, e_126_1, e_126_2, e_126_3, e_126_5, e_126_6, e_126_7, e_126_10, e_126_12, e_126_14, e_126_15, e_126_16, e_126_17, e_126_18, e_126_21, e_126_22, e_126_23, L_0, L_1, L_2, L_12, L_99, k_some, k_none, pRm_i, pRm_r, pRm_0, pF_1, pF_2, inv_s, r1.1.k0, r1.1.k1, r1.1.k2, r1.1.k3, r1.1.k4, r1.1.k5, r1.1.k6, r1.1.k7, r1.1.k8, r1.1.k9, r1.1.k10, r1.1.k11, r1.1.k12, r1.1.k13, r1.1.p1, r1.1.p2, r1.1.p4, r1.1.p5, r1.1.p13, r1.1.p18, r1.1.p19, r1.1.p20, r1.1.p21, r1.1.p22, r1.1.p23, r1.1.p24, r1.1.p27, r1.2, hw.p, h3, i12, j12, i9, s9.k0, s9.k6, s9.k9, s9.p18, s9.p21, pIn_n, pIx_n, e1, c1, c3, g6, gS_sI, gP_sI, gI_sI, Nat.add_left_cancel_iff, Nat.add_eq_left, Nat.left_eq_add, nN_le, nN_lt, nN_eq, nN_add, nN_mul, nN_lt0, nN_ge0, nN_gt0, nN_le0, nN_eq0, nN_eq1, nN_neN, pIn_n, pIx_n, eq_self, Nat.reduceLT, Bool.false_eq_true, Nat.add_zero, Nat.zero_add, Nat.reduceAdd, Nat.reduceMul, Nat.reduceSub, Nat.zero_le, Nat.reduceLeDiff, Nat.reduceEqDiff, Nat.le_refl, not_false_eq_true, not_true_eq_false, false_implies, true_implies, forall_const, true_and, and_true, if_true, if_false, implies_true, and_self, ne_eq, false_and, and_false, or_false, false_or, true_or, or_true]
        have es : lvE cp (nP a) t dd f j i s = s := by unfold lvE; rw [decide_eq_false c2]; simp
        refine ih (i + 1) s _ (by omega) A h1 h2 (fun M' A' k' e' => go M' A' k' ?_)
        rw [e']
        show _ = if lp l (i + 1) (lvE cp (nP a) t dd f j i s) (lvE cp (nP a) t dd f j) = true then _ else _
        rw [es]
    · simp (disch := first | omega | rfl | (repeat' (first | exact gS_sI | exact gP_sI | refine Eq.trans gS_sI ?_ | refine Eq.trans gP_sI ?_ | refine Eq.trans (gIr_sI (by omega)) ?_ | rfl))) only [q_aload0, q_aload0N, q_iload1, q_iload2, q_invv2, inv_1, q_put_i, pTag_1, q_get_i, pRf_s, q_if_ne, q_iload3, q_iconst, q_bipush, q_invs3_20, q_if_eq, q_iload4, q_ic_ge, q_nop, q_if_le, q_iret, q_invv0, q_istore5, q_iload5, q_get_r, q_ic_ne, q_goto, q_iast, q_iinc5, q_iald, q_istore6, q_iload6, q_ic_eq, q_istore7, q_iload7, q_isub, q_imul, q_iadd, q_ic_lt, q_iinc7, q_iinc6, q_ic_le, e_126_0, e_126_1, e_126_2, e_126_3, e_126_5, e_126_6, e_126_7, e_126_10, e_126_12, e_126_14, e_126_15, e_126_16, e_126_17, e_126_18, e_126_21, e_126_22, e_126_23, L_0, L_1, L_2, L_12, L_99, k_some, k_none, pRm_i, pRm_r, pRm_0, pF_1, pF_2, inv_s, r1.1.k0, r1.1.k1, r1.1.k2, r1.1.k3, r1.1.k4, r1.1.k5, r1.1.k6, r1.1.k7, r1.1.k8, r1.1.k9, r1.1.k10, r1.1.k11, r1.1.k12, r1.1.k13, r1.1.p1, r1.1.p2, r1.1.p4, r1.1.p5, r1.1.p13, r1.1.p18, r1.1.p19, r1.1.p20, r1.1.p21, r1.1.p22, r1.1.p23, r1.1.p24, r1.1.p27, r1.2, hw.p, h3, i12, j12, i9, s9.k0, s9.k6, s9.k9, s9.p18, s9.p21, pIn_n, pIx_n, e1, c1, g6, gS_sI, gP_sI, gI_sI, Nat.add_left_cancel_iff, Nat.add_eq_left, Nat.left_eq_add, nN_le, nN_lt, nN_eq, nN_add, nN_mul, nN_lt0, nN_ge0, nN_gt0, nN_le0, nN_eq0, nN_eq1, nN_neN, pIn_n, pIx_n, eq_self, Nat.reduceLT, Bool.false_eq_true, Nat.add_zero, Nat.zero_add, Nat.reduceAdd, Nat.reduceMul, Nat.reduceSub, Nat.zero_le, Nat.reduceLeDiff, Nat.reduceEqDiff, Nat.le_refl, not_false_eq_true, not_true_eq_false, false_implies, true_implies, forall_const, true_and, and_true, if_true, if_false, implies_true, and_self, ne_eq, false_and, and_false, or_false, false_or, true_or, or_true]
      have fi : ¬ f i = nN dd := by
        by_cases ij : i = j
        · subst ij
          rw [hf]
          intro z
          exact absurd z.symm (by rw [nN_neN (by omega)]; exact not_false)
        · rw [← h1 i (by omega) ij]; exact c1
      have es : lvE cp (nP a) t dd f j i s = s := by unfold lvE; rw [decide_eq_false fi]; simp
      refine ih (i + 1) s _ (by omega) A h1 h2 (fun M' A' k' e' => go M' A' k' ?_)
      rw [e']
      show _ = if lp l (i + 1) (lvE cp (nP a) t dd f j i s) (lvE cp (nP a) t dd f j) = true then _ else _
      rw [es]
/-- one round -/
theorem lv_round (hr : MR M u a) (hw : Wf a) (hc : CpM M u (nP a) cp) (hdd : dd < 100) {l1 l2 l4 z7 : Option Value} (A0 : Ag (Xl9 u) M M1) (h0 : ∀ k, k < nP a → gI M1 (u + 9) k = f k) (go : ∀ M' z7, Ag (Xl9 u) M M' → (∀ k, k < nP a → gI M' (u + 9) k = lvS cp (nP a) t dd f k) → bw d 126 14 ([some (.ref u), l1, l2, some (.int t), l4, some (.int (nN (dd + 1))), some (.int (nN (nP a))), z7], [], M') Q) : bw d 126 9 ([some (.ref u), l1, l2, some (.int t), l4, some (.int (nN (dd + 1))), some (.int (nN 0)), z7], [], M1) Q := by
  have hp' := hw.p'
  refine loopR (n := nP a) (J := Option Value) (C := fun j _ z M => ([some (.ref u), l1, l2, some (.int t), l4, some (.int (nN (dd + 1))), some (.int (nN j)), z], [], M)) (f := fun _ (_ : Unit) => ()) (R := fun j _ M2 => Ag (Xl9 u) M M2 ∧ ∀ k, k < nP a → gI M2 (u + 9) k = if k < j then lvS cp (nP a) t dd f k else f k) ?_ (nP a) 0 () z7 M1 (by omega) ⟨A0, fun k hk => by rw [if_neg (by omega)]; exact h0 k hk⟩ ?_
  · rintro j _ z M2 hj ⟨A2, e2⟩ go2
    have r2 := hr.ag A2 Xl9_1
    have s9 := r2.1
    have h3 : ¬ nP a ≤ j := by omega
    have j12 : j < 12 := by omega
    have gj : gI M2 (u + 9) j = f j := by rw [e2 j hj, if_neg (by omega)]
    rw [e_126_9]
    by_cases c : f j = iN (-1)
    · simp (disch := first | omega | rfl | (repeat' (first | exact gS_sI | exact gP_sI | refine Eq.trans gS_sI ?_ | refine Eq.trans gP_sI ?_ | refine Eq.trans (gIr_sI (by omega)) ?_ | rfl))) only [q_aload0, q_aload0N, q_iload1, q_iload2, q_invv2, inv_1, q_put_i, pTag_1, q_get_i, pRf_s, q_if_ne, q_iload3, q_iconst, q_bipush, q_invs3_20, q_if_eq, q_iload4, q_ic_ge, q_nop, q_if_le, q_iret, q_invv0, q_istore5, q_iload5, q_get_r, q_ic_ne, q_goto, q_iast, q_iinc5, q_iald, q_istore6, q_iload6, q_ic_eq, q_istore7, q_iload7, q_isub, q_imul, q_iadd, q_ic_lt, q_iinc7, q_iinc6, q_ic_le, e_126_0, e_126_1, e_126_2, e_126_3, e_126_5, e_126_6, e_126_7, e_126_10, e_126_12, e_126_15, e_126_16, e_126_17, e_126_18, e_126_21, e_126_22, e_126_23, L_0, L_1, L_2, L_12, L_99, k_some, k_none, pRm_i, pRm_r, pRm_0, pF_1, pF_2, inv_s, r2.1.k0, r2.1.k1, r2.1.k2, r2.1.k3, r2.1.k4, r2.1.k5, r2.1.k6, r2.1.k7, r2.1.k8, r2.1.k9, r2.1.k10, r2.1.k11, r2.1.k12, r2.1.k13, r2.1.p1, r2.1.p2, r2.1.p4, r2.1.p5, r2.1.p13, r2.1.p18, r2.1.p19, r2.1.p20, r2.1.p21, r2.1.p22, r2.1.p23, r2.1.p24, r2.1.p27, r2.2, hw.p, h3, j12, s9.k0, s9.k9, s9.p21, pIn_n, pIx_n, gj, c, gS_sI, gP_sI, gI_sI, Nat.add_left_cancel_iff, Nat.add_eq_left, Nat.left_eq_add, nN_le, nN_lt, nN_eq, nN_add, nN_mul, nN_lt0, nN_ge0, nN_gt0, nN_le0, nN_eq0, nN_eq1, nN_neN, pIn_n, pIx_n, eq_self, Nat.reduceLT, Bool.false_eq_true, Nat.add_zero, Nat.zero_add, Nat.reduceAdd, Nat.reduceMul, Nat.reduceSub, Nat.zero_le, Nat.reduceLeDiff, Nat.reduceEqDiff, Nat.le_refl, not_false_eq_true, not_true_eq_false, false_implies, true_implies, forall_const, true_and, and_true, if_true, if_false, implies_true, and_self, ne_eq, false_and, and_false, or_false, false_or, true_or, or_true]
      have base : ∀ k, k < nP a → k ≠ j → (gI M2 (u + 9) k = nN dd) = (f k = nN dd) := by
        intro k hk hne
        rw [e2 k hk]
        split
        · unfold lvS
          split
          · rename_i h1 h2
            rw [h2.1]
            refine propext ⟨fun z => absurd z (by rw [nN_eq (by omega) (by omega)]; omega), fun z => absurd z.symm (by rw [nN_neN (by omega)]; exact not_false)⟩
          · rfl
        · rfl
      refine lv_in (dd := dd) hr hw hc hj hdd c (nP a) 0 false M2 (by omega) A2 base (by rw [gj, c]; rfl) ?_
      intro M3 A3 k3 e3
      rw [e_126_13]
      simp (disch := omega) only [q_aload0, q_aload0N, q_iload1, q_iload2, q_invv2, inv_1, q_put_i, pTag_1, q_get_i, pRf_s, q_if_ne, q_iload3, q_iconst, q_bipush, q_invs3_20, q_if_eq, q_iload4, q_ic_ge, q_nop, q_if_le, q_iret, q_invv0, q_istore5, q_iload5, q_get_r, q_ic_ne, q_goto, q_iast, q_iinc5, q_iald, q_istore6, q_iload6, q_ic_eq, q_istore7, q_iload7, q_isub, q_imul, q_iadd, q_ic_lt, q_iinc7, q_iinc6, q_ic_le, e_126_0, e_126_1, e_126_2, e_126_3, e_126_5, e_126_6, e_126_7, e_126_10, e_126_12, e_126_13, e_126_15, e_126_16, e_126_17, e_126_18, e_126_21, e_126_22, e_126_23, L_0, L_1, L_2, L_12, L_99, k_some, k_none, pRm_i, pRm_r, pRm_0, pF_1, pF_2, inv_s, nN_le, nN_lt, nN_eq, nN_add, nN_mul, nN_lt0, nN_ge0, nN_gt0, nN_le0, nN_eq0, nN_eq1, nN_neN, pIn_n, pIx_n, eq_self, Nat.reduceLT, Bool.false_eq_true, Nat.add_zero, Nat.zero_add, Nat.reduceAdd, Nat.reduceMul, Nat.reduceSub, Nat.zero_le, Nat.reduceLeDiff, Nat.reduceEqDiff, Nat.le_refl, not_false_eq_true, not_true_eq_false, false_implies, true_implies, forall_const, true_and, and_true, if_true, if_false, implies_true, and_self, ne_eq, false_and, and_false, or_false, false_or, true_or, or_true]
      refine go2 M3 _ ⟨A3, fun k hk => ?_⟩
      by_cases e : k = j
      · subst e
        rw [if_pos (show k < k + 1 by omega), e3]
        unfold lvS
        by_cases c9 : lp (nP a) 0 false (lvE cp (nP a) t dd f k) = true
        · rw [if_pos c9, if_pos ⟨c, c9⟩]
        · rw [if_neg c9, if_neg (fun z => c9 z.2)]; exact c.symm
      · rw [k3 k e, e2 k hk]
        by_cases c8 : k < j
        · rw [if_pos c8, if_pos (by omega)]
        · rw [if_neg c8, if_neg (by omega)]
    · simp (disch := first | omega | rfl | (repeat' (first | exact gS_sI | exact gP_sI | refine Eq.trans gS_sI ?_ | refine Eq.trans gP_sI ?_ | refine Eq.trans (gIr_sI (by omega)) ?_ | rfl))) only [q_aload0, q_aload0N, q_iload1, q_iload2, q_invv2, inv_1, q_put_i, pTag_1, q_get_i, pRf_s, q_if_ne, q_iload3, q_iconst, q_bipush, q_invs3_20, q_if_eq, q_iload4, q_ic_ge, q_nop, q_if_le, q_iret, q_invv0, q_istore5, q_iload5, q_get_r, q_ic_ne, q_goto, q_iast, q_iinc5, q_iald, q_istore6, q_iload6, q_ic_eq, q_istore7, q_iload7, q_isub, q_imul, q_iadd, q_ic_lt, q_iinc7, q_iinc6, q_ic_le, e_126_0, e_126_1, e_126_2, e_126_3, e_126_5, e_126_6, e_126_7, e_126_10, e_126_12, e_126_13, e_126_15, e_126_16, e_126_17, e_126_18, e_126_21, e_126_22, e_126_23, L_0, L_1, L_2, L_12, L_99, k_some, k_none, pRm_i, pRm_r, pRm_0, pF_1, pF_2, inv_s, r2.1.k0, r2.1.k1, r2.1.k2, r2.1.k3, r2.1.k4, r2.1.k5, r2.1.k6, r2.1.k7, r2.1.k8, r2.1.k9, r2.1.k10, r2.1.k11, r2.1.k12, r2.1.k13, r2.1.p1, r2.1.p2, r2.1.p4, r2.1.p5, r2.1.p13, r2.1.p18, r2.1.p19, r2.1.p20, r2.1.p21, r2.1.p22, r2.1.p23, r2.1.p24, r2.1.p27, r2.2, hw.p, h3, j12, s9.k0, s9.k9, s9.p21, pIn_n, pIx_n, gj, c, gS_sI, gP_sI, gI_sI, Nat.add_left_cancel_iff, Nat.add_eq_left, Nat.left_eq_add, nN_le, nN_lt, nN_eq, nN_add, nN_mul, nN_lt0, nN_ge0, nN_gt0, nN_le0, nN_eq0, nN_eq1, nN_neN, pIn_n, pIx_n, eq_self, Nat.reduceLT, Bool.false_eq_true, Nat.add_zero, Nat.zero_add, Nat.reduceAdd, Nat.reduceMul, Nat.reduceSub, Nat.zero_le, Nat.reduceLeDiff, Nat.reduceEqDiff, Nat.le_refl, not_false_eq_true, not_true_eq_false, false_implies, true_implies, forall_const, true_and, and_true, if_true, if_false, implies_true, and_self, ne_eq, false_and, and_false, or_false, false_or, true_or, or_true]
      refine go2 M2 _ ⟨A2, fun k hk => ?_⟩
      rw [e2 k hk]
      by_cases e : k = j
      · subst e
        rw [if_neg (by omega), if_pos (by omega)]
        unfold lvS
        rw [if_neg (fun z => c z.1)]
      · by_cases c8 : k < j
        · rw [if_pos c8, if_pos (by omega)]
        · rw [if_neg c8, if_neg (by omega)]
  · rintro M2 z ⟨A2, e2⟩
    have r2 := hr.ag A2 Xl9_1
    rw [e_126_9]
    simp (disch := first | omega | rfl | (repeat' (first | exact gS_sI | exact gP_sI | refine Eq.trans gS_sI ?_ | refine Eq.trans gP_sI ?_ | refine Eq.trans (gIr_sI (by omega)) ?_ | rfl))) only [q_aload0, q_aload0N, q_iload1, q_iload2, q_invv2, inv_1, q_put_i, pTag_1, q_get_i, pRf_s, q_if_ne, q_iload3, q_iconst, q_bipush, q_invs3_20, q_if_eq, q_iload4, q_ic_ge, q_nop, q_if_le, q_iret, q_invv0, q_istore5, q_iload5, q_get_r, q_ic_ne, q_goto, q_iast, q_iinc5, q_iald, q_istore6, q_iload6, q_ic_eq, q_istore7, q_iload7, q_isub, q_imul, q_iadd, q_ic_lt, q_iinc7, q_iinc6, q_ic_le, e_126_0, e_126_1, e_126_2, e_126_3, e_126_5, e_126_6, e_126_7, e_126_10, e_126_12, e_126_15, e_126_16, e_126_17, e_126_18, e_126_21, e_126_22, e_126_23, L_0, L_1, L_2, L_12, L_99, k_some, k_none, pRm_i, pRm_r, pRm_0, pF_1, pF_2, inv_s, r2.1.k0, r2.1.k1, r2.1.k2, r2.1.k3, r2.1.k4, r2.1.k5, r2.1.k6, r2.1.k7, r2.1.k8, r2.1.k9, r2.1.k10, r2.1.k11, r2.1.k12, r2.1.k13, r2.1.p1, r2.1.p2, r2.1.p4, r2.1.p5, r2.1.p13, r2.1.p18, r2.1.p19, r2.1.p20, r2.1.p21, r2.1.p22, r2.1.p23, r2.1.p24, r2.1.p27, r2.2, hw.p, nN_le, nN_lt, nN_eq, nN_add, nN_mul, nN_lt0, nN_ge0, nN_gt0, nN_le0, nN_eq0, nN_eq1, nN_neN, pIn_n, pIx_n, eq_self, Nat.reduceLT, Bool.false_eq_true, Nat.add_zero, Nat.zero_add, Nat.reduceAdd, Nat.reduceMul, Nat.reduceSub, Nat.zero_le, Nat.reduceLeDiff, Nat.reduceEqDiff, Nat.le_refl, not_false_eq_true, not_true_eq_false, false_implies, true_implies, forall_const, true_and, and_true, if_true, if_false, implies_true, and_self, ne_eq, false_and, and_false, or_false, false_or, true_or, or_true]
    exact go M2 z A2 (fun k hk => by rw [e2 k hk, if_pos hk])
def lvF (cp : Nat → Int32) (n : Nat) (t : Int32) (y : Nat) : Nat → Int32 := lp (n - 1) 0 (lv0 y) (fun dd f => lvS cp n t dd f)
/-- all levels -/
theorem lv_all (hr : MR M u a) (hw : Wf a) (hc : CpM M u (nP a) cp) (hy : y < nP a) {l1 l4 z6 z7 : Option Value} (go : ∀ M' z5 z6 z7, Ag (Xl9 u) M M' → (∀ k, k < nP a → gI M' (u + 9) k = lvF cp (nP a) t y k) → bw d 126 15 ([some (.ref u), l1, some (.int (nN y)), some (.int t), l4, z5, z6, z7], [], M') Q) : bw d 126 4 ([some (.ref u), l1, some (.int (nN y)), some (.int t), l4, some (.int (nN 0)), z6, z7], [], M) Q := by
  have hp' := hw.p'
  refine loopR (n := 12) (J := Unit) (C := fun j _ _ M => ([some (.ref u), l1, some (.int (nN y)), some (.int t), l4, some (.int (nN j)), z6, z7], [], M)) (f := fun _ (_ : Unit) => ()) (R := fun j _ M2 => Ag (Xl9 u) M M2 ∧ ∀ k, k < j → gI M2 (u + 9) k = lv0 y k) ?_ 12 0 () () M (by omega) ⟨Ag.rfl, fun k hk => absurd hk (by omega)⟩ ?_
  · rintro j _ _ M2 hj ⟨A2, e2⟩ go2
    have s9 := (hr.ag A2 Xl9_1).1
    have h3 : ¬ 12 ≤ j := by omega
    have put : ∀ v, v = lv0 y j → Ag (Xl9 u) M (sI M2 (u + 9) j v) ∧ ∀ k, k < j + 1 → gI (sI M2 (u + 9) j v) (u + 9) k = lv0 y k := by
      intro v hv
      refine ⟨Ag.put A2 rfl, fun k hk => ?_⟩
      rw [gI_sI]
      by_cases e : k = j
      · rw [if_pos ⟨rfl, e⟩, hv, e]
      · rw [if_neg (fun z => e z.2)]; exact e2 k (by omega)
    rw [e_126_4]
    by_cases c : j = y
    · have fin := put (nN 0) (by unfold lv0; rw [if_pos c])
      subst c
      simp (disch := omega) only [q_aload0, q_aload0N, q_iload1, q_iload2, q_invv2, inv_1, q_put_i, pTag_1, q_get_i, pRf_s, q_if_ne, q_iload3, q_iconst, q_bipush, q_invs3_20, q_if_eq, q_iload4, q_ic_ge, q_nop, q_if_le, q_iret, q_invv0, q_istore5, q_iload5, q_get_r, q_ic_ne, q_goto, q_iast, q_iinc5, q_iald, q_istore6, q_iload6, q_ic_eq, q_istore7, q_iload7, q_isub, q_imul, q_iadd, q_ic_lt, q_iinc7, q_iinc6, q_ic_le, e_126_0, e_126_1, e_126_2, e_126_3, e_126_5, e_126_6, e_126_7, e_126_10, e_126_12, e_126_13, e_126_16, e_126_17, e_126_18, e_126_21, e_126_22, e_126_23, L_0, L_1, L_2, L_12, L_99, k_some, k_none, pRm_i, pRm_r, pRm_0, pF_1, pF_2, inv_s, h3, hj, s9.k0, s9.k9, s9.p21, pIn_n, pIx_n, gS_sI, gP_sI, gI_sI, Nat.add_left_cancel_iff, Nat.add_eq_left, Nat.left_eq_add, nN_le, nN_lt, nN_eq, nN_add, nN_mul, nN_lt0, nN_ge0, nN_gt0, nN_le0, nN_eq0, nN_eq1, nN_neN, pIn_n, pIx_n, eq_self, Nat.reduceLT, Bool.false_eq_true, Nat.add_zero, Nat.zero_add, Nat.reduceAdd, Nat.reduceMul, Nat.reduceSub, Nat.zero_le, Nat.reduceLeDiff, Nat.reduceEqDiff, Nat.le_refl, not_false_eq_true, not_true_eq_false, false_implies, true_implies, forall_const, true_and, and_true, if_true, if_false, implies_true, and_self, ne_eq, false_and, and_false, or_false, false_or, true_or, or_true]
      exact go2 _ () fin
    · have fin := put (iN (-1)) (by unfold lv0; rw [if_neg c])
      simp (disch := omega) only [q_aload0, q_aload0N, q_iload1, q_iload2, q_invv2, inv_1, q_put_i, pTag_1, q_get_i, pRf_s, q_if_ne, q_iload3, q_iconst, q_bipush, q_invs3_20, q_if_eq, q_iload4, q_ic_ge, q_nop, q_if_le, q_iret, q_invv0, q_istore5, q_iload5, q_get_r, q_ic_ne, q_goto, q_iast, q_iinc5, q_iald, q_istore6, q_iload6, q_ic_eq, q_istore7, q_iload7, q_isub, q_imul, q_iadd, q_ic_lt, q_iinc7, q_iinc6, q_ic_le, e_126_0, e_126_1, e_126_2, e_126_3, e_126_5, e_126_6, e_126_7, e_126_10, e_126_12, e_126_13, e_126_16, e_126_17, e_126_18, e_126_21, e_126_22, e_126_23, L_0, L_1, L_2, L_12, L_99, k_some, k_none, pRm_i, pRm_r, pRm_0, pF_1, pF_2, inv_s, h3, hj, c, s9.k0, s9.k9, s9.p21, pIn_n, pIx_n, gS_sI, gP_sI, gI_sI, Nat.add_left_cancel_iff, Nat.add_eq_left, Nat.left_eq_add, nN_le, nN_lt, nN_eq, nN_add, nN_mul, nN_lt0, nN_ge0, nN_gt0, nN_le0, nN_eq0, nN_eq1, nN_neN, pIn_n, pIx_n, eq_self, Nat.reduceLT, Bool.false_eq_true, Nat.add_zero, Nat.zero_add, Nat.reduceAdd, Nat.reduceMul, Nat.reduceSub, Nat.zero_le, Nat.reduceLeDiff, Nat.reduceEqDiff, Nat.le_refl, not_false_eq_true, not_true_eq_false, false_implies, true_implies, forall_const, true_and, and_true, if_true, if_false, implies_true, and_self, ne_eq, false_and, and_false, or_false, false_or, true_or, or_true]
      exact go2 _ () fin
  · rintro M2 _ ⟨A2, e2⟩
    rw [e_126_4]
    simp (disch := omega) only [q_aload0, q_aload0N, q_iload1, q_iload2, q_invv2, inv_1, q_put_i, pTag_1, q_get_i, pRf_s, q_if_ne, q_iload3, q_iconst, q_bipush, q_invs3_20, q_if_eq, q_iload4, q_ic_ge, q_nop, q_if_le, q_iret, q_invv0, q_istore5, q_iload5, q_get_r, q_ic_ne, q_goto, q_iast, q_iinc5, q_iald, q_istore6, q_iload6, q_ic_eq, q_istore7, q_iload7, q_isub, q_imul, q_iadd, q_ic_lt, q_iinc7, q_iinc6, q_ic_le, e_126_0, e_126_1, e_126_2, e_126_3, e_126_5, e_126_6, e_126_7, e_126_10, e_126_12, e_126_13, e_126_16, e_126_17, e_126_18, e_126_21, e_126_22, e_126_23, L_0, L_1, L_2, L_12, L_99, k_some, k_none, pRm_i, pRm_r, pRm_0, pF_1, pF_2, inv_s, nN_le, nN_lt, nN_eq, nN_add, nN_mul, nN_lt0, nN_ge0, nN_gt0, nN_le0, nN_eq0, nN_eq1, nN_neN, pIn_n, pIx_n, eq_self, Nat.reduceLT, Bool.false_eq_true, Nat.add_zero, Nat.zero_add, Nat.reduceAdd, Nat.reduceMul, Nat.reduceSub, Nat.zero_le, Nat.reduceLeDiff, Nat.reduceEqDiff, Nat.le_refl, not_false_eq_true, not_true_eq_false, false_implies, true_implies, forall_const, true_and, and_true, if_true, if_false, implies_true, and_self, ne_eq, false_and, and_false, or_false, false_or, true_or, or_true]
    refine loopR (n := nP a - 1) (J := Option Value × Option Value) (C := fun dd _ z M => ([some (.ref u), l1, some (.int (nN y)), some (.int t), l4, some (.int (nN (dd + 1))), z.1, z.2], [], M)) (f := fun dd (f : Nat → Int32) => lvS cp (nP a) t dd f) (R := fun dd f M3 => Ag (Xl9 u) M M3 ∧ ∀ k, k < nP a → gI M3 (u + 9) k = f k) ?_ (nP a - 1) 0 (lv0 y) (z6, z7) M2 (by omega) ⟨A2, fun k hk => e2 k (by omega)⟩ ?_
    · rintro dd f ⟨z6, z7⟩ M3 hd ⟨A3, e3⟩ go2
      have r3 := hr.ag A3 Xl9_1
      have h3 : ¬ nP a ≤ dd + 1 := by omega
      rw [e_126_8]
      simp (disch := first | omega | rfl | (repeat' (first | exact gS_sI | exact gP_sI | refine Eq.trans gS_sI ?_ | refine Eq.trans gP_sI ?_ | refine Eq.trans (gIr_sI (by omega)) ?_ | rfl))) only [q_aload0, q_aload0N, q_iload1, q_iload2, q_invv2, inv_1, q_put_i, pTag_1, q_get_i, pRf_s, q_if_ne, q_iload3, q_iconst, q_bipush, q_invs3_20, q_if_eq, q_iload4, q_ic_ge, q_nop, q_if_le, q_iret, q_invv0, q_istore5, q_iload5, q_get_r, q_ic_ne, q_goto, q_iast, q_iinc5, q_iald, q_istore6, q_iload6, q_ic_eq, q_istore7, q_iload7, q_isub, q_imul, q_iadd, q_ic_lt, q_iinc7, q_iinc6, q_ic_le, e_126_0, e_126_1, e_126_2, e_126_3, e_126_5, e_126_6, e_126_7, e_126_10, e_126_12, e_126_13, e_126_16, e_126_17, e_126_18, e_126_21, e_126_22, e_126_23, L_0, L_1, L_2, L_12, L_99, k_some, k_none, pRm_i, pRm_r, pRm_0, pF_1, pF_2, inv_s, r3.1.k0, r3.1.k1, r3.1.k2, r3.1.k3, r3.1.k4, r3.1.k5, r3.1.k6, r3.1.k7, r3.1.k8, r3.1.k9, r3.1.k10, r3.1.k11, r3.1.k12, r3.1.k13, r3.1.p1, r3.1.p2, r3.1.p4, r3.1.p5, r3.1.p13, r3.1.p18, r3.1.p19, r3.1.p20, r3.1.p21, r3.1.p22, r3.1.p23, r3.1.p24, r3.1.p27, r3.2, hw.p, h3, nN_le, nN_lt, nN_eq, nN_add, nN_mul, nN_lt0, nN_ge0, nN_gt0, nN_le0, nN_eq0, nN_eq1, nN_neN, pIn_n, pIx_n, eq_self, Nat.reduceLT, Bool.false_eq_true, Nat.add_zero, Nat.zero_add, Nat.reduceAdd, Nat.reduceMul, Nat.reduceSub, Nat.zero_le, Nat.reduceLeDiff, Nat.reduceEqDiff, Nat.le_refl, not_false_eq_true, not_true_eq_false, false_implies, true_implies, forall_const, true_and, and_true, if_true, if_false, implies_true, and_self, ne_eq, false_and, and_false, or_false, false_or, true_or, or_true]
      refine lv_round (dd := dd) hr hw hc (by omega) A3 e3 ?_
      intro M4 z7 A4 e4
      rw [e_126_14]
      simp (disch := omega) only [q_aload0, q_aload0N, q_iload1, q_iload2, q_invv2, inv_1, q_put_i, pTag_1, q_get_i, pRf_s, q_if_ne, q_iload3, q_iconst, q_bipush, q_invs3_20, q_if_eq, q_iload4, q_ic_ge, q_nop, q_if_le, q_iret, q_invv0, q_istore5, q_iload5, q_get_r, q_ic_ne, q_goto, q_iast, q_iinc5, q_iald, q_istore6, q_iload6, q_ic_eq, q_istore7, q_iload7, q_isub, q_imul, q_iadd, q_ic_lt, q_iinc7, q_iinc6, q_ic_le, e_126_0, e_126_1, e_126_2, e_126_3, e_126_5, e_126_6, e_126_7, e_126_10, e_126_12, e_126_13, e_126_16, e_126_17, e_126_18, e_126_21, e_126_22, e_126_23, L_0, L_1, L_2, L_12, L_99, k_some, k_none, pRm_i, pRm_r, pRm_0, pF_1, pF_2, inv_s, nN_le, nN_lt, nN_eq, nN_add, nN_mul, nN_lt0, nN_ge0, nN_gt0, nN_le0, nN_eq0, nN_eq1, nN_neN, pIn_n, pIx_n, eq_self, Nat.reduceLT, Bool.false_eq_true, Nat.add_zero, Nat.zero_add, Nat.reduceAdd, Nat.reduceMul, Nat.reduceSub, Nat.zero_le, Nat.reduceLeDiff, Nat.reduceEqDiff, Nat.le_refl, not_false_eq_true, not_true_eq_false, false_implies, true_implies, forall_const, true_and, and_true, if_true, if_false, implies_true, and_self, ne_eq, false_and, and_false, or_false, false_or, true_or, or_true]
      exact go2 M4 (_, z7) ⟨A4, e4⟩
    · rintro M3 ⟨z6, z7⟩ ⟨A3, e3⟩
      have r3 := hr.ag A3 Xl9_1
      have h3 : nP a ≤ nP a - 1 + 1 := by omega
      rw [e_126_8]
      simp (disch := first | omega | rfl | (repeat' (first | exact gS_sI | exact gP_sI | refine Eq.trans gS_sI ?_ | refine Eq.trans gP_sI ?_ | refine Eq.trans (gIr_sI (by omega)) ?_ | rfl))) only [q_aload0, q_aload0N, q_iload1, q_iload2, q_invv2, inv_1, q_put_i, pTag_1, q_get_i, pRf_s, q_if_ne, q_iload3, q_iconst, q_bipush, q_invs3_20, q_if_eq, q_iload4, q_ic_ge, q_nop, q_if_le, q_iret, q_invv0, q_istore5, q_iload5, q_get_r, q_ic_ne, q_goto, q_iast, q_iinc5, q_iald, q_istore6, q_iload6, q_ic_eq, q_istore7, q_iload7, q_isub, q_imul, q_iadd, q_ic_lt, q_iinc7, q_iinc6, q_ic_le, e_126_0, e_126_1, e_126_2, e_126_3, e_126_5, e_126_6, e_126_7, e_126_10, e_126_12, e_126_13, e_126_16, e_126_17, e_126_18, e_126_21, e_126_22, e_126_23, L_0, L_1, L_2, L_12, L_99, k_some, k_none, pRm_i, pRm_r, pRm_0, pF_1, pF_2, inv_s, r3.1.k0, r3.1.k1, r3.1.k2, r3.1.k3, r3.1.k4, r3.1.k5, r3.1.k6, r3.1.k7, r3.1.k8, r3.1.k9, r3.1.k10, r3.1.k11, r3.1.k12, r3.1.k13, r3.1.p1, r3.1.p2, r3.1.p4, r3.1.p5, r3.1.p13, r3.1.p18, r3.1.p19, r3.1.p20, r3.1.p21, r3.1.p22, r3.1.p23, r3.1.p24, r3.1.p27, r3.2, hw.p, h3, nN_le, nN_lt, nN_eq, nN_add, nN_mul, nN_lt0, nN_ge0, nN_gt0, nN_le0, nN_eq0, nN_eq1, nN_neN, pIn_n, pIx_n, eq_self, Nat.reduceLT, Bool.false_eq_true, Nat.add_zero, Nat.zero_add, Nat.reduceAdd, Nat.reduceMul, Nat.reduceSub, Nat.zero_le, Nat.reduceLeDiff, Nat.reduceEqDiff, Nat.le_refl, not_false_eq_true, not_true_eq_false, false_implies, true_implies, forall_const, true_and, and_true, if_true, if_false, implies_true, and_self, ne_eq, false_and, and_false, or_false, false_or, true_or, or_true]
      exact go M3 _ _ _ A3 e3
end LVM
