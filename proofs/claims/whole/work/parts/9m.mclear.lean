/-! clear: the model -/
def XRm (u h k : Nat) : Prop := h = u + 10 ∨ h = u + 11 ∨ h = u + 12 ∨ (h = u ∧ k = 25)
def BsM (M : pMem) (u : Nat) (a : Nat → Int32) (s : tO) : Prop := gI M u 25 = iN s.1 ∧ (0 ≤ s.1 → ∀ k, k < nR a → gI M (u + 12) k = nN (s.2 k))
section MCL
variable {d t u n p q f g m e K k dd bl x y i h L v r l used dn sum j : Nat} {b : Nat → Nat} {a a' ak : Nat → Int32} {c c2 : Nat → Nat} {o : Nat → Nat} {s : tO} {img : Bool} {fl : Int32} {M M1 M' : pMem} {Q : pOut → pMem → Prop} {w z : Int32}
theorem XRm_1 (k : Nat) : ¬ XRm u (u + 1) k := by rintro (z | z | z | z) <;> omega
theorem w_orders (hw : Wf a) (hd : Rd a) : ∀ (j dn : Nat) (c : Nat → Nat) (used sum : Nat) (o : Nat → Nat) (s : tO) (M : pMem), MR M u a → OwC M (u + 10) (nP a) c → (∀ p, c p < 4000) → TrC M (u + 11) dn o → BsM M u a s → dn + j = nR a → used < 256 → sum ≤ 24000 * dn → -1 ≤ s.1 ∧ s.1 ≤ 200000 → mw (d + j + 3) 130 [.ref u, .int (nN dn), .int (nN used), .int (nN sum)] M (fun o' M' => o' = .inl none ∧ OwC M' (u + 10) (nP a) c ∧ TrC M' (u + 11) dn o ∧ BsM M' u a (mO a j c dn used sum o s) ∧ Ag (XRm u) M M') := by
  have hR := hw.r'
  have hR5 := hw.r
  intro j
  induction j with
  | zero =>
    intro dn c used sum o s M hm ow hc tr bs hj hu hs hb
    have s9 := hm.1
    have c1 : dn = nR a := by omega
    have g4 := bs.1
    have ev : mO a 0 c dn used sum o s = if s.1 < (sum : Int) then ((sum : Int), o) else s := rfl
    have eS : (iN s.1 < nN sum) = (s.1 < (sum : Int)) := propext (iN_lt ⟨by omega, by omega⟩ (sm_n (by omega)))
    rw [ev]
    by_cases b : s.1 < (sum : Int)
    · rw [if_pos b]
      have b2 : iN s.1 < nN sum := by rw [eS]; exact b
      simp (disch := omega) only [m_130, q_iload1, q_aload0, q_aload0N, q_get_r, pTag_1, pRf_s, q_iconst, q_iald, q_ic_ne, q_iload3, q_get_i, q_ic_gt, q_vret, q_put_i, q_istore4, q_nop, q_iload4, q_ic_ge, q_iast, q_iinc4, q_goto, q_iload2, q_ishr, q_iand, q_invv1, inv_1, q_istore5, q_iadd, q_ishl, q_ior, q_iload5, q_bipush, q_imul, q_invv3, q_invv2, e_130_0, e_130_1, e_130_3, e_130_4, e_130_6, e_130_7, e_130_8, L_0, L_1, L_5, L_7, L_82, k_some, k_none, pRm_i, pRm_r, pRm_0, pF_1, pF_2, inv_s, hm.1.k0, hm.1.k1, hm.1.k2, hm.1.k3, hm.1.k4, hm.1.k5, hm.1.k6, hm.1.k7, hm.1.k8, hm.1.k9, hm.1.k10, hm.1.k11, hm.1.k12, hm.1.k13, hm.1.p1, hm.1.p2, hm.1.p4, hm.1.p5, hm.1.p13, hm.1.p18, hm.1.p19, hm.1.p20, hm.1.p21, hm.1.p22, hm.1.p23, hm.1.p24, hm.1.p27, hm.2, hR5, c1, g4, b2, gS_sI, gP_sI, gI_sI, Nat.add_left_cancel_iff, Nat.add_eq_left, Nat.left_eq_add, nN_le, nN_lt, nN_eq, nN_add, nN_mul, nN_lt0, nN_ge0, nN_gt0, nN_le0, nN_eq0, nN_eq1, nN_neN, pIn_n, pIx_n, eq_self, Nat.reduceLT, Bool.false_eq_true, Nat.add_zero, Nat.zero_add, Nat.reduceAdd, Nat.reduceMul, Nat.reduceSub, Nat.zero_le, Nat.reduceLeDiff, Nat.reduceEqDiff, Nat.le_refl, not_false_eq_true, not_true_eq_false, false_implies, true_implies, forall_const, true_and, and_true, if_true, if_false, implies_true, and_self, ne_eq, false_and, and_false, or_false, false_or, true_or, or_true]
      refine loopR (n := nR a) (J := Unit) (C := fun k _ _ M => ([some (.ref u), some (.int (nN (nR a))), some (.int (nN used)), some (.int (nN sum)), some (.int (nN k)), none], [], M)) (f := fun _ (_ : Unit) => ()) (R := fun k _ M1 => Ag (XRm u) M M1 ∧ gI M1 u 25 = nN sum ∧ (∀ p, gI M1 (u + 10) p = gI M (u + 10) p) ∧ (∀ p, gI M1 (u + 11) p = gI M (u + 11) p) ∧ ∀ p, p < k → gI M1 (u + 12) p = nN (o p)) ?_ (nR a) 0 () () _ (by omega) ⟨Ag.one (Or.inr (Or.inr (Or.inr ⟨rfl, rfl⟩))), by rw [gI_sI, if_pos ⟨rfl, rfl⟩], fun p => by rw [gI_sI, if_neg (by omega)], fun p => by rw [gI_sI, if_neg (by omega)], fun p hp => absurd hp (by omega)⟩ ?_
      · rintro k _ _ M1 hk ⟨A1, n1, e10, e11, e12⟩ go
        have m1 := hm.ag A1 XRm_1
        have s1 := m1.1
        have c9 : ¬ nR a ≤ k := by omega
        have k8 : k < 8 := by omega
        have gk : gI M1 (u + 11) k = nN (o k) := by rw [e11]; exact tr k (by omega)
        rw [e_130_2]
        simp (disch := omega) only [q_iload1, q_aload0, q_aload0N, q_get_r, pTag_1, pRf_s, q_iconst, q_iald, q_ic_ne, q_iload3, q_get_i, q_ic_gt, q_vret, q_put_i, q_istore4, q_nop, q_iload4, q_ic_ge, q_iast, q_iinc4, q_goto, q_iload2, q_ishr, q_iand, q_invv1, inv_1, q_istore5, q_iadd, q_ishl, q_ior, q_iload5, q_bipush, q_imul, q_invv3, q_invv2, e_130_0, e_130_1, e_130_3, e_130_4, e_130_6, e_130_7, e_130_8, L_0, L_1, L_5, L_7, L_82, k_some, k_none, pRm_i, pRm_r, pRm_0, pF_1, pF_2, inv_s, s1.k0, s1.k11, s1.k12, s1.p23, s1.p24, c9, k8, gk, pIn_n, pIx_n, gS_sI, gP_sI, gI_sI, Nat.add_left_cancel_iff, Nat.add_eq_left, Nat.left_eq_add, nN_le, nN_lt, nN_eq, nN_add, nN_mul, nN_lt0, nN_ge0, nN_gt0, nN_le0, nN_eq0, nN_eq1, nN_neN, pIn_n, pIx_n, eq_self, Nat.reduceLT, Bool.false_eq_true, Nat.add_zero, Nat.zero_add, Nat.reduceAdd, Nat.reduceMul, Nat.reduceSub, Nat.zero_le, Nat.reduceLeDiff, Nat.reduceEqDiff, Nat.le_refl, not_false_eq_true, not_true_eq_false, false_implies, true_implies, forall_const, true_and, and_true, if_true, if_false, implies_true, and_self, ne_eq, false_and, and_false, or_false, false_or, true_or, or_true]
        refine go _ () ⟨Ag.put A1 (Or.inr (Or.inr (Or.inl rfl))), by rw [gI_sI, if_neg (by omega)]; exact n1, fun p => by rw [gI_sI, if_neg (by omega)]; exact e10 p, fun p => by rw [gI_sI, if_neg (by omega)]; exact e11 p, fun p hp => ?_⟩
        rw [gI_sI]
        by_cases e : p = k
        · rw [if_pos ⟨rfl, e⟩, e]
        · rw [if_neg (fun z => e z.2)]; exact e12 p (by omega)
      · rintro M1 _ ⟨A1, n1, e10, e11, e12⟩
        rw [e_130_2]
        simp (disch := omega) only [q_iload1, q_aload0, q_aload0N, q_get_r, pTag_1, pRf_s, q_iconst, q_iald, q_ic_ne, q_iload3, q_get_i, q_ic_gt, q_vret, q_put_i, q_istore4, q_nop, q_iload4, q_ic_ge, q_iast, q_iinc4, q_goto, q_iload2, q_ishr, q_iand, q_invv1, inv_1, q_istore5, q_iadd, q_ishl, q_ior, q_iload5, q_bipush, q_imul, q_invv3, q_invv2, e_130_0, e_130_1, e_130_3, e_130_4, e_130_6, e_130_7, e_130_8, L_0, L_1, L_5, L_7, L_82, k_some, k_none, pRm_i, pRm_r, pRm_0, pF_1, pF_2, inv_s, nN_le, nN_lt, nN_eq, nN_add, nN_mul, nN_lt0, nN_ge0, nN_gt0, nN_le0, nN_eq0, nN_eq1, nN_neN, pIn_n, pIx_n, eq_self, Nat.reduceLT, Bool.false_eq_true, Nat.add_zero, Nat.zero_add, Nat.reduceAdd, Nat.reduceMul, Nat.reduceSub, Nat.zero_le, Nat.reduceLeDiff, Nat.reduceEqDiff, Nat.le_refl, not_false_eq_true, not_true_eq_false, false_implies, true_implies, forall_const, true_and, and_true, if_true, if_false, implies_true, and_self, ne_eq, false_and, and_false, or_false, false_or, true_or, or_true]
        exact ⟨fun i j h1 h2 => by rw [e10]; exact ow i j h1 h2, fun k hk => by rw [e11]; exact tr k (by omega), ⟨n1, fun _ k hk => e12 k hk⟩, A1⟩
    · rw [if_neg b]
      have b2 : ¬ iN s.1 < nN sum := by rw [eS]; exact b
      simp (disch := omega) only [m_130, q_iload1, q_aload0, q_aload0N, q_get_r, pTag_1, pRf_s, q_iconst, q_iald, q_ic_ne, q_iload3, q_get_i, q_ic_gt, q_vret, q_put_i, q_istore4, q_nop, q_iload4, q_ic_ge, q_iast, q_iinc4, q_goto, q_iload2, q_ishr, q_iand, q_invv1, inv_1, q_istore5, q_iadd, q_ishl, q_ior, q_iload5, q_bipush, q_imul, q_invv3, q_invv2, e_130_0, e_130_1, e_130_3, e_130_4, e_130_6, e_130_7, e_130_8, L_0, L_1, L_5, L_7, L_82, k_some, k_none, pRm_i, pRm_r, pRm_0, pF_1, pF_2, inv_s, hm.1.k0, hm.1.k1, hm.1.k2, hm.1.k3, hm.1.k4, hm.1.k5, hm.1.k6, hm.1.k7, hm.1.k8, hm.1.k9, hm.1.k10, hm.1.k11, hm.1.k12, hm.1.k13, hm.1.p1, hm.1.p2, hm.1.p4, hm.1.p5, hm.1.p13, hm.1.p18, hm.1.p19, hm.1.p20, hm.1.p21, hm.1.p22, hm.1.p23, hm.1.p24, hm.1.p27, hm.2, hR5, c1, g4, b2, gS_sI, gP_sI, gI_sI, Nat.add_left_cancel_iff, Nat.add_eq_left, Nat.left_eq_add, nN_le, nN_lt, nN_eq, nN_add, nN_mul, nN_lt0, nN_ge0, nN_gt0, nN_le0, nN_eq0, nN_eq1, nN_neN, pIn_n, pIx_n, eq_self, Nat.reduceLT, Bool.false_eq_true, Nat.add_zero, Nat.zero_add, Nat.reduceAdd, Nat.reduceMul, Nat.reduceSub, Nat.zero_le, Nat.reduceLeDiff, Nat.reduceEqDiff, Nat.le_refl, not_false_eq_true, not_true_eq_false, false_implies, true_implies, forall_const, true_and, and_true, if_true, if_false, implies_true, and_self, ne_eq, false_and, and_false, or_false, false_or, true_or, or_true]
      exact ⟨ow, fun k hk => tr k (by omega), bs, Ag.rfl⟩
  | succ j ih =>
    intro dn c used sum o s M hm ow hc tr bs hj hu hs hb
    have s9 := hm.1
    have c1 : ¬ dn = nR a := by omega
    have ev : mO a (j + 1) c dn used sum o s = lp (nR a) 0 s (fun r s => if used.testBit r = true then s else mO a j (tkE a r (rL a c r) c) (dn + 1) (used ||| 1 <<< r) (sum + rL a c r * rZ a r) (fun k => if k = dn then r else o k) s) := rfl
    rw [ev, show d + (j + 1) + 3 = (d + j + 3) + 1 from by omega]
    simp (disch := omega) only [m_130, q_iload1, q_aload0, q_aload0N, q_get_r, pTag_1, pRf_s, q_iconst, q_iald, q_ic_ne, q_iload3, q_get_i, q_ic_gt, q_vret, q_put_i, q_istore4, q_nop, q_iload4, q_ic_ge, q_iast, q_iinc4, q_goto, q_iload2, q_ishr, q_iand, q_invv1, inv_1, q_istore5, q_iadd, q_ishl, q_ior, q_iload5, q_bipush, q_imul, q_invv3, q_invv2, e_130_0, e_130_1, e_130_3, e_130_4, e_130_6, e_130_7, e_130_8, L_0, L_1, L_5, L_7, L_82, k_some, k_none, pRm_i, pRm_r, pRm_0, pF_1, pF_2, inv_s, hm.1.k0, hm.1.k1, hm.1.k2, hm.1.k3, hm.1.k4, hm.1.k5, hm.1.k6, hm.1.k7, hm.1.k8, hm.1.k9, hm.1.k10, hm.1.k11, hm.1.k12, hm.1.k13, hm.1.p1, hm.1.p2, hm.1.p4, hm.1.p5, hm.1.p13, hm.1.p18, hm.1.p19, hm.1.p20, hm.1.p21, hm.1.p22, hm.1.p23, hm.1.p24, hm.1.p27, hm.2, hR5, c1, gS_sI, gP_sI, gI_sI, Nat.add_left_cancel_iff, Nat.add_eq_left, Nat.left_eq_add, nN_le, nN_lt, nN_eq, nN_add, nN_mul, nN_lt0, nN_ge0, nN_gt0, nN_le0, nN_eq0, nN_eq1, nN_neN, pIn_n, pIx_n, eq_self, Nat.reduceLT, Bool.false_eq_true, Nat.add_zero, Nat.zero_add, Nat.reduceAdd, Nat.reduceMul, Nat.reduceSub, Nat.zero_le, Nat.reduceLeDiff, Nat.reduceEqDiff, Nat.le_refl, not_false_eq_true, not_true_eq_false, false_implies, true_implies, forall_const, true_and, and_true, if_true, if_false, implies_true, and_self, ne_eq, false_and, and_false, or_false, false_or, true_or, or_true]
    refine loopR (n := nR a) (J := Option Value) (C := fun r _ z M => ([some (.ref u), some (.int (nN dn)), some (.int (nN used)), some (.int (nN sum)), some (.int (nN r)), z], [], M)) (f := fun r s => if used.testBit r = true then s else mO a j (tkE a r (rL a c r) c) (dn + 1) (used ||| 1 <<< r) (sum + rL a c r * rZ a r) (fun k => if k = dn then r else o k) s) (R := fun r s M1 => (OwC M1 (u + 10) (nP a) c ∧ TrC M1 (u + 11) dn o) ∧ (BsM M1 u a s ∧ -1 ≤ s.1 ∧ s.1 ≤ 200000) ∧ Ag (XRm u) M M1) ?_ (nR a) 0 s none M (by omega) ⟨⟨ow, tr⟩, ⟨bs, hb⟩, Ag.rfl⟩ ?_
    · rintro r s1 z M1 hr ⟨⟨o1, t1⟩, ⟨bs1, hb1⟩, A1⟩ go
      obtain ⟨h1, h2, h3, h4⟩ := rg_ok hw hr
      have m1 := hm.ag A1 XRm_1
      have r1 := m1.1
      have c9 : ¬ nR a ≤ r := by omega
      have c8 : dn < 8 := by omega
      have bt := bit_nN (s := used) (h := r) (by omega) (by omega)
      rw [e_130_5]
      by_cases bu : used.testBit r = true
      · rw [if_pos bu] at go
        rw [bu] at bt
        simp (disch := omega) only [q_iload1, q_aload0, q_aload0N, q_get_r, pTag_1, pRf_s, q_iconst, q_iald, q_ic_ne, q_iload3, q_get_i, q_ic_gt, q_vret, q_put_i, q_istore4, q_nop, q_iload4, q_ic_ge, q_iast, q_iinc4, q_goto, q_iload2, q_ishr, q_iand, q_invv1, inv_1, q_istore5, q_iadd, q_ishl, q_ior, q_iload5, q_bipush, q_imul, q_invv3, q_invv2, e_130_0, e_130_1, e_130_3, e_130_4, e_130_6, e_130_7, e_130_8, L_0, L_1, L_5, L_7, L_82, k_some, k_none, pRm_i, pRm_r, pRm_0, pF_1, pF_2, inv_s, m1.1.k0, m1.1.k1, m1.1.k2, m1.1.k3, m1.1.k4, m1.1.k5, m1.1.k6, m1.1.k7, m1.1.k8, m1.1.k9, m1.1.k10, m1.1.k11, m1.1.k12, m1.1.k13, m1.1.p1, m1.1.p2, m1.1.p4, m1.1.p5, m1.1.p13, m1.1.p18, m1.1.p19, m1.1.p20, m1.1.p21, m1.1.p22, m1.1.p23, m1.1.p24, m1.1.p27, m1.2, hR5, c9, bt, gS_sI, gP_sI, gI_sI, Nat.add_left_cancel_iff, Nat.add_eq_left, Nat.left_eq_add, nN_le, nN_lt, nN_eq, nN_add, nN_mul, nN_lt0, nN_ge0, nN_gt0, nN_le0, nN_eq0, nN_eq1, nN_neN, pIn_n, pIx_n, eq_self, Nat.reduceLT, Bool.false_eq_true, Nat.add_zero, Nat.zero_add, Nat.reduceAdd, Nat.reduceMul, Nat.reduceSub, Nat.zero_le, Nat.reduceLeDiff, Nat.reduceEqDiff, Nat.le_refl, not_false_eq_true, not_true_eq_false, false_implies, true_implies, forall_const, true_and, and_true, if_true, if_false, implies_true, and_self, ne_eq, false_and, and_false, or_false, false_or, true_or, or_true]
        exact go M1 _ ⟨⟨o1, t1⟩, ⟨bs1, hb1⟩, A1⟩
      · rw [if_neg bu] at go
        have bt2 : ((nN used >>> (nN r &&& 31)) &&& nN 1 = nN 1) = False := by rw [bt]; exact eq_false bu
        simp (disch := omega) only [q_iload1, q_aload0, q_aload0N, q_get_r, pTag_1, pRf_s, q_iconst, q_iald, q_ic_ne, q_iload3, q_get_i, q_ic_gt, q_vret, q_put_i, q_istore4, q_nop, q_iload4, q_ic_ge, q_iast, q_iinc4, q_goto, q_iload2, q_ishr, q_iand, q_invv1, inv_1, q_istore5, q_iadd, q_ishl, q_ior, q_iload5, q_bipush, q_imul, q_invv3, q_invv2, e_130_0, e_130_1, e_130_3, e_130_4, e_130_6, e_130_7, e_130_8, L_0, L_1, L_5, L_7, L_82, k_some, k_none, pRm_i, pRm_r, pRm_0, pF_1, pF_2, inv_s, m1.1.k0, m1.1.k1, m1.1.k2, m1.1.k3, m1.1.k4, m1.1.k5, m1.1.k6, m1.1.k7, m1.1.k8, m1.1.k9, m1.1.k10, m1.1.k11, m1.1.k12, m1.1.k13, m1.1.p1, m1.1.p2, m1.1.p4, m1.1.p5, m1.1.p13, m1.1.p18, m1.1.p19, m1.1.p20, m1.1.p21, m1.1.p22, m1.1.p23, m1.1.p24, m1.1.p27, m1.2, hR5, c9, c8, bt2, pIn_n, pIx_n, gS_sI, gS_sI, gP_sI, gI_sI, Nat.add_left_cancel_iff, Nat.add_eq_left, Nat.left_eq_add, nN_le, nN_lt, nN_eq, nN_add, nN_mul, nN_lt0, nN_ge0, nN_gt0, nN_le0, nN_eq0, nN_eq1, nN_neN, pIn_n, pIx_n, eq_self, Nat.reduceLT, Bool.false_eq_true, Nat.add_zero, Nat.zero_add, Nat.reduceAdd, Nat.reduceMul, Nat.reduceSub, Nat.zero_le, Nat.reduceLeDiff, Nat.reduceEqDiff, Nat.le_refl, not_false_eq_true, not_true_eq_false, false_implies, true_implies, forall_const, true_and, and_true, if_true, if_false, implies_true, and_self, ne_eq, false_and, and_false, or_false, false_or, true_or, or_true]
        have hl : ∀ i, i < rZ a r → rL a c r ≤ c (rE a r i) := fun i hi => rL_le hi
        have hE : ∀ i, i < rZ a r → isE a r (rE a r i) = true := fun i hi => isE_iff.mpr ⟨i, hi, rfl⟩
        have lz := rLZ hw hr hc
        have mb := mO_bd hw j (tkE a r (rL a c r) c) (dn + 1) (used ||| 1 <<< r) (sum + rL a c r * rZ a r) (fun k => if k = dn then r else o k) s1 (by omega) (by omega) (tkE_lt hc) hb1
        have A2 : Ag (XRm u) M1 (sI M1 (u + 11) dn (nN r)) := Ag.one (Or.inr (Or.inl rfl))
        refine mw_mono (w_ringOf (d := d + j + 1) (m1.ag A2 XRm_1) hw hd (fun i j h1 h2 => by rw [gI_sI, if_neg (by omega)]; exact o1 i j h1 h2) hc hr) ?_
        rintro _ M2 ⟨rfl, o2, A3⟩
        generalize rL a c r = l at *
        have A3' : Ag (XRm u) (sI M1 (u + 11) dn (nN r)) M2 := A3.mono fun h k z => Or.inl z
        have A12 : Ag (XRm u) M1 M2 := A2.trans A3'
        have m2 := m1.ag A12 XRm_1
        have e23 : a (82 + 7 * r) = nN (rZ a r) := (ra_k hw hr).1
        have q0 : 82 + 7 * r < 3346 := by omega
        have e4 : nN used ||| nN 1 <<< (nN r &&& 31) = nN (used ||| 1 <<< r) := by rw [nN_shl (by omega), nN_or]
        have hu2 : used ||| 1 <<< r < 256 := by
          refine Nat.or_lt_two_pow (n := 8) hu ?_
          rw [Nat.one_shiftLeft]
          exact Nat.pow_lt_pow_right (by omega) (by omega)
        have t2 : TrC M2 (u + 11) (dn + 1) (fun k => if k = dn then r else o k) := fun k hk => by
          show gI M2 (u + 11) k = nN (if k = dn then r else o k)
          rw [A3.I (by omega), gI_sI]
          by_cases e : k = dn
          · rw [if_pos ⟨rfl, e⟩, if_pos e]
          · rw [if_neg (fun z => e z.2), if_neg e]; exact t1 k (by omega)
        have bs2 : BsM M2 u a s1 := ⟨by rw [A3.I (by omega), gI_sI, if_neg (by omega)]; exact bs1.1, fun h k hk => by rw [A3.I (by omega), gI_sI, if_neg (by omega)]; exact bs1.2 h k hk⟩
        simp (disch := omega) only [q_iload1, q_aload0, q_aload0N, q_get_r, pTag_1, pRf_s, q_iconst, q_iald, q_ic_ne, q_iload3, q_get_i, q_ic_gt, q_vret, q_put_i, q_istore4, q_nop, q_iload4, q_ic_ge, q_iast, q_iinc4, q_goto, q_iload2, q_ishr, q_iand, q_invv1, inv_1, q_istore5, q_iadd, q_ishl, q_ior, q_iload5, q_bipush, q_imul, q_invv3, q_invv2, e_130_0, e_130_1, e_130_3, e_130_4, e_130_6, e_130_7, e_130_8, L_0, L_1, L_5, L_7, L_82, k_some, k_none, pRm_i, pRm_r, pRm_0, pF_1, pF_2, inv_s, m2.1.k0, m2.1.k1, m2.1.k2, m2.1.k3, m2.1.k4, m2.1.k5, m2.1.k6, m2.1.k7, m2.1.k8, m2.1.k9, m2.1.k10, m2.1.k11, m2.1.k12, m2.1.k13, m2.1.p1, m2.1.p2, m2.1.p4, m2.1.p5, m2.1.p13, m2.1.p18, m2.1.p19, m2.1.p20, m2.1.p21, m2.1.p22, m2.1.p23, m2.1.p24, m2.1.p27, m2.2, q0, e23, e4, pIn_n, pIx_n, gS_sI, gP_sI, gI_sI, Nat.add_left_cancel_iff, Nat.add_eq_left, Nat.left_eq_add, nN_le, nN_lt, nN_eq, nN_add, nN_mul, nN_lt0, nN_ge0, nN_gt0, nN_le0, nN_eq0, nN_eq1, nN_neN, pIn_n, pIx_n, eq_self, Nat.reduceLT, Bool.false_eq_true, Nat.add_zero, Nat.zero_add, Nat.reduceAdd, Nat.reduceMul, Nat.reduceSub, Nat.zero_le, Nat.reduceLeDiff, Nat.reduceEqDiff, Nat.le_refl, not_false_eq_true, not_true_eq_false, false_implies, true_implies, forall_const, true_and, and_true, if_true, if_false, implies_true, and_self, ne_eq, false_and, and_false, or_false, false_or, true_or, or_true]
        refine mw_mono (ih (dn + 1) (tkE a r l c) (used ||| 1 <<< r) (sum + l * rZ a r) (fun k => if k = dn then r else o k) s1 M2 m2 o2 (tkE_lt hc) t2 bs2 (by omega) hu2 (by omega) hb1) ?_
        rintro _ M3 ⟨rfl, o3, t3, bs3, A4⟩
        have m3 := m2.ag A4 XRm_1
        simp (disch := omega) only [q_iload1, q_aload0, q_aload0N, q_get_r, pTag_1, pRf_s, q_iconst, q_iald, q_ic_ne, q_iload3, q_get_i, q_ic_gt, q_vret, q_put_i, q_istore4, q_nop, q_iload4, q_ic_ge, q_iast, q_iinc4, q_goto, q_iload2, q_ishr, q_iand, q_invv1, inv_1, q_istore5, q_iadd, q_ishl, q_ior, q_iload5, q_bipush, q_imul, q_invv3, q_invv2, e_130_0, e_130_1, e_130_3, e_130_4, e_130_6, e_130_7, e_130_8, L_0, L_1, L_5, L_7, L_82, k_some, k_none, pRm_i, pRm_r, pRm_0, pF_1, pF_2, inv_s, m3.1.k0, gS_sI, gP_sI, gI_sI, Nat.add_left_cancel_iff, Nat.add_eq_left, Nat.left_eq_add, nN_le, nN_lt, nN_eq, nN_add, nN_mul, nN_lt0, nN_ge0, nN_gt0, nN_le0, nN_eq0, nN_eq1, nN_neN, pIn_n, pIx_n, eq_self, Nat.reduceLT, Bool.false_eq_true, Nat.add_zero, Nat.zero_add, Nat.reduceAdd, Nat.reduceMul, Nat.reduceSub, Nat.zero_le, Nat.reduceLeDiff, Nat.reduceEqDiff, Nat.le_refl, not_false_eq_true, not_true_eq_false, false_implies, true_implies, forall_const, true_and, and_true, if_true, if_false, implies_true, and_self, ne_eq, false_and, and_false, or_false, false_or, true_or, or_true]
        refine mw_mono (w_putsBack (d := d + j + 2) (c2 := c) m3 hw hd o3 hr (fun i hi => ?_) (fun p hp => (if_neg hp).symm)) ?_
        · have := tk_b (hE i hi) (hl i hi)
          rw [Int32.neg_neg] at this
          exact this
        rintro _ M4 ⟨rfl, o4, A5⟩
        have A5' : Ag (XRm u) M3 M4 := A5.mono fun h k z => Or.inl z
        simp (disch := omega) only [q_iload1, q_aload0, q_aload0N, q_get_r, pTag_1, pRf_s, q_iconst, q_iald, q_ic_ne, q_iload3, q_get_i, q_ic_gt, q_vret, q_put_i, q_istore4, q_nop, q_iload4, q_ic_ge, q_iast, q_iinc4, q_goto, q_iload2, q_ishr, q_iand, q_invv1, inv_1, q_istore5, q_iadd, q_ishl, q_ior, q_iload5, q_bipush, q_imul, q_invv3, q_invv2, e_130_0, e_130_1, e_130_3, e_130_4, e_130_6, e_130_7, e_130_8, L_0, L_1, L_5, L_7, L_82, k_some, k_none, pRm_i, pRm_r, pRm_0, pF_1, pF_2, inv_s, nN_le, nN_lt, nN_eq, nN_add, nN_mul, nN_lt0, nN_ge0, nN_gt0, nN_le0, nN_eq0, nN_eq1, nN_neN, pIn_n, pIx_n, eq_self, Nat.reduceLT, Bool.false_eq_true, Nat.add_zero, Nat.zero_add, Nat.reduceAdd, Nat.reduceMul, Nat.reduceSub, Nat.zero_le, Nat.reduceLeDiff, Nat.reduceEqDiff, Nat.le_refl, not_false_eq_true, not_true_eq_false, false_implies, true_implies, forall_const, true_and, and_true, if_true, if_false, implies_true, and_self, ne_eq, false_and, and_false, or_false, false_or, true_or, or_true]
        refine go M4 _ ⟨⟨o4, fun k hk => ?_⟩, ⟨⟨?_, fun h k hk => ?_⟩, mb⟩, ((A1.trans A12).trans A4).trans A5'⟩
        · rw [A5.I (by omega)]
          exact (t3 k (by omega)).trans (congrArg nN (if_neg (show ¬ k = dn by omega)))
        · rw [A5.I (by omega)]; exact bs3.1
        · rw [A5.I (by omega)]; exact bs3.2 h k hk
    · rintro M1 z ⟨⟨o1, t1⟩, ⟨bs1, hb1⟩, A1⟩
      have m1 := hm.ag A1 XRm_1
      rw [e_130_5]
      simp (disch := omega) only [q_iload1, q_aload0, q_aload0N, q_get_r, pTag_1, pRf_s, q_iconst, q_iald, q_ic_ne, q_iload3, q_get_i, q_ic_gt, q_vret, q_put_i, q_istore4, q_nop, q_iload4, q_ic_ge, q_iast, q_iinc4, q_goto, q_iload2, q_ishr, q_iand, q_invv1, inv_1, q_istore5, q_iadd, q_ishl, q_ior, q_iload5, q_bipush, q_imul, q_invv3, q_invv2, e_130_0, e_130_1, e_130_3, e_130_4, e_130_6, e_130_7, e_130_8, L_0, L_1, L_5, L_7, L_82, k_some, k_none, pRm_i, pRm_r, pRm_0, pF_1, pF_2, inv_s, m1.1.k0, m1.1.k1, m1.1.k2, m1.1.k3, m1.1.k4, m1.1.k5, m1.1.k6, m1.1.k7, m1.1.k8, m1.1.k9, m1.1.k10, m1.1.k11, m1.1.k12, m1.1.k13, m1.1.p1, m1.1.p2, m1.1.p4, m1.1.p5, m1.1.p13, m1.1.p18, m1.1.p19, m1.1.p20, m1.1.p21, m1.1.p22, m1.1.p23, m1.1.p24, m1.1.p27, m1.2, hR5, gS_sI, gP_sI, gI_sI, Nat.add_left_cancel_iff, Nat.add_eq_left, Nat.left_eq_add, nN_le, nN_lt, nN_eq, nN_add, nN_mul, nN_lt0, nN_ge0, nN_gt0, nN_le0, nN_eq0, nN_eq1, nN_neN, pIn_n, pIx_n, eq_self, Nat.reduceLT, Bool.false_eq_true, Nat.add_zero, Nat.zero_add, Nat.reduceAdd, Nat.reduceMul, Nat.reduceSub, Nat.zero_le, Nat.reduceLeDiff, Nat.reduceEqDiff, Nat.le_refl, not_false_eq_true, not_true_eq_false, false_implies, true_implies, forall_const, true_and, and_true, if_true, if_false, implies_true, and_self, ne_eq, false_and, and_false, or_false, false_or, true_or, or_true]
      exact ⟨o1, t1, bs1, A1⟩
end MCL
