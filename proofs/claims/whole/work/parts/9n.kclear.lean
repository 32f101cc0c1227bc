/-! clear: the model's answer -/
section KCL
variable {d t u n p q f g m e K k dd bl x y i h L v r l used dn sum j : Nat} {b : Nat → Nat} {a a' ak : Nat → Int32} {c c2 : Nat → Nat} {o : Nat → Nat} {s : tO} {img : Bool} {fl : Int32} {M M1 M' : pMem} {Q : pOut → pMem → Prop} {w z : Int32}
theorem k_clear (m : MI M u a ak img n b fl) (hw : Wf a) (hd : Rd a) (hz : iN (-1) ≤ z) : mw (d + 12) 131 [.ref u, .int z] M (fun o M' => KO M' u 0 (sClear a z) o ∧ MI M' u a ak img n b fl ∧ Ag (XU u) M M') := by
  have s := m.mr.1
  have hm := m.mr
  have hp' := hw.p'
  have hR := hw.r'
  have hR5 := hw.r
  have hz2 : ¬ z < iN (-1) := Int32.not_lt.mpr hz
  simp (disch := omega) only [m_131, q_aload0, q_aload0N, q_iload1, q_iconst, q_ic_ge, q_goto, q_nop, q_put_i, pTag_1, q_get_i, pRf_s, q_if_le, q_iret, q_istore2, q_iload2, q_get_r, q_iald, q_istore3, q_iload3, q_bipush, q_imul, q_iadd, q_invv2, inv_1, q_iast, q_iinc3, q_iinc2, q_invv3, q_ic_ne, e_131_0, e_131_1, e_131_2, e_131_3, e_131_6, e_131_7, e_131_10, L_0, L_1, L_5, L_12, k_some, k_none, pRm_i, pRm_r, pRm_0, pF_1, pF_2, inv_s, s.k0, gS_sI, hz, hz2, zb_0, gS_sI, gP_sI, gI_sI, Nat.add_left_cancel_iff, Nat.add_eq_left, Nat.left_eq_add, nN_le, nN_lt, nN_eq, nN_add, nN_mul, nN_lt0, nN_ge0, nN_gt0, nN_le0, nN_eq0, nN_eq1, nN_neN, pIn_n, pIx_n, eq_self, Nat.reduceLT, Bool.false_eq_true, Nat.add_zero, Nat.zero_add, Nat.reduceAdd, Nat.reduceMul, Nat.reduceSub, Nat.zero_le, Nat.reduceLeDiff, Nat.reduceEqDiff, Nat.le_refl, not_false_eq_true, not_true_eq_false, false_implies, true_implies, forall_const, true_and, and_true, if_true, if_false, implies_true, and_self, ne_eq, false_and, and_false, or_false, false_or, true_or, or_true]
  have m0 := m.th (v := nN 0)
  refine loopR (n := nP a) (J := Option Value) (C := fun i _ z9 M => ([some (.ref u), some (.int z), some (.int (nN i)), z9], [], M)) (f := fun _ (_ : Unit) => ()) (R := fun i _ M1 => Ag (XRm u) (sI M u 0 (nN 0)) M1 ∧ ∀ i' j', i' < i → j' < nP a → gI M1 (u + 10) (12 * i' + j') = nN (c0 a (12 * i' + j'))) ?_ (nP a) 0 () none _ (by omega) ⟨Ag.rfl, fun i' j' h => absurd h (by omega)⟩ ?_
  · rintro i _ z9 M1 hi ⟨A1, e1⟩ go
    have r1 := m0.mr.ag A1 XRm_1
    have h3 : ¬ nP a ≤ i := by omega
    rw [e_131_4]
    simp (disch := omega) only [q_aload0, q_aload0N, q_iload1, q_iconst, q_ic_ge, q_goto, q_nop, q_put_i, pTag_1, q_get_i, pRf_s, q_if_le, q_iret, q_istore2, q_iload2, q_get_r, q_iald, q_istore3, q_iload3, q_bipush, q_imul, q_iadd, q_invv2, inv_1, q_iast, q_iinc3, q_iinc2, q_invv3, q_ic_ne, e_131_0, e_131_1, e_131_2, e_131_3, e_131_6, e_131_7, e_131_10, L_0, L_1, L_5, L_12, k_some, k_none, pRm_i, pRm_r, pRm_0, pF_1, pF_2, inv_s, r1.1.k0, r1.1.k1, r1.1.k2, r1.1.k3, r1.1.k4, r1.1.k5, r1.1.k6, r1.1.k7, r1.1.k8, r1.1.k9, r1.1.k10, r1.1.k11, r1.1.k12, r1.1.k13, r1.1.p1, r1.1.p2, r1.1.p4, r1.1.p5, r1.1.p13, r1.1.p18, r1.1.p19, r1.1.p20, r1.1.p21, r1.1.p22, r1.1.p23, r1.1.p24, r1.1.p27, r1.2, hw.p, h3, gS_sI, gP_sI, gI_sI, Nat.add_left_cancel_iff, Nat.add_eq_left, Nat.left_eq_add, nN_le, nN_lt, nN_eq, nN_add, nN_mul, nN_lt0, nN_ge0, nN_gt0, nN_le0, nN_eq0, nN_eq1, nN_neN, pIn_n, pIx_n, eq_self, Nat.reduceLT, Bool.false_eq_true, Nat.add_zero, Nat.zero_add, Nat.reduceAdd, Nat.reduceMul, Nat.reduceSub, Nat.zero_le, Nat.reduceLeDiff, Nat.reduceEqDiff, Nat.le_refl, not_false_eq_true, not_true_eq_false, false_implies, true_implies, forall_const, true_and, and_true, if_true, if_false, implies_true, and_self, ne_eq, false_and, and_false, or_false, false_or, true_or, or_true]
    refine loopR (n := nP a) (J := Unit) (C := fun j _ _ M => ([some (.ref u), some (.int z), some (.int (nN i)), some (.int (nN j))], [], M)) (f := fun _ (_ : Unit) => ()) (R := fun j _ M1 => Ag (XRm u) (sI M u 0 (nN 0)) M1 ∧ ∀ i' j', (i' < i ∧ j' < nP a ∨ i' = i ∧ j' < j) → gI M1 (u + 10) (12 * i' + j') = nN (c0 a (12 * i' + j'))) ?_ (nP a) 0 () () M1 (by omega) ⟨A1, fun i' j' h => e1 i' j' (by omega) (by omega)⟩ ?_
    · rintro j _ _ M2 hj ⟨A2, e2⟩ go2
      have r2 := m0.mr.ag A2 XRm_1
      have h4 : ¬ nP a ≤ j := by omega
      have i9 : 12 * i + j < 144 := by omega
      have ev := c0_at (i := i) (j := j) hw (by omega)
      rw [e_131_5]
      simp (disch := omega) only [q_aload0, q_aload0N, q_iload1, q_iconst, q_ic_ge, q_goto, q_nop, q_put_i, pTag_1, q_get_i, pRf_s, q_if_le, q_iret, q_istore2, q_iload2, q_get_r, q_iald, q_istore3, q_iload3, q_bipush, q_imul, q_iadd, q_invv2, inv_1, q_iast, q_iinc3, q_iinc2, q_invv3, q_ic_ne, e_131_0, e_131_1, e_131_2, e_131_3, e_131_6, e_131_7, e_131_10, L_0, L_1, L_5, L_12, k_some, k_none, pRm_i, pRm_r, pRm_0, pF_1, pF_2, inv_s, r2.1.k0, r2.1.k1, r2.1.k2, r2.1.k3, r2.1.k4, r2.1.k5, r2.1.k6, r2.1.k7, r2.1.k8, r2.1.k9, r2.1.k10, r2.1.k11, r2.1.k12, r2.1.k13, r2.1.p1, r2.1.p2, r2.1.p4, r2.1.p5, r2.1.p13, r2.1.p18, r2.1.p19, r2.1.p20, r2.1.p21, r2.1.p22, r2.1.p23, r2.1.p24, r2.1.p27, r2.2, hw.p, h4, i9, w_owesX r2 hw rfl rfl rfl, ev, pIn_n, pIx_n, gS_sI, gP_sI, gI_sI, Nat.add_left_cancel_iff, Nat.add_eq_left, Nat.left_eq_add, nN_le, nN_lt, nN_eq, nN_add, nN_mul, nN_lt0, nN_ge0, nN_gt0, nN_le0, nN_eq0, nN_eq1, nN_neN, pIn_n, pIx_n, eq_self, Nat.reduceLT, Bool.false_eq_true, Nat.add_zero, Nat.zero_add, Nat.reduceAdd, Nat.reduceMul, Nat.reduceSub, Nat.zero_le, Nat.reduceLeDiff, Nat.reduceEqDiff, Nat.le_refl, not_false_eq_true, not_true_eq_false, false_implies, true_implies, forall_const, true_and, and_true, if_true, if_false, implies_true, and_self, ne_eq, false_and, and_false, or_false, false_or, true_or, or_true]
      refine go2 _ () ⟨Ag.put A2 (Or.inl rfl), fun i' j' h => ?_⟩
      rw [gI_sI]
      by_cases c : i' = i ∧ j' = j
      · rw [if_pos ⟨rfl, by omega⟩, c.1, c.2]
      · rw [if_neg (fun z => c (by omega))]; exact e2 i' j' (by omega)
    · rintro M2 _ ⟨A2, e2⟩
      have r2 := m0.mr.ag A2 XRm_1
      rw [e_131_5]
      simp (disch := omega) only [q_aload0, q_aload0N, q_iload1, q_iconst, q_ic_ge, q_goto, q_nop, q_put_i, pTag_1, q_get_i, pRf_s, q_if_le, q_iret, q_istore2, q_iload2, q_get_r, q_iald, q_istore3, q_iload3, q_bipush, q_imul, q_iadd, q_invv2, inv_1, q_iast, q_iinc3, q_iinc2, q_invv3, q_ic_ne, e_131_0, e_131_1, e_131_2, e_131_3, e_131_6, e_131_7, e_131_10, L_0, L_1, L_5, L_12, k_some, k_none, pRm_i, pRm_r, pRm_0, pF_1, pF_2, inv_s, r2.1.k0, r2.1.k1, r2.1.k2, r2.1.k3, r2.1.k4, r2.1.k5, r2.1.k6, r2.1.k7, r2.1.k8, r2.1.k9, r2.1.k10, r2.1.k11, r2.1.k12, r2.1.k13, r2.1.p1, r2.1.p2, r2.1.p4, r2.1.p5, r2.1.p13, r2.1.p18, r2.1.p19, r2.1.p20, r2.1.p21, r2.1.p22, r2.1.p23, r2.1.p24, r2.1.p27, r2.2, hw.p, gS_sI, gP_sI, gI_sI, Nat.add_left_cancel_iff, Nat.add_eq_left, Nat.left_eq_add, nN_le, nN_lt, nN_eq, nN_add, nN_mul, nN_lt0, nN_ge0, nN_gt0, nN_le0, nN_eq0, nN_eq1, nN_neN, pIn_n, pIx_n, eq_self, Nat.reduceLT, Bool.false_eq_true, Nat.add_zero, Nat.zero_add, Nat.reduceAdd, Nat.reduceMul, Nat.reduceSub, Nat.zero_le, Nat.reduceLeDiff, Nat.reduceEqDiff, Nat.le_refl, not_false_eq_true, not_true_eq_false, false_implies, true_implies, forall_const, true_and, and_true, if_true, if_false, implies_true, and_self, ne_eq, false_and, and_false, or_false, false_or, true_or, or_true]
      exact go M2 _ ⟨A2, fun i' j' h1 h2 => e2 i' j' (by omega)⟩
  · rintro M1 z9 ⟨A1, e1⟩
    have r1 := m0.mr.ag A1 XRm_1
    have A2 : Ag (XRm u) M1 (sI M1 u 25 (iN (-1))) := Ag.one (Or.inr (Or.inr (Or.inr ⟨rfl, rfl⟩)))
    have r2 := r1.ag A2 XRm_1
    rw [e_131_4]
    simp (disch := omega) only [q_aload0, q_aload0N, q_iload1, q_iconst, q_ic_ge, q_goto, q_nop, q_put_i, pTag_1, q_get_i, pRf_s, q_if_le, q_iret, q_istore2, q_iload2, q_get_r, q_iald, q_istore3, q_iload3, q_bipush, q_imul, q_iadd, q_invv2, inv_1, q_iast, q_iinc3, q_iinc2, q_invv3, q_ic_ne, e_131_0, e_131_1, e_131_2, e_131_3, e_131_6, e_131_7, e_131_10, L_0, L_1, L_5, L_12, k_some, k_none, pRm_i, pRm_r, pRm_0, pF_1, pF_2, inv_s, r1.1.k0, r1.1.k1, r1.1.k2, r1.1.k3, r1.1.k4, r1.1.k5, r1.1.k6, r1.1.k7, r1.1.k8, r1.1.k9, r1.1.k10, r1.1.k11, r1.1.k12, r1.1.k13, r1.1.p1, r1.1.p2, r1.1.p4, r1.1.p5, r1.1.p13, r1.1.p18, r1.1.p19, r1.1.p20, r1.1.p21, r1.1.p22, r1.1.p23, r1.1.p24, r1.1.p27, r1.2, hw.p, gS_sI, gS_sI, gP_sI, gI_sI, Nat.add_left_cancel_iff, Nat.add_eq_left, Nat.left_eq_add, nN_le, nN_lt, nN_eq, nN_add, nN_mul, nN_lt0, nN_ge0, nN_gt0, nN_le0, nN_eq0, nN_eq1, nN_neN, pIn_n, pIx_n, eq_self, Nat.reduceLT, Bool.false_eq_true, Nat.add_zero, Nat.zero_add, Nat.reduceAdd, Nat.reduceMul, Nat.reduceSub, Nat.zero_le, Nat.reduceLeDiff, Nat.reduceEqDiff, Nat.le_refl, not_false_eq_true, not_true_eq_false, false_implies, true_implies, forall_const, true_and, and_true, if_true, if_false, implies_true, and_self, ne_eq, false_and, and_false, or_false, false_or, true_or, or_true]
    rw [show d + 11 = (d + 8 - nR a) + nR a + 3 from by omega]
    refine mw_mono (w_orders hw hd (nR a) 0 (c0 a) 0 0 (fun _ => 0) (-1, fun _ => 0) (sI M1 u 25 (iN (-1))) r2 (fun i j h1 h2 => by rw [gI_sI, if_neg (by omega)]; exact e1 i j h1 h2) (c0_lt hw) (fun k hk => absurd hk (by omega)) ⟨by rw [gI_sI, if_pos ⟨rfl, rfl⟩], fun h => absurd h (by decide)⟩ (by omega) (by omega) (by omega) (by constructor <;> decide)) ?_
    rintro _ M2 ⟨rfl, o2, t2, B2, A3⟩
    have A := (A1.trans A2).trans A3
    have m3 := m0.go A (by rintro h k (z | z | z | z) <;> omega)
    have AU : Ag (XU u) M M2 := XU_0.trans (A.mono (by rintro h k (z | z | z | z) <;> exact ⟨by omega, by omega⟩))
    have g0 : gI M2 u 0 = nN 0 := by rw [A.I (by rintro (z | z | z | z) <;> omega), gI_sI, if_pos ⟨rfl, rfl⟩]
    have r3 := m3.mr
    have s3 := r3.1
    have g25 : gI M2 u 25 = iN (sClr a).1 := B2.1
    have g12 : 0 ≤ (sClr a).1 → ∀ k, k < nR a → gI M2 (u + 12) k = nN ((sClr a).2 k) := B2.2
    have ok := sClr_ok hw
    unfold sClear
    by_cases d2 : z = iN (-1)
    · subst d2
      rw [if_pos rfl]
      simp (disch := omega) only [q_aload0, q_aload0N, q_iload1, q_iconst, q_ic_ge, q_goto, q_nop, q_put_i, pTag_1, q_get_i, pRf_s, q_if_le, q_iret, q_istore2, q_iload2, q_get_r, q_iald, q_istore3, q_iload3, q_bipush, q_imul, q_iadd, q_invv2, inv_1, q_iast, q_iinc3, q_iinc2, q_invv3, q_ic_ne, e_131_0, e_131_1, e_131_2, e_131_3, e_131_6, e_131_7, e_131_8, e_131_9, e_131_10, L_0, L_1, L_5, L_12, k_some, k_none, pRm_i, pRm_r, pRm_0, pF_1, pF_2, inv_s, s3.k0, g25, nN_le, nN_lt, nN_eq, nN_add, nN_mul, nN_lt0, nN_ge0, nN_gt0, nN_le0, nN_eq0, nN_eq1, nN_neN, pIn_n, pIx_n, eq_self, Nat.reduceLT, Bool.false_eq_true, Nat.add_zero, Nat.zero_add, Nat.reduceAdd, Nat.reduceMul, Nat.reduceSub, Nat.zero_le, Nat.reduceLeDiff, Nat.reduceEqDiff, Nat.le_refl, not_false_eq_true, not_true_eq_false, false_implies, true_implies, forall_const, true_and, and_true, if_true, if_false, implies_true, and_self, ne_eq, false_and, and_false, or_false, false_or, true_or, or_true]
      exact ⟨KO.th g0 (fun _ => rfl), m3, AU⟩
    · rw [if_neg d2]
      obtain ⟨zi, hzi, rfl⟩ := iN_ex z
      have b1 := (iN_le (a := -1) ⟨by decide, by decide⟩ hzi).mp hz
      have b3 : ¬ zi = -1 := fun e => d2 (by rw [e])
      have b4 := hzi.2
      have ez : iN zi = nN zi.toNat := by unfold nN; congr 1; omega
      rw [ez] at d2 ⊢
      rw [nN_toInt (by omega), show ((zi.toNat : Nat) : Int).toNat = zi.toNat from by omega]
      by_cases d3 : nN zi.toNat < nN (nR a)
      · rw [if_pos d3]
        rw [nN_lt (by omega) (by omega)] at d3
        have d4 : ¬ nR a ≤ zi.toNat := by omega
        have d5 : zi.toNat < 8 := by omega
        have g8 := g12 ok.1 zi.toNat d3
        simp (disch := omega) only [q_aload0, q_aload0N, q_iload1, q_iconst, q_ic_ge, q_goto, q_nop, q_put_i, pTag_1, q_get_i, pRf_s, q_if_le, q_iret, q_istore2, q_iload2, q_get_r, q_iald, q_istore3, q_iload3, q_bipush, q_imul, q_iadd, q_invv2, inv_1, q_iast, q_iinc3, q_iinc2, q_invv3, q_ic_ne, e_131_0, e_131_1, e_131_2, e_131_3, e_131_6, e_131_7, e_131_8, e_131_9, e_131_10, L_0, L_1, L_5, L_12, k_some, k_none, pRm_i, pRm_r, pRm_0, pF_1, pF_2, inv_s, r3.1.k0, r3.1.k1, r3.1.k2, r3.1.k3, r3.1.k4, r3.1.k5, r3.1.k6, r3.1.k7, r3.1.k8, r3.1.k9, r3.1.k10, r3.1.k11, r3.1.k12, r3.1.k13, r3.1.p1, r3.1.p2, r3.1.p4, r3.1.p5, r3.1.p13, r3.1.p18, r3.1.p19, r3.1.p20, r3.1.p21, r3.1.p22, r3.1.p23, r3.1.p24, r3.1.p27, r3.2, d2, hR5, d4, d5, g8, pIn_n, pIx_n, nN_le, nN_lt, nN_eq, nN_add, nN_mul, nN_lt0, nN_ge0, nN_gt0, nN_le0, nN_eq0, nN_eq1, nN_neN, pIn_n, pIx_n, eq_self, Nat.reduceLT, Bool.false_eq_true, Nat.add_zero, Nat.zero_add, Nat.reduceAdd, Nat.reduceMul, Nat.reduceSub, Nat.zero_le, Nat.reduceLeDiff, Nat.reduceEqDiff, Nat.le_refl, not_false_eq_true, not_true_eq_false, false_implies, true_implies, forall_const, true_and, and_true, if_true, if_false, implies_true, and_self, ne_eq, false_and, and_false, or_false, false_or, true_or, or_true]
        exact ⟨KO.th g0 (fun _ => rfl), m3, AU⟩
      · rw [if_neg d3]
        rw [nN_lt (by omega) (by omega)] at d3
        have d4 : nR a ≤ zi.toNat := by omega
        simp (disch := omega) only [q_aload0, q_aload0N, q_iload1, q_iconst, q_ic_ge, q_goto, q_nop, q_put_i, pTag_1, q_get_i, pRf_s, q_if_le, q_iret, q_istore2, q_iload2, q_get_r, q_iald, q_istore3, q_iload3, q_bipush, q_imul, q_iadd, q_invv2, inv_1, q_iast, q_iinc3, q_iinc2, q_invv3, q_ic_ne, e_131_0, e_131_1, e_131_2, e_131_3, e_131_6, e_131_7, e_131_8, e_131_9, e_131_10, L_0, L_1, L_5, L_12, k_some, k_none, pRm_i, pRm_r, pRm_0, pF_1, pF_2, inv_s, r3.1.k0, r3.1.k1, r3.1.k2, r3.1.k3, r3.1.k4, r3.1.k5, r3.1.k6, r3.1.k7, r3.1.k8, r3.1.k9, r3.1.k10, r3.1.k11, r3.1.k12, r3.1.k13, r3.1.p1, r3.1.p2, r3.1.p4, r3.1.p5, r3.1.p13, r3.1.p18, r3.1.p19, r3.1.p20, r3.1.p21, r3.1.p22, r3.1.p23, r3.1.p24, r3.1.p27, r3.2, d2, hR5, d4, nN_le, nN_lt, nN_eq, nN_add, nN_mul, nN_lt0, nN_ge0, nN_gt0, nN_le0, nN_eq0, nN_eq1, nN_neN, pIn_n, pIx_n, eq_self, Nat.reduceLT, Bool.false_eq_true, Nat.add_zero, Nat.zero_add, Nat.reduceAdd, Nat.reduceMul, Nat.reduceSub, Nat.zero_le, Nat.reduceLeDiff, Nat.reduceEqDiff, Nat.le_refl, not_false_eq_true, not_true_eq_false, false_implies, true_implies, forall_const, true_and, and_true, if_true, if_false, implies_true, and_self, ne_eq, false_and, and_false, or_false, false_or, true_or, or_true]
        exact ⟨KO.th g0 (fun _ => rfl), m3, AU⟩
theorem k_clear_n (m : MI M u a ak img n b fl) (hz : ¬ iN (-1) ≤ z) : mw (d + 4) 131 [.ref u, .int z] M (fun o M' => KO M' u 1 0 o ∧ MI M' u a ak img n b fl ∧ Ag (XU u) M M') := by
  have s := m.mr.1
  have hz2 : z < iN (-1) := Int32.not_le.mp hz
  simp (disch := omega) only [m_131, q_aload0, q_aload0N, q_iload1, q_iconst, q_ic_ge, q_goto, q_nop, q_put_i, pTag_1, q_get_i, pRf_s, q_if_le, q_iret, q_istore2, q_iload2, q_get_r, q_iald, q_istore3, q_iload3, q_bipush, q_imul, q_iadd, q_invv2, inv_1, q_iast, q_iinc3, q_iinc2, q_invv3, q_ic_ne, e_131_0, e_131_1, e_131_2, e_131_3, e_131_6, e_131_7, e_131_10, L_0, L_1, L_5, L_12, k_some, k_none, pRm_i, pRm_r, pRm_0, pF_1, pF_2, inv_s, s.k0, gS_sI, hz, hz2, zb_1, zb_0, gS_sI, gP_sI, gI_sI, Nat.add_left_cancel_iff, Nat.add_eq_left, Nat.left_eq_add, nN_le, nN_lt, nN_eq, nN_add, nN_mul, nN_lt0, nN_ge0, nN_gt0, nN_le0, nN_eq0, nN_eq1, nN_neN, pIn_n, pIx_n, eq_self, Nat.reduceLT, Bool.false_eq_true, Nat.add_zero, Nat.zero_add, Nat.reduceAdd, Nat.reduceMul, Nat.reduceSub, Nat.zero_le, Nat.reduceLeDiff, Nat.reduceEqDiff, Nat.le_refl, not_false_eq_true, not_true_eq_false, false_implies, true_implies, forall_const, true_and, and_true, if_true, if_false, implies_true, and_self, ne_eq, false_and, and_false, or_false, false_or, true_or, or_true]
  exact ⟨KO.one.mpr (fun h => absurd h (by omega)), m.th, XU_0⟩
end KCL
