/-! chain: the model's answer -/
noncomputable def sChain (a : Nat → Int32) (x y : Nat) (t k : Int32) : Int32 := if lvF (cT a) (nP a) t y x = iN (-1) ∨ k = iN (-1) then lvF (cT a) (nP a) t y x else if k ≤ lvF (cT a) (nP a) t y x then nN (wkJ (cT a) (lvF (cT a) (nP a) t y) (nP a) t k.toInt.toNat x) else iN (-1)
section KCJ
variable {d u n p q f g e kk : Nat} {b : Nat → Nat} {a ak : Nat → Int32} {img : Bool} {fl z : Int32} {M M1 M' : pMem} {Q : pOut → pMem → Prop}
theorem k_chain (m : MI M u a ak img n b fl) (hw : Wg a) (hp : p < nP a) (hq : q < nP a) (hne : p ≠ q) (h1 : 1 ≤ g) (h2 : g ≤ 99) (hz : iN (-1) ≤ z) : mw (d + 75) 126 [.ref u, .int (nN p), .int (nN q), .int (nN g), .int z] M (fun o M' => KO M' u 0 (sChain a p q (nN g) z) o ∧ MI M' u a ak img n b fl ∧ Ag (XU u) M M') := by
  have s := m.mr.1
  have hm := m.mr
  have hz2 : ¬ z < iN (-1) := Int32.not_lt.mpr hz
  have i1 : nN 1 ≤ nN g ∧ nN g ≤ nN 99 := by rw [nN_le (by omega) (by omega), nN_le (by omega) (by omega)]; omega
  simp (disch := omega) only [m_126, q_aload0, q_aload0N, q_iload1, q_iload2, q_invv2, inv_1, q_put_i, pTag_1, q_get_i, pRf_s, q_if_ne, q_iload3, q_iconst, q_bipush, q_invs3_20, q_if_eq, q_iload4, q_ic_ge, q_nop, q_if_le, q_iret, q_invv0, q_istore5, q_iload5, q_get_r, q_ic_ne, q_goto, q_iast, q_iinc5, q_iald, q_istore6, q_iload6, q_ic_eq, q_istore7, q_iload7, q_isub, q_imul, q_iadd, q_ic_lt, q_iinc7, q_iinc6, q_ic_le, e_126_0, e_126_1, e_126_2, e_126_3, e_126_5, e_126_6, e_126_7, e_126_10, e_126_12, e_126_13, e_126_16, e_126_17, e_126_18, e_126_21, e_126_22, e_126_23, L_0, L_1, L_2, L_12, L_99, k_some, k_none, pRm_i, pRm_r, pRm_0, pF_1, pF_2, inv_s, s.k0, gS_sI, two_0 hm hw.1 hp hq hne, isI_t i1, hz, hz2, zb_1, gS_sI, gP_sI, gI_sI, Nat.add_left_cancel_iff, Nat.add_eq_left, Nat.left_eq_add, nN_le, nN_lt, nN_eq, nN_add, nN_mul, nN_lt0, nN_ge0, nN_gt0, nN_le0, nN_eq0, nN_eq1, nN_neN, pIn_n, pIx_n, eq_self, Nat.reduceLT, Bool.false_eq_true, Nat.add_zero, Nat.zero_add, Nat.reduceAdd, Nat.reduceMul, Nat.reduceSub, Nat.zero_le, Nat.reduceLeDiff, Nat.reduceEqDiff, Nat.le_refl, not_false_eq_true, not_true_eq_false, false_implies, true_implies, forall_const, true_and, and_true, if_true, if_false, implies_true, and_self, ne_eq, false_and, and_false, or_false, false_or, true_or, or_true]
  have hp' := hw.1.p'
  have m0 := m.th (v := nN 0)
  refine mw_mono (w_allPorts (d := d + 5) m0.mr hw) ?_
  rintro _ M1 ⟨rfl, e1, A1⟩
  simp (disch := omega) only [q_aload0, q_aload0N, q_iload1, q_iload2, q_invv2, inv_1, q_put_i, pTag_1, q_get_i, pRf_s, q_if_ne, q_iload3, q_iconst, q_bipush, q_invs3_20, q_if_eq, q_iload4, q_ic_ge, q_nop, q_if_le, q_iret, q_invv0, q_istore5, q_iload5, q_get_r, q_ic_ne, q_goto, q_iast, q_iinc5, q_iald, q_istore6, q_iload6, q_ic_eq, q_istore7, q_iload7, q_isub, q_imul, q_iadd, q_ic_lt, q_iinc7, q_iinc6, q_ic_le, e_126_0, e_126_1, e_126_2, e_126_3, e_126_5, e_126_6, e_126_7, e_126_10, e_126_12, e_126_13, e_126_16, e_126_17, e_126_18, e_126_21, e_126_22, e_126_23, L_0, L_1, L_2, L_12, L_99, k_some, k_none, pRm_i, pRm_r, pRm_0, pF_1, pF_2, inv_s, nN_le, nN_lt, nN_eq, nN_add, nN_mul, nN_lt0, nN_ge0, nN_gt0, nN_le0, nN_eq0, nN_eq1, nN_neN, pIn_n, pIx_n, eq_self, Nat.reduceLT, Bool.false_eq_true, Nat.add_zero, Nat.zero_add, Nat.reduceAdd, Nat.reduceMul, Nat.reduceSub, Nat.zero_le, Nat.reduceLeDiff, Nat.reduceEqDiff, Nat.le_refl, not_false_eq_true, not_true_eq_false, false_implies, true_implies, forall_const, true_and, and_true, if_true, if_false, implies_true, and_self, ne_eq, false_and, and_false, or_false, false_or, true_or, or_true]
  have c1 : CpM M1 u (nP a) (cT a) := fun i j hi hj => by rw [e1 i j hi hj, cT_at hp' hi hj]
  have r1 := m0.mr.ag A1 XMo_1
  refine lv_all (t := nN g) r1 hw.1 c1 hq ?_
  intro M2 z5 z6 z7 A2 hl
  have r2 := r1.ag A2 Xl9_1
  have s2 := r2.1
  have c2 := c1.ag A2 Xl9_6
  have A12 : Ag (fun h k => XMo u h k ∨ Xl9 u h k) (sI M u 0 (nN 0)) M2 := (A1.mono fun h k z => Or.inl z).trans (A2.mono fun h k z => Or.inr z)
  have g0 : gI M2 u 0 = nN 0 := by rw [A12.I (by rintro (((z | ⟨-, z⟩) | z) | z) <;> first | omega | (unfold Xl9 at z; omega)), gI_sI, if_pos ⟨rfl, rfl⟩]
  have m2 : MI M2 u a ak img n b fl := m0.go A12 (by rintro h k (((z | ⟨z, z2⟩) | z) | z) <;> first | omega | (unfold Xl9 at z; omega))
  have AU : Ag (XU u) M M2 := XU_0.trans (A12.mono (by rintro h k (((z | ⟨z, z2⟩) | z) | z) <;> first | exact ⟨by omega, by omega⟩ | (unfold Xl9 at z; exact ⟨by omega, by omega⟩)))
  have gx := hl p hp
  have p12 : p < 12 := by omega
  have I := lvF_ok (cp := cT a) (t := nN g) (y := q) hp'
  have ev : sChain a p q (nN g) z = if lvF (cT a) (nP a) (nN g) q p = iN (-1) ∨ z = iN (-1) then lvF (cT a) (nP a) (nN g) q p else if z ≤ lvF (cT a) (nP a) (nN g) q p then nN (wkJ (cT a) (lvF (cT a) (nP a) (nN g) q) (nP a) (nN g) z.toInt.toNat p) else iN (-1) := rfl
  rw [ev]
  clear ev
  generalize lvF (cT a) (nP a) (nN g) q = lv at *
  rw [e_126_15]
  by_cases d1 : lv p = iN (-1)
  · rw [if_pos (Or.inl d1)]
    simp (disch := omega) only [q_aload0, q_aload0N, q_iload1, q_iload2, q_invv2, inv_1, q_put_i, pTag_1, q_get_i, pRf_s, q_if_ne, q_iload3, q_iconst, q_bipush, q_invs3_20, q_if_eq, q_iload4, q_ic_ge, q_nop, q_if_le, q_iret, q_invv0, q_istore5, q_iload5, q_get_r, q_ic_ne, q_goto, q_iast, q_iinc5, q_iald, q_istore6, q_iload6, q_ic_eq, q_istore7, q_iload7, q_isub, q_imul, q_iadd, q_ic_lt, q_iinc7, q_iinc6, q_ic_le, e_126_0, e_126_1, e_126_2, e_126_3, e_126_5, e_126_6, e_126_7, e_126_10, e_126_12, e_126_13, e_126_16, e_126_17, e_126_18, e_126_21, e_126_22, e_126_23, L_0, L_1, L_2, L_12, L_99, k_some, k_none, pRm_i, pRm_r, pRm_0, pF_1, pF_2, inv_s, s2.k0, s2.k9, s2.p21, pIn_n, pIx_n, p12, gx, d1, nN_le, nN_lt, nN_eq, nN_add, nN_mul, nN_lt0, nN_ge0, nN_gt0, nN_le0, nN_eq0, nN_eq1, nN_neN, pIn_n, pIx_n, eq_self, Nat.reduceLT, Bool.false_eq_true, Nat.add_zero, Nat.zero_add, Nat.reduceAdd, Nat.reduceMul, Nat.reduceSub, Nat.zero_le, Nat.reduceLeDiff, Nat.reduceEqDiff, Nat.le_refl, not_false_eq_true, not_true_eq_false, false_implies, true_implies, forall_const, true_and, and_true, if_true, if_false, implies_true, and_self, ne_eq, false_and, and_false, or_false, false_or, true_or, or_true]
    exact ⟨KO.th g0 (fun _ => rfl), m2, AU⟩
  · by_cases d2 : z = iN (-1)
    · rw [if_pos (Or.inr d2)]
      simp (disch := omega) only [q_aload0, q_aload0N, q_iload1, q_iload2, q_invv2, inv_1, q_put_i, pTag_1, q_get_i, pRf_s, q_if_ne, q_iload3, q_iconst, q_bipush, q_invs3_20, q_if_eq, q_iload4, q_ic_ge, q_nop, q_if_le, q_iret, q_invv0, q_istore5, q_iload5, q_get_r, q_ic_ne, q_goto, q_iast, q_iinc5, q_iald, q_istore6, q_iload6, q_ic_eq, q_istore7, q_iload7, q_isub, q_imul, q_iadd, q_ic_lt, q_iinc7, q_iinc6, q_ic_le, e_126_0, e_126_1, e_126_2, e_126_3, e_126_5, e_126_6, e_126_7, e_126_10, e_126_12, e_126_13, e_126_16, e_126_17, e_126_18, e_126_21, e_126_22, e_126_23, L_0, L_1, L_2, L_12, L_99, k_some, k_none, pRm_i, pRm_r, pRm_0, pF_1, pF_2, inv_s, s2.k0, s2.k9, s2.p21, pIn_n, pIx_n, p12, gx, d1, d2, nN_le, nN_lt, nN_eq, nN_add, nN_mul, nN_lt0, nN_ge0, nN_gt0, nN_le0, nN_eq0, nN_eq1, nN_neN, pIn_n, pIx_n, eq_self, Nat.reduceLT, Bool.false_eq_true, Nat.add_zero, Nat.zero_add, Nat.reduceAdd, Nat.reduceMul, Nat.reduceSub, Nat.zero_le, Nat.reduceLeDiff, Nat.reduceEqDiff, Nat.le_refl, not_false_eq_true, not_true_eq_false, false_implies, true_implies, forall_const, true_and, and_true, if_true, if_false, implies_true, and_self, ne_eq, false_and, and_false, or_false, false_or, true_or, or_true]
      exact ⟨KO.th g0 (fun _ => rfl), m2, AU⟩
    · rw [if_neg (by rintro (h | h); exact d1 h; exact d2 h)]
      by_cases d3 : z ≤ lv p
      · rw [if_pos d3]
        rcases I.1 p with h | ⟨L, hL, hL2⟩
        · exact absurd h d1
        · obtain ⟨zi, hzi, rfl⟩ := iN_ex z
          rw [hL2] at d3
          have b1 := (iN_le (a := -1) ⟨by decide, by decide⟩ hzi).mp hz
          have b2 := (iN_le hzi (sm_n (a := L) (by omega))).mp d3
          have b3 : ¬ zi = -1 := fun e => d2 (by rw [e])
          have ez : iN zi = nN zi.toNat := by unfold nN; congr 1; omega
          rw [ez] at d2 d3 ⊢
          rw [nN_toInt (by omega)]
          have W := walk_k (d := d + 74) (l1 := some (.int (nN p))) (l2 := some (.int (nN q))) (Q := fun o M' => KO M' u 0 (nN (wkJ (cT a) lv (nP a) (nN g) zi.toNat p)) o ∧ MI M' u a ak img n b fl ∧ Ag (XU u) M M') r2 hw.1 c2 hl I (kk := zi.toNat) (by omega) zi.toNat 0 p L z7 (by omega) hp hL2 (by omega) (by omega)
          have d3' : nN zi.toNat ≤ lv p := by rw [hL2]; exact d3
          simp (disch := omega) only [q_aload0, q_aload0N, q_iload1, q_iload2, q_invv2, inv_1, q_put_i, pTag_1, q_get_i, pRf_s, q_if_ne, q_iload3, q_iconst, q_bipush, q_invs3_20, q_if_eq, q_iload4, q_ic_ge, q_nop, q_if_le, q_iret, q_invv0, q_istore5, q_iload5, q_get_r, q_ic_ne, q_goto, q_iast, q_iinc5, q_iald, q_istore6, q_iload6, q_ic_eq, q_istore7, q_iload7, q_isub, q_imul, q_iadd, q_ic_lt, q_iinc7, q_iinc6, q_ic_le, e_126_0, e_126_1, e_126_2, e_126_3, e_126_5, e_126_6, e_126_7, e_126_10, e_126_12, e_126_13, e_126_16, e_126_17, e_126_18, e_126_21, e_126_22, e_126_23, L_0, L_1, L_2, L_12, L_99, k_some, k_none, pRm_i, pRm_r, pRm_0, pF_1, pF_2, inv_s, s2.k0, s2.k9, s2.p21, pIn_n, pIx_n, p12, gx, d1, d2, d3', nN_le, nN_lt, nN_eq, nN_add, nN_mul, nN_lt0, nN_ge0, nN_gt0, nN_le0, nN_eq0, nN_eq1, nN_neN, pIn_n, pIx_n, eq_self, Nat.reduceLT, Bool.false_eq_true, Nat.add_zero, Nat.zero_add, Nat.reduceAdd, Nat.reduceMul, Nat.reduceSub, Nat.zero_le, Nat.reduceLeDiff, Nat.reduceEqDiff, Nat.le_refl, not_false_eq_true, not_true_eq_false, false_implies, true_implies, forall_const, true_and, and_true, if_true, if_false, implies_true, and_self, ne_eq, false_and, and_false, or_false, false_or, true_or, or_true]
          rw [show ((zi.toNat : Nat) : Int).toNat = zi.toNat from by omega, W]
          exact ⟨KO.th g0 (fun _ => rfl), m2, AU⟩
      · rw [if_neg d3]
        simp (disch := omega) only [q_aload0, q_aload0N, q_iload1, q_iload2, q_invv2, inv_1, q_put_i, pTag_1, q_get_i, pRf_s, q_if_ne, q_iload3, q_iconst, q_bipush, q_invs3_20, q_if_eq, q_iload4, q_ic_ge, q_nop, q_if_le, q_iret, q_invv0, q_istore5, q_iload5, q_get_r, q_ic_ne, q_goto, q_iast, q_iinc5, q_iald, q_istore6, q_iload6, q_ic_eq, q_istore7, q_iload7, q_isub, q_imul, q_iadd, q_ic_lt, q_iinc7, q_iinc6, q_ic_le, e_126_0, e_126_1, e_126_2, e_126_3, e_126_5, e_126_6, e_126_7, e_126_10, e_126_12, e_126_13, e_126_16, e_126_17, e_126_18, e_126_21, e_126_22, e_126_23, L_0, L_1, L_2, L_12, L_99, k_some, k_none, pRm_i, pRm_r, pRm_0, pF_1, pF_2, inv_s, s2.k0, s2.k9, s2.p21, pIn_n, pIx_n, p12, gx, d1, d2, d3, nN_le, nN_lt, nN_eq, nN_add, nN_mul, nN_lt0, nN_ge0, nN_gt0, nN_le0, nN_eq0, nN_eq1, nN_neN, pIn_n, pIx_n, eq_self, Nat.reduceLT, Bool.false_eq_true, Nat.add_zero, Nat.zero_add, Nat.reduceAdd, Nat.reduceMul, Nat.reduceSub, Nat.zero_le, Nat.reduceLeDiff, Nat.reduceEqDiff, Nat.le_refl, not_false_eq_true, not_true_eq_false, false_implies, true_implies, forall_const, true_and, and_true, if_true, if_false, implies_true, and_self, ne_eq, false_and, and_false, or_false, false_or, true_or, or_true]
        exact ⟨KO.th g0 (fun _ => rfl), m2, AU⟩
end KCJ
