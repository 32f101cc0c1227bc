/-! THE TAPE -/
theorem and_255 {x : Int32} : ∃ m, m < 256 ∧ x &&& nN 255 = nN m := by
  refine ⟨(x.toBitVec &&& 255#32).toNat, ?_, ?_⟩
  · rw [BitVec.toNat_and]
    exact Nat.lt_of_le_of_lt Nat.and_le_right (by decide)
  · apply Int32.toBitVec_inj.mp
    rw [Int32.toBitVec_and, nN_bv, nN_bv, BitVec.ofNat_toNat]
    simp
theorem bv_byte {x : BitVec 32} {s : Nat} (hs : s ≤ 24) : x.sshiftRight s &&& 255#32 = x >>> s &&& 255#32 := by
  apply BitVec.eq_of_getLsbD_eq
  intro i hi
  rw [BitVec.getLsbD_and, BitVec.getLsbD_and]
  by_cases c : i < 8
  · rw [BitVec.getLsbD_sshiftRight, BitVec.getLsbD_ushiftRight]
    have h1 : ¬ 32 ≤ i := by omega
    have h2 : s + i < 32 := by omega
    simp [h1, h2]
  · have : (255#32).getLsbD i = false := by
      have : i = 8 ∨ i = 9 ∨ i = 10 ∨ i = 11 ∨ i = 12 ∨ i = 13 ∨ i = 14 ∨ i = 15 ∨ i = 16 ∨ i = 17 ∨ i = 18 ∨ i = 19 ∨ i = 20 ∨ i = 21 ∨ i = 22 ∨ i = 23 ∨ i = 24 ∨ i = 25 ∨ i = 26 ∨ i = 27 ∨ i = 28 ∨ i = 29 ∨ i = 30 ∨ i = 31 := by omega
      rcases this with rfl | rfl | rfl | rfl | rfl | rfl | rfl | rfl | rfl | rfl | rfl | rfl | rfl | rfl | rfl | rfl | rfl | rfl | rfl | rfl | rfl | rfl | rfl | rfl <;> decide
    rw [this, Bool.and_false, Bool.and_false]
theorem shr_byte {v : Int32} {s : Nat} (hs : s ≤ 24) : ((v.toUInt32 >>> ((nN s).toUInt32 &&& Int32.toUInt32 31)).toInt32 &&& nN 255) = (v >>> (nN s &&& 31)) &&& nN 255 := by
  rw [nN_31 (by omega)]
  apply Int32.toBitVec_inj.mp
  rw [Int32.toBitVec_and, Int32.toBitVec_and, Int32.toBitVec_shiftRight, nN_bv, nN_bv, smod_32 ⟨s, by omega⟩]
  show _ = v.toBitVec.sshiftRight (BitVec.ofNat 32 s).toNat &&& _
  rw [BitVec.toNat_ofNat, Nat.mod_eq_of_lt (by omega)]
  refine Eq.trans ?_ (bv_byte hs).symm
  simp [nN_bv]
  rw [show s % 4294967296 &&& 31 = s from by
    rw [Nat.mod_eq_of_lt (by omega)]
    have := Nat.and_two_pow_sub_one_eq_mod s 5
    simp at this
    omega, Nat.mod_eq_of_lt (by omega)]
def fB (v : Int32) (j : Nat) : Nat := ((v >>> (nN (24 - 8 * j) &&& 31)) &&& nN 255).toInt.toNat
theorem fB_ok {v : Int32} {j : Nat} : fB v j < 256 ∧ (v >>> (nN (24 - 8 * j) &&& 31)) &&& nN 255 = nN (fB v j) := by
  obtain ⟨m, h1, h2⟩ := and_255 (x := v >>> (nN (24 - 8 * j) &&& 31))
  have : fB v j = m := by unfold fB; rw [h2, nN_toInt (by omega)]; omega
  rw [this]
  exact ⟨h1, h2⟩
theorem s24 : nN 24 + iN (-8) = nN 16 := by decide +kernel
theorem s16 : nN 16 + iN (-8) = nN 8 := by decide +kernel
theorem s8 : nN 8 + iN (-8) = nN 0 := by decide +kernel
theorem s0 : (nN 0 + iN (-8) < 0) = True := eq_true (by decide +kernel)
section FD
variable {d n m : Nat} {a a' ak : Nat → Int32} {img : Bool} {b : Nat → Nat} {fl : Int32} {M M1 M2 M' : pMem} {Q : pOut → pMem → Prop} {x y z v : Int32} {p q f g k t s : Nat}
theorem w_tapeAdd (k1 : gS M 1 = (6, 0)) (q1 : gP M 1 0 = some 2) (k2 : gS M 2 = (100, 400)) (hn : gI M 1 1 = nN m) (hm : m + 4 ≤ 400) : mw (d + 3) 198 [.ref 1, .int v] M (fun o M' => o = .inl none ∧ Ag (fun h k => (h = 1 ∧ k = 1) ∨ h = 2) M M' ∧ gI M' 1 1 = nN (m + 4) ∧ ∀ k, gI M' 2 k = if m ≤ k ∧ k < m + 4 then nN (fB v (k - m)) else gI M 2 k) := by
  have e3 : (nN 24 < 0) = False := nN_lt0 (by omega)
  have b0 := (fB_ok (v := v) (j := 0)).2
  have b1 := (fB_ok (v := v) (j := 1)).2
  have b2 := (fB_ok (v := v) (j := 2)).2
  have b3 := (fB_ok (v := v) (j := 3)).2
  simp only [Nat.mul_zero, Nat.sub_zero, Nat.mul_one, Nat.reduceMul, Nat.reduceSub] at b0 b1 b2 b3
  have h21 : (1 : Nat) ≠ 2 := by omega
  have h12 : (2 : Nat) ≠ 1 := by omega
  simp (disch := omega) only [m_198, q_bipush, q_istore2, q_nop, q_iload2, q_if_lt, q_aload0, q_aload0N, q_get_r, pTag_1, pRf_s, q_get_i, q_iload1, q_ishr, q_sipush, q_iand, q_invs3_21, q_dup_i, q_dup_r, q_iconst, q_iadd, q_put_i, q_iinc2, q_goto, q_vret, e_198_0, e_198_2, L_1, L_24, L_255, k_some, k_none, pRm_i, pRm_r, pRm_0, pF_1, pF_2, inv_s]
  rw [e_198_1]
  simp (disch := first | omega | rfl | (repeat' (first | exact gS_sI | exact gP_sI | refine Eq.trans gS_sI ?_ | refine Eq.trans gP_sI ?_))) only [q_bipush, q_istore2, q_nop, q_iload2, q_if_lt, q_aload0, q_aload0N, q_get_r, pTag_1, pRf_s, q_get_i, q_iload1, q_ishr, q_sipush, q_iand, q_invs3_21, q_dup_i, q_dup_r, q_iconst, q_iadd, q_put_i, q_iinc2, q_goto, q_vret, e_198_0, e_198_2, L_1, L_24, L_255, k_some, k_none, pRm_i, pRm_r, pRm_0, pF_1, pF_2, inv_s, k1, q1, hn, w_putS k2, b0, s24, gS_sI, gP_sI, gI_sI, Nat.add_left_cancel_iff, Nat.add_eq_left, Nat.left_eq_add, nN_le, nN_lt, nN_eq, nN_add, nN_mul, nN_lt0, nN_ge0, nN_gt0, nN_le0, nN_eq0, nN_eq1, nN_neN, pIn_n, pIx_n, eq_self, Nat.reduceLT, Bool.false_eq_true, Nat.add_zero, Nat.zero_add, Nat.reduceAdd, Nat.reduceMul, Nat.reduceSub, Nat.zero_le, Nat.reduceLeDiff, Nat.reduceEqDiff, Nat.le_refl, not_false_eq_true, not_true_eq_false, false_implies, true_implies, forall_const, true_and, and_true, if_true, if_false, implies_true, and_self, ne_eq, false_and, and_false, or_false, false_or, true_or, or_true, h21, h12]
  rw [e_198_1]
  simp (disch := first | omega | rfl | (repeat' (first | exact gS_sI | exact gP_sI | refine Eq.trans gS_sI ?_ | refine Eq.trans gP_sI ?_))) only [q_bipush, q_istore2, q_nop, q_iload2, q_if_lt, q_aload0, q_aload0N, q_get_r, pTag_1, pRf_s, q_get_i, q_iload1, q_ishr, q_sipush, q_iand, q_invs3_21, q_dup_i, q_dup_r, q_iconst, q_iadd, q_put_i, q_iinc2, q_goto, q_vret, e_198_0, e_198_2, L_1, L_24, L_255, k_some, k_none, pRm_i, pRm_r, pRm_0, pF_1, pF_2, inv_s, k1, q1, hn, w_putS k2, b1, s16, gS_sI, gP_sI, gI_sI, Nat.add_left_cancel_iff, Nat.add_eq_left, Nat.left_eq_add, nN_le, nN_lt, nN_eq, nN_add, nN_mul, nN_lt0, nN_ge0, nN_gt0, nN_le0, nN_eq0, nN_eq1, nN_neN, pIn_n, pIx_n, eq_self, Nat.reduceLT, Bool.false_eq_true, Nat.add_zero, Nat.zero_add, Nat.reduceAdd, Nat.reduceMul, Nat.reduceSub, Nat.zero_le, Nat.reduceLeDiff, Nat.reduceEqDiff, Nat.le_refl, not_false_eq_true, not_true_eq_false, false_implies, true_implies, forall_const, true_and, and_true, if_true, if_false, implies_true, and_self, ne_eq, false_and, and_false, or_false, false_or, true_or, or_true, h21, h12]
  rw [e_198_1]
  simp (disch := first | omega | rfl | (repeat' (first | exact gS_sI | exact gP_sI | refine Eq.trans gS_sI ?_ | refine Eq.trans gP_sI ?_))) only [q_bipush, q_istore2, q_nop, q_iload2, q_if_lt, q_aload0, q_aload0N, q_get_r, pTag_1, pRf_s, q_get_i, q_iload1, q_ishr, q_sipush, q_iand, q_invs3_21, q_dup_i, q_dup_r, q_iconst, q_iadd, q_put_i, q_iinc2, q_goto, q_vret, e_198_0, e_198_2, L_1, L_24, L_255, k_some, k_none, pRm_i, pRm_r, pRm_0, pF_1, pF_2, inv_s, k1, q1, hn, w_putS k2, b2, s8, gS_sI, gP_sI, gI_sI, Nat.add_left_cancel_iff, Nat.add_eq_left, Nat.left_eq_add, nN_le, nN_lt, nN_eq, nN_add, nN_mul, nN_lt0, nN_ge0, nN_gt0, nN_le0, nN_eq0, nN_eq1, nN_neN, pIn_n, pIx_n, eq_self, Nat.reduceLT, Bool.false_eq_true, Nat.add_zero, Nat.zero_add, Nat.reduceAdd, Nat.reduceMul, Nat.reduceSub, Nat.zero_le, Nat.reduceLeDiff, Nat.reduceEqDiff, Nat.le_refl, not_false_eq_true, not_true_eq_false, false_implies, true_implies, forall_const, true_and, and_true, if_true, if_false, implies_true, and_self, ne_eq, false_and, and_false, or_false, false_or, true_or, or_true, h21, h12]
  rw [e_198_1]
  simp (disch := first | omega | rfl | (repeat' (first | exact gS_sI | exact gP_sI | refine Eq.trans gS_sI ?_ | refine Eq.trans gP_sI ?_))) only [q_bipush, q_istore2, q_nop, q_iload2, q_if_lt, q_aload0, q_aload0N, q_get_r, pTag_1, pRf_s, q_get_i, q_iload1, q_ishr, q_sipush, q_iand, q_invs3_21, q_dup_i, q_dup_r, q_iconst, q_iadd, q_put_i, q_iinc2, q_goto, q_vret, e_198_0, e_198_2, L_1, L_24, L_255, k_some, k_none, pRm_i, pRm_r, pRm_0, pF_1, pF_2, inv_s, k1, q1, hn, w_putS k2, b3, gS_sI, gP_sI, gI_sI, Nat.add_left_cancel_iff, Nat.add_eq_left, Nat.left_eq_add, nN_le, nN_lt, nN_eq, nN_add, nN_mul, nN_lt0, nN_ge0, nN_gt0, nN_le0, nN_eq0, nN_eq1, nN_neN, pIn_n, pIx_n, eq_self, Nat.reduceLT, Bool.false_eq_true, Nat.add_zero, Nat.zero_add, Nat.reduceAdd, Nat.reduceMul, Nat.reduceSub, Nat.zero_le, Nat.reduceLeDiff, Nat.reduceEqDiff, Nat.le_refl, not_false_eq_true, not_true_eq_false, false_implies, true_implies, forall_const, true_and, and_true, if_true, if_false, implies_true, and_self, ne_eq, false_and, and_false, or_false, false_or, true_or, or_true, h21, h12]
  rw [e_198_1]
  simp (disch := first | omega | rfl | (repeat' (first | exact gS_sI | exact gP_sI | refine Eq.trans gS_sI ?_ | refine Eq.trans gP_sI ?_))) only [q_bipush, q_istore2, q_nop, q_iload2, q_if_lt, q_aload0, q_aload0N, q_get_r, pTag_1, pRf_s, q_get_i, q_iload1, q_ishr, q_sipush, q_iand, q_invs3_21, q_dup_i, q_dup_r, q_iconst, q_iadd, q_put_i, q_iinc2, q_goto, q_vret, e_198_0, e_198_2, L_1, L_24, L_255, k_some, k_none, pRm_i, pRm_r, pRm_0, pF_1, pF_2, inv_s, s0, gS_sI, gP_sI, gI_sI, Nat.add_left_cancel_iff, Nat.add_eq_left, Nat.left_eq_add, nN_le, nN_lt, nN_eq, nN_add, nN_mul, nN_lt0, nN_ge0, nN_gt0, nN_le0, nN_eq0, nN_eq1, nN_neN, pIn_n, pIx_n, eq_self, Nat.reduceLT, Bool.false_eq_true, Nat.add_zero, Nat.zero_add, Nat.reduceAdd, Nat.reduceMul, Nat.reduceSub, Nat.zero_le, Nat.reduceLeDiff, Nat.reduceEqDiff, Nat.le_refl, not_false_eq_true, not_true_eq_false, false_implies, true_implies, forall_const, true_and, and_true, if_true, if_false, implies_true, and_self, ne_eq, false_and, and_false, or_false, false_or, true_or, or_true, h21, h12]
  refine ⟨?_, ?_⟩
  · exact Ag.put (Ag.put (Ag.put (Ag.put (Ag.put (Ag.put (Ag.put (Ag.one (Or.inr rfl)) (Or.inl ⟨rfl, rfl⟩)) (Or.inr rfl)) (Or.inl ⟨rfl, rfl⟩)) (Or.inr rfl)) (Or.inl ⟨rfl, rfl⟩)) (Or.inr rfl)) (Or.inl ⟨rfl, rfl⟩)
  · intro k
    by_cases c : m ≤ k ∧ k < m + 4
    · rw [if_pos c]
      obtain ⟨i, rfl⟩ : ∃ i, k = m + i := ⟨k - m, by omega⟩
      have : i = 0 ∨ i = 1 ∨ i = 2 ∨ i = 3 := by omega
      rcases this with rfl | rfl | rfl | rfl
      · simp only [Nat.add_zero, Nat.sub_self]
        rw [if_neg (by omega), if_neg (by omega), if_neg (by omega), if_pos trivial]
      · simp [gI_sI]
      · simp [gI_sI]
      · simp [gI_sI]
    · rw [if_neg c]
      have d0 : ¬ k = m := by omega
      have d1 : ¬ k = m + 1 := by omega
      have d2 : ¬ k = m + 2 := by omega
      have d3 : ¬ k = m + 3 := by omega
      simp [gI_sI, d0, d1, d2, d3]
end FD
