/-! play: draws, the days played; pure -/
theorem nN_div {a b : Nat} (ha : a < 2147483648) (hb : b < 2147483648) : nN a / nN b = nN (a / b) := by
  apply Int32.toInt_inj.mp
  have h : a / b ≤ a := Nat.div_le_self a b
  rw [Int32.toInt_div, nN_toInt ha, nN_toInt hb, nN_toInt (by omega)]
  rw [← Int.ofNat_tdiv]
  generalize a / b = q at *
  exact Int.bmod_eq_of_le (by omega) (by omega)
theorem nN_rem {a b : Nat} (ha : a < 2147483648) (hb : b < 2147483648) : nN a - nN a / nN b * nN b = nN (a % b) := by
  rw [nN_div ha hb, nN_mul, nN_subN (Nat.div_mul_le_self a b)]
  congr 1
  have := Nat.div_add_mod a b
  rw [Nat.mul_comm] at this
  omega
theorem and_32767 {x : Int32} : ∃ m, m < 32768 ∧ x &&& nN 32767 = nN m := by
  refine ⟨(x.toBitVec &&& 32767#32).toNat, ?_, ?_⟩
  · rw [BitVec.toNat_and]
    exact Nat.lt_of_le_of_lt Nat.and_le_right (by decide)
  · apply Int32.toBitVec_inj.mp
    rw [Int32.toBitVec_and, nN_bv, nN_bv, BitVec.ofNat_toNat]
    simp
theorem bv_hi {x : BitVec 32} : x.sshiftRight 16 &&& 32767#32 = x >>> 16 &&& 32767#32 := by
  apply BitVec.eq_of_getLsbD_eq
  intro i hi
  rw [BitVec.getLsbD_and, BitVec.getLsbD_and]
  by_cases c : i < 15
  · rw [BitVec.getLsbD_sshiftRight, BitVec.getLsbD_ushiftRight]
    have h1 : ¬ 32 ≤ i := by omega
    have h2 : 16 + i < 32 := by omega
    simp [h1, h2]
  · have : (32767#32).getLsbD i = false := by
      have : i = 15 ∨ i = 16 ∨ i = 17 ∨ i = 18 ∨ i = 19 ∨ i = 20 ∨ i = 21 ∨ i = 22 ∨ i = 23 ∨ i = 24 ∨ i = 25 ∨ i = 26 ∨ i = 27 ∨ i = 28 ∨ i = 29 ∨ i = 30 ∨ i = 31 := by omega
      rcases this with rfl | rfl | rfl | rfl | rfl | rfl | rfl | rfl | rfl | rfl | rfl | rfl | rfl | rfl | rfl | rfl | rfl <;> decide
    rw [this, Bool.and_false, Bool.and_false]
theorem ushr_hi {v : Int32} : ((v.toUInt32 >>> ((nN 16).toUInt32 &&& Int32.toUInt32 31)).toInt32 &&& nN 32767) = (v >>> (nN 16 &&& 31)) &&& nN 32767 := by
  rw [nN_31 (by omega)]
  apply Int32.toBitVec_inj.mp
  rw [Int32.toBitVec_and, Int32.toBitVec_and, Int32.toBitVec_shiftRight, nN_bv, nN_bv, smod_32 ⟨16, by omega⟩]
  show _ = v.toBitVec.sshiftRight (BitVec.ofNat 32 16).toNat &&& _
  rw [BitVec.toNat_ofNat, Nat.mod_eq_of_lt (by omega)]
  refine Eq.trans ?_ bv_hi.symm
  simp [nN_bv]
def drw (s : Int32) : Int32 := nN 1103515245 * s + nN 12345
def drN (s : Int32) : Nat := ((drw s >>> (nN 16 &&& 31)) &&& nN 32767).toInt.toNat
theorem drN_ok {s : Int32} : drN s < 32768 ∧ (drw s >>> (nN 16 &&& 31)) &&& nN 32767 = nN (drN s) := by
  obtain ⟨m, h1, h2⟩ := and_32767 (x := drw s >>> (nN 16 &&& 31))
  have : drN s = m := by unfold drN; rw [h2, nN_toInt (by omega)]; omega
  rw [this]
  exact ⟨h1, h2⟩
section DR
variable {d t u n p q f g m c e K k dd : Nat} {n' : Nat} {b b' : Nat → Nat} {a a' ak : Nat → Int32} {img fc : Bool} {fl : Int32} {M M0 M1 M' : pMem} {Q : pOut → pMem → Prop} {x y z v w : Int32}
theorem w_drawn (h : gS M 85 = (3, 0)) : mw (d + 1) 168 [.ref 85] M Q = Q (.inl (some (.int (nN (drN (gI M 85 0)))))) (sI M 85 0 (drw (gI M 85 0))) := by
  simp (disch := omega) only [m_168, q_aload0, q_aload0N, q_ldc_i, q_get_i, pTag_1, pRf_s, q_imul, q_sipush, q_iadd, q_put_i, q_bipush, q_ishr, q_iand, q_iret, e_168_0, L_16, L_12345, L_32767, L_1103515245, h, gS_sI, iN_s0, gS_sI, gP_sI, gI_sI, Nat.add_left_cancel_iff, Nat.add_eq_left, Nat.left_eq_add, nN_le, nN_lt, nN_eq, nN_add, nN_mul, nN_lt0, nN_ge0, nN_gt0, nN_le0, nN_eq0, nN_eq1, nN_neN, pIn_n, pIx_n, eq_self, Nat.reduceLT, Bool.false_eq_true, Nat.add_zero, Nat.zero_add, Nat.reduceAdd, Nat.reduceMul, Nat.reduceSub, Nat.zero_le, Nat.reduceLeDiff, Nat.reduceEqDiff, Nat.le_refl, not_false_eq_true, not_true_eq_false, false_implies, true_implies, forall_const, true_and, and_true, if_true, if_false, implies_true, and_self, ne_eq, false_and, and_false, or_false, false_or, true_or, or_true]
  rw [show nN 1103515245 * gI M 85 0 + nN 12345 = drw (gI M 85 0) from rfl, drN_ok.2]
theorem w_draws (h : ShM (gS M) (gP M) u) (hc : 0 < c) (hc2 : c < 2147483648) : mw (d + 1) 136 [.ref u, .int (nN c)] M Q = Q (.inl (some (.int (nN (drN (gI M u 28) % c))))) (sI M u 28 (drw (gI M u 28))) := by
  have c0 : ¬ c = 0 := by omega
  simp (disch := omega) only [m_136, q_aload0, q_aload0N, q_ldc_w_i, q_get_i, pTag_1, pRf_s, q_imul, q_sipush, q_iadd, q_put_i, q_bipush, q_iushr, q_iand, q_iload1, q_irem, q_iret, e_136_0, L_16, L_12345, L_32767, L_1103515245, h.k0, gS_sI, c0, iN_s0, gS_sI, gP_sI, gI_sI, Nat.add_left_cancel_iff, Nat.add_eq_left, Nat.left_eq_add, nN_le, nN_lt, nN_eq, nN_add, nN_mul, nN_lt0, nN_ge0, nN_gt0, nN_le0, nN_eq0, nN_eq1, nN_neN, pIn_n, pIx_n, eq_self, Nat.reduceLT, Bool.false_eq_true, Nat.add_zero, Nat.zero_add, Nat.reduceAdd, Nat.reduceMul, Nat.reduceSub, Nat.zero_le, Nat.reduceLeDiff, Nat.reduceEqDiff, Nat.le_refl, not_false_eq_true, not_true_eq_false, false_implies, true_implies, forall_const, true_and, and_true, if_true, if_false, implies_true, and_self, ne_eq, false_and, and_false, or_false, false_or, true_or, or_true]
  have := (drN_ok (s := gI M u 28)).1
  rw [show nN 1103515245 * gI M u 28 + nN 12345 = drw (gI M u 28) from rfl, ushr_hi, drN_ok.2, nN_rem (by omega) hc2]
end DR
