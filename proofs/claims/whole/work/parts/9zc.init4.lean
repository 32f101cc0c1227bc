/-! THE LAW'S BEGIN: the model is made -/
def stn (L : Nat) (xs : Nat → Int32) : pMem := (nwp (nwp (nwp (nwp (nwp (nwp (nwp (nwp (nwp (sI (nwp (nwp (nwp (nwp (nw (st9 L xs) 12 0 29) 86 1 3346) 86 2 3346) 86 4 940) 86 5 400) 86 10 (iN (-1))) 86 13 6) 86 18 144) 86 19 12) 86 20 12) 86 21 12) 86 22 144) 86 23 8) 86 24 8) 86 27 40)
def stm (L : Nat) (xs : Nat → Int32) : pMem := sI (stn L xs) 87 7 (nN 10)
def stz (L : Nat) (xs : Nat → Int32) : pMem := nw (stm L xs) 101 1 1
section STM
variable {L : Nat} {xs : Nat → Int32} {Q : pOut → pMem → Prop} {d h x k n w t9 : Nat} {M : pMem} {z5 z6 : Option Value}
theorem st_n9 : gN (st9 L xs) = 86 := rfl
theorem st_s9 : gS (nw (st9 L xs) 12 0 29) 86 = (12, 0) := rfl
set_option maxRecDepth 100000 in
set_option maxHeartbeats 4000000 in
theorem b50_0 {tl : List pEnt} : xw 100 50 ((4, .aload_n 0, 1, []) :: (5, .sipush 3346, 3, []) :: (8, .newarray .int, 2, []) :: (10, .putfield 7, 3, [1, 1, 0, 1482, 0, 12]) :: (13, .aload_n 0, 1, []) :: (14, .sipush 3346, 3, []) :: (17, .newarray .int, 2, []) :: (19, .putfield 13, 3, [2, 1, 0, 1483, 0, 12]) :: (22, .aload_n 0, 1, []) :: (23, .sipush 940, 3, []) :: (26, .newarray .int, 2, []) :: (28, .putfield 16, 3, [4, 1, 0, 1485, 0, 12]) :: (31, .aload_n 0, 1, []) :: (32, .sipush 400, 3, []) :: (35, .newarray .int, 2, []) :: (37, .putfield 19, 3, [5, 1, 0, 1486, 0, 12]) :: (40, .aload_n 0, 1, []) :: (41, .iconst (-1), 1, []) :: (42, .putfield 22, 3, [10, 0, 0, 1491, 0, 12]) :: (45, .aload_n 0, 1, []) :: (46, .bipush 6, 2, []) :: (48, .newarray .int, 2, []) :: (50, .putfield 26, 3, [13, 1, 0, 1494, 0, 12]) :: (53, .aload_n 0, 1, []) :: (54, .sipush 144, 3, []) :: (57, .newarray .int, 2, []) :: (59, .putfield 29, 3, [18, 1, 0, 1499, 0, 12]) :: (62, .aload_n 0, 1, []) :: (63, .bipush 12, 2, []) :: (65, .newarray .int, 2, []) :: (67, .putfield 32, 3, [19, 1, 0, 1500, 0, 12]) :: (70, .aload_n 0, 1, []) :: (71, .bipush 12, 2, []) :: (73, .newarray .int, 2, []) :: (75, .putfield 35, 3, [20, 1, 0, 1501, 0, 12]) :: (78, .aload_n 0, 1, []) :: (79, .bipush 12, 2, []) :: (81, .newarray .int, 2, []) :: (83, .putfield 38, 3, [21, 1, 0, 1502, 0, 12]) :: (86, .aload_n 0, 1, []) :: (87, .sipush 144, 3, []) :: (90, .newarray .int, 2, []) :: (92, .putfield 41, 3, [22, 1, 0, 1503, 0, 12]) :: (95, .aload_n 0, 1, []) :: (96, .bipush 8, 2, []) :: (98, .newarray .int, 2, []) :: (100, .putfield 44, 3, [23, 1, 0, 1504, 0, 12]) :: (103, .aload_n 0, 1, []) :: (104, .bipush 8, 2, []) :: (106, .newarray .int, 2, []) :: (108, .putfield 47, 3, [24, 1, 0, 1505, 0, 12]) :: (111, .aload_n 0, 1, []) :: (112, .bipush 40, 2, []) :: (114, .newarray .int, 2, []) :: (116, .putfield 50, 3, [27, 1, 0, 1508, 0, 12]) :: tl) ([some (.ref 86)], [], nw (st9 L xs) 12 0 29) Q = xw 100 50 tl ([some (.ref 86)], [], stn L xs) Q := by
  simp (disch := first | omega | exact gS_self | exact st_s9 | (simp only [gN_nwp, gN_nwq, gN_nw, gN_sP, gN_sI, st_n9]; omega)) only [q_aload0, q_aload0N, q_sipush, q_newa, q_put_r, pTag_1, q_iconst, q_put_i, q_bipush, L_6, L_8, L_12, L_40, L_144, L_400, L_940, L_3346, k_some, k_none, pRm_i, pRm_r, pRm_0, pF_1, pF_2, inv_s, q_newa (i9 := 0), nwa_ok, pIx_n, gS_nwp, gS_lt, gS_sP, gS_sI, gS_self, st_s9, eq_self, Nat.reduceLT, Bool.false_eq_true, Nat.add_zero, Nat.zero_add, Nat.reduceAdd, Nat.reduceMul, Nat.reduceSub, Nat.zero_le, Nat.reduceLeDiff, Nat.reduceEqDiff, Nat.le_refl, not_false_eq_true, not_true_eq_false, false_implies, true_implies, forall_const, true_and, and_true, if_true, if_false, implies_true, and_self, ne_eq, false_and, and_false, or_false, false_or, true_or, or_true]
  rfl
set_option maxRecDepth 100000 in
theorem i_50 : mw 101 50 [.ref 86] (nw (st9 L xs) 12 0 29) Q = Q (.inl none) (stm L xs) := by
  have c1 : gS (stn L xs) 86 = (12, 0) := rfl
  have c2 : gP (stn L xs) 86 1 = some 87 := rfl
  have c3 : gS (stn L xs) 87 = (100, 3346) := rfl
  rw [m_50, e_50_0, q_aload0, q_obj, b50_0]
  simp (disch := omega) only [q_aload0, q_aload0N, q_get_r, pTag_1, pRf_s, q_bipush, q_iast, q_vret, L_7, L_10, k_some, k_none, pRm_i, pRm_r, pRm_0, pF_1, pF_2, inv_s, c1, c2, c3, pIn_n, pIx_n, nN_le, nN_lt, nN_eq, nN_add, nN_mul, nN_lt0, nN_ge0, nN_gt0, nN_le0, nN_eq0, nN_eq1, nN_neN, pIn_n, pIx_n, eq_self, Nat.reduceLT, Bool.false_eq_true, Nat.add_zero, Nat.zero_add, Nat.reduceAdd, Nat.reduceMul, Nat.reduceSub, Nat.zero_le, Nat.reduceLeDiff, Nat.reduceEqDiff, Nat.le_refl, not_false_eq_true, not_true_eq_false, false_implies, true_implies, forall_const, true_and, and_true, if_true, if_false, implies_true, and_self, ne_eq, false_and, and_false, or_false, false_or, true_or, or_true]
  rfl
set_option maxRecDepth 100000 in
theorem law_begin : mw (101 + 1) 279 [.ref 900000] (st0 L xs) Q = bw 101 279 1 ([some (.ref 900000), some (.ref 0), some (.ref 86), some (.ref 100), some (.int (nN 0)), none, none], [], stz L xs) Q := by
  have g0 : gN (st0 L xs) = 0 := rfl
  have g8 : gN (stm L xs) = 100 := rfl
  have c1 : gS (nw (st0 L xs) 11 0 11) 0 = (11, 0) := rfl
  have g1 : (0 : Int) ≤ (nN 1).toInt ∧ (nN 1).toInt < 1000000 := by rw [nN_toInt (by omega)]; omega
  rw [m_279, e_279_0]
  simp (disch := omega) only [q_new, q_dup_i, q_dup_r, q_invi0_14, inv_1, q_astore1, q_astore1N, q_astore2, q_astore2N, q_iconst, q_newl, q_astore3, q_astore3N, q_istore4, q_nop, L_0, L_1, k_some, k_none, pRm_i, pRm_r, pRm_0, pF_1, pF_2, inv_s, q_newl (i9 := 0), g0, i_0, c1, st_n9, i_50, st_s9, g8, g1, pIx_n, eq_self, Nat.reduceLT, Bool.false_eq_true, Nat.add_zero, Nat.zero_add, Nat.reduceAdd, Nat.reduceMul, Nat.reduceSub, Nat.zero_le, Nat.reduceLeDiff, Nat.reduceEqDiff, Nat.le_refl, not_false_eq_true, not_true_eq_false, false_implies, true_implies, forall_const, true_and, and_true, if_true, if_false, implies_true, and_self, ne_eq, false_and, and_false, or_false, false_or, true_or, or_true]
  rfl
end STM
