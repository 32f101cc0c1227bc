section ST
variable {L : Nat} {xs : Nat → Int32} {Q : pOut → pMem → Prop} {d h x k n w t9 : Nat} {M : pMem}
theorem i_165 : mw (d + 1) 165 [.ref h] M Q = Q (.inl none) M := by
  simp (disch := omega) only [m_165, q_aload0, q_aload0N, q_obj, q_vret, e_165_0, pRm_i, pRm_r, pRm_0, nN_le, nN_lt, nN_eq, nN_add, nN_mul, nN_lt0, nN_ge0, nN_gt0, nN_le0, nN_eq0, nN_eq1, nN_neN, pIn_n, pIx_n, eq_self, Nat.reduceLT, Bool.false_eq_true, Nat.add_zero, Nat.zero_add, Nat.reduceAdd, Nat.reduceMul, Nat.reduceSub, Nat.zero_le, Nat.reduceLeDiff, Nat.reduceEqDiff, Nat.le_refl, not_false_eq_true, not_true_eq_false, false_implies, true_implies, forall_const, true_and, and_true, if_true, if_false, implies_true, and_self, ne_eq, false_and, and_false, or_false, false_or, true_or, or_true]
set_option maxRecDepth 100000 in
set_option maxHeartbeats 4000000 in
theorem b0_0 {tl : List pEnt} : xw 100 0 ((4, .aload_n 0, 1, []) :: (5, .new 9, 3, [1, 6, 2, 127, 128, 92]) :: (8, .dup, 1, []) :: (9, .invokespecial 11, 3, [15, 0, 129, 0, 6, 197]) :: (12, .putfield 12, 3, [0, 1, 0, 476, 0, 11]) :: tl) ([some (.ref 0)], [], (nw (st0 L xs) 11 0 11)) Q = xw 100 0 tl ([some (.ref 0)], [], (st1 L xs)) Q := by
  have c1 : gS (f197 (nw (nw (st0 L xs) 11 0 11) 6 0 2) (gN (nw (st0 L xs) 11 0 11))) 0 = (11, 0) := rfl
  simp (disch := first | omega | exact gS_self | (simp only [gN_nwp, gN_nwq, gN_nw, gN_sP, gN_sI, gN_f197, gN_f156, gN_f141, gN_f169, gN_f190, gN_f179, gN_f205, gN_f241, gN_f215]; omega)) only [q_aload0, q_aload0N, q_new, q_dup_i, q_dup_r, q_invi0_15, inv_1, q_put_r, pTag_1, k_some, k_none, pRm_i, pRm_r, pRm_0, pF_1, pF_2, inv_s, i_197, c1, gS_self, eq_self, Nat.reduceLT, Bool.false_eq_true, Nat.add_zero, Nat.zero_add, Nat.reduceAdd, Nat.reduceMul, Nat.reduceSub, Nat.zero_le, Nat.reduceLeDiff, Nat.reduceEqDiff, Nat.le_refl, not_false_eq_true, not_true_eq_false, false_implies, true_implies, forall_const, true_and, and_true, if_true, if_false, implies_true, and_self, ne_eq, false_and, and_false, or_false, false_or, true_or, or_true]
  rfl
set_option maxRecDepth 100000 in
set_option maxHeartbeats 4000000 in
theorem b0_1 {tl : List pEnt} : xw 100 0 ((15, .aload_n 0, 1, []) :: (16, .new 16, 3, [1, 9, 15, 143, 144, 93]) :: (19, .dup, 1, []) :: (20, .invokespecial 18, 3, [15, 0, 145, 0, 9, 215]) :: (23, .putfield 19, 3, [1, 1, 0, 477, 0, 11]) :: tl) ([some (.ref 0)], [], (st1 L xs)) Q = xw 100 0 tl ([some (.ref 0)], [], (st2 L xs)) Q := by
  have c1 : gS (f215 (nw (st1 L xs) 9 0 15) (gN (st1 L xs))) 0 = (11, 0) := rfl
  simp (disch := first | omega | exact gS_self | (simp only [gN_nwp, gN_nwq, gN_nw, gN_sP, gN_sI, gN_f197, gN_f156, gN_f141, gN_f169, gN_f190, gN_f179, gN_f205, gN_f241, gN_f215]; omega)) only [q_aload0, q_aload0N, q_new, q_dup_i, q_dup_r, q_invi0_15, inv_1, q_put_r, pTag_1, k_some, k_none, pRm_i, pRm_r, pRm_0, pF_1, pF_2, inv_s, i_215, c1, gS_self, eq_self, Nat.reduceLT, Bool.false_eq_true, Nat.add_zero, Nat.zero_add, Nat.reduceAdd, Nat.reduceMul, Nat.reduceSub, Nat.zero_le, Nat.reduceLeDiff, Nat.reduceEqDiff, Nat.le_refl, not_false_eq_true, not_true_eq_false, false_implies, true_implies, forall_const, true_and, and_true, if_true, if_false, implies_true, and_self, ne_eq, false_and, and_false, or_false, false_or, true_or, or_true]
  rfl
set_option maxRecDepth 100000 in
set_option maxHeartbeats 4000000 in
theorem b0_2 {tl : List pEnt} : xw 100 0 ((26, .aload_n 0, 1, []) :: (27, .new 16, 3, [1, 9, 15, 143, 144, 93]) :: (30, .dup, 1, []) :: (31, .invokespecial 18, 3, [15, 0, 145, 0, 9, 215]) :: (34, .putfield 23, 3, [2, 1, 0, 478, 0, 11]) :: tl) ([some (.ref 0)], [], (st2 L xs)) Q = xw 100 0 tl ([some (.ref 0)], [], (st3 L xs)) Q := by
  have c1 : gS (f215 (nw (st2 L xs) 9 0 15) (gN (st2 L xs))) 0 = (11, 0) := rfl
  simp (disch := first | omega | exact gS_self | (simp only [gN_nwp, gN_nwq, gN_nw, gN_sP, gN_sI, gN_f197, gN_f156, gN_f141, gN_f169, gN_f190, gN_f179, gN_f205, gN_f241, gN_f215]; omega)) only [q_aload0, q_aload0N, q_new, q_dup_i, q_dup_r, q_invi0_15, inv_1, q_put_r, pTag_1, k_some, k_none, pRm_i, pRm_r, pRm_0, pF_1, pF_2, inv_s, i_215, c1, gS_self, eq_self, Nat.reduceLT, Bool.false_eq_true, Nat.add_zero, Nat.zero_add, Nat.reduceAdd, Nat.reduceMul, Nat.reduceSub, Nat.zero_le, Nat.reduceLeDiff, Nat.reduceEqDiff, Nat.le_refl, not_false_eq_true, not_true_eq_false, false_implies, true_implies, forall_const, true_and, and_true, if_true, if_false, implies_true, and_self, ne_eq, false_and, and_false, or_false, false_or, true_or, or_true]
  rfl
set_option maxRecDepth 100000 in
set_option maxHeartbeats 4000000 in
theorem b0_3 {tl : List pEnt} : xw 100 0 ((37, .aload_n 0, 1, []) :: (38, .new 16, 3, [1, 9, 15, 143, 144, 93]) :: (41, .dup, 1, []) :: (42, .invokespecial 18, 3, [15, 0, 145, 0, 9, 215]) :: (45, .putfield 26, 3, [3, 1, 0, 479, 0, 11]) :: tl) ([some (.ref 0)], [], (st3 L xs)) Q = xw 100 0 tl ([some (.ref 0)], [], (st4 L xs)) Q := by
  have c1 : gS (f215 (nw (st3 L xs) 9 0 15) (gN (st3 L xs))) 0 = (11, 0) := rfl
  simp (disch := first | omega | exact gS_self | (simp only [gN_nwp, gN_nwq, gN_nw, gN_sP, gN_sI, gN_f197, gN_f156, gN_f141, gN_f169, gN_f190, gN_f179, gN_f205, gN_f241, gN_f215]; omega)) only [q_aload0, q_aload0N, q_new, q_dup_i, q_dup_r, q_invi0_15, inv_1, q_put_r, pTag_1, k_some, k_none, pRm_i, pRm_r, pRm_0, pF_1, pF_2, inv_s, i_215, c1, gS_self, eq_self, Nat.reduceLT, Bool.false_eq_true, Nat.add_zero, Nat.zero_add, Nat.reduceAdd, Nat.reduceMul, Nat.reduceSub, Nat.zero_le, Nat.reduceLeDiff, Nat.reduceEqDiff, Nat.le_refl, not_false_eq_true, not_true_eq_false, false_implies, true_implies, forall_const, true_and, and_true, if_true, if_false, implies_true, and_self, ne_eq, false_and, and_false, or_false, false_or, true_or, or_true]
  rfl
set_option maxRecDepth 100000 in
set_option maxHeartbeats 4000000 in
theorem b0_4 {tl : List pEnt} : xw 100 0 ((48, .aload_n 0, 1, []) :: (49, .new 29, 3, [1, 10, 18, 304, 305, 97]) :: (52, .dup, 1, []) :: (53, .aload_n 0, 1, []) :: (54, .getfield 12, 3, [0, 1, 0, 476, 0, 11]) :: (57, .getfield 31, 3, [0, 1, 1, 134, 0, 6]) :: (60, .aload_n 0, 1, []) :: (61, .getfield 19, 3, [1, 1, 0, 477, 0, 11]) :: (64, .invokespecial 35, 3, [14, 2, 306, 0, 10, 241]) :: (67, .putfield 38, 3, [4, 1, 0, 480, 0, 11]) :: tl) ([some (.ref 0)], [], (st4 L xs)) Q = xw 100 0 tl ([some (.ref 0)], [], (st5 L xs)) Q := by
  have c1 : gS (f241 (nw (st4 L xs) 10 0 18) (gN (st4 L xs)) 2 3) 0 = (11, 0) := rfl
  have c2 : gS (nw (st4 L xs) 10 0 18) 0 = (11, 0) := rfl
  have c3 : gP (nw (st4 L xs) 10 0 18) 0 1 = some 3 := rfl
  have c4 : gP (nw (st4 L xs) 10 0 18) 0 0 = some 1 := rfl
  have c5 : gS (nw (st4 L xs) 10 0 18) 1 = (6, 0) := rfl
  have c6 : gP (nw (st4 L xs) 10 0 18) 1 0 = some 2 := rfl
  simp (disch := first | omega | exact gS_self | (simp only [gN_nwp, gN_nwq, gN_nw, gN_sP, gN_sI, gN_f197, gN_f156, gN_f141, gN_f169, gN_f190, gN_f179, gN_f205, gN_f241, gN_f215]; omega)) only [q_aload0, q_aload0N, q_new, q_dup_i, q_dup_r, q_get_r, pTag_1, pRf_s, q_invi2_14, inv_1, q_put_r, k_some, k_none, pRm_i, pRm_r, pRm_0, pF_1, pF_2, inv_s, i_241, c1, c2, c3, c4, c5, c6, gS_self, eq_self, Nat.reduceLT, Bool.false_eq_true, Nat.add_zero, Nat.zero_add, Nat.reduceAdd, Nat.reduceMul, Nat.reduceSub, Nat.zero_le, Nat.reduceLeDiff, Nat.reduceEqDiff, Nat.le_refl, not_false_eq_true, not_true_eq_false, false_implies, true_implies, forall_const, true_and, and_true, if_true, if_false, implies_true, and_self, ne_eq, false_and, and_false, or_false, false_or, true_or, or_true]
  rfl
set_option maxRecDepth 100000 in
set_option maxHeartbeats 4000000 in
theorem b0_5 {tl : List pEnt} : xw 100 0 ((70, .aload_n 0, 1, []) :: (71, .new 42, 3, [1, 8, 12, 380, 381, 98]) :: (74, .dup, 1, []) :: (75, .aload_n 0, 1, []) :: (76, .getfield 12, 3, [0, 1, 0, 476, 0, 11]) :: (79, .getfield 31, 3, [0, 1, 1, 134, 0, 6]) :: (82, .invokespecial 44, 3, [14, 1, 382, 0, 8, 205]) :: (85, .putfield 47, 3, [5, 1, 0, 481, 0, 11]) :: tl) ([some (.ref 0)], [], (st5 L xs)) Q = xw 100 0 tl ([some (.ref 0)], [], (st6 L xs)) Q := by
  have c1 : gS (f205 (nw (st5 L xs) 8 0 12) (gN (st5 L xs)) 2) 0 = (11, 0) := rfl
  have c2 : gS (nw (st5 L xs) 8 0 12) 0 = (11, 0) := rfl
  have c3 : gP (nw (st5 L xs) 8 0 12) 0 1 = some 3 := rfl
  have c4 : gP (nw (st5 L xs) 8 0 12) 0 0 = some 1 := rfl
  have c5 : gS (nw (st5 L xs) 8 0 12) 1 = (6, 0) := rfl
  have c6 : gP (nw (st5 L xs) 8 0 12) 1 0 = some 2 := rfl
  simp (disch := first | omega | exact gS_self | (simp only [gN_nwp, gN_nwq, gN_nw, gN_sP, gN_sI, gN_f197, gN_f156, gN_f141, gN_f169, gN_f190, gN_f179, gN_f205, gN_f241, gN_f215]; omega)) only [q_aload0, q_aload0N, q_new, q_dup_i, q_dup_r, q_get_r, pTag_1, pRf_s, q_invi1_14, inv_1, q_put_r, k_some, k_none, pRm_i, pRm_r, pRm_0, pF_1, pF_2, inv_s, i_205, c1, c2, c3, c4, c5, c6, gS_self, eq_self, Nat.reduceLT, Bool.false_eq_true, Nat.add_zero, Nat.zero_add, Nat.reduceAdd, Nat.reduceMul, Nat.reduceSub, Nat.zero_le, Nat.reduceLeDiff, Nat.reduceEqDiff, Nat.le_refl, not_false_eq_true, not_true_eq_false, false_implies, true_implies, forall_const, true_and, and_true, if_true, if_false, implies_true, and_self, ne_eq, false_and, and_false, or_false, false_or, true_or, or_true]
  rfl
set_option maxRecDepth 100000 in
set_option maxHeartbeats 4000000 in
theorem b0_6 {tl : List pEnt} : xw 100 0 ((88, .aload_n 0, 1, []) :: (89, .new 51, 3, [1, 4, 6, 404, 405, 99]) :: (92, .dup, 1, []) :: (93, .invokespecial 53, 3, [15, 0, 406, 0, 4, 169]) :: (96, .putfield 54, 3, [6, 1, 0, 482, 0, 11]) :: tl) ([some (.ref 0)], [], (st6 L xs)) Q = xw 100 0 tl ([some (.ref 0)], [], (st7 L xs)) Q := by
  have c1 : gS (f169 (nw (st6 L xs) 4 0 6) (gN (st6 L xs))) 0 = (11, 0) := rfl
  simp (disch := first | omega | exact gS_self | (simp only [gN_nwp, gN_nwq, gN_nw, gN_sP, gN_sI, gN_f197, gN_f156, gN_f141, gN_f169, gN_f190, gN_f179, gN_f205, gN_f241, gN_f215]; omega)) only [q_aload0, q_aload0N, q_new, q_dup_i, q_dup_r, q_invi0_15, inv_1, q_put_r, pTag_1, k_some, k_none, pRm_i, pRm_r, pRm_0, pF_1, pF_2, inv_s, i_169, c1, gS_self, eq_self, Nat.reduceLT, Bool.false_eq_true, Nat.add_zero, Nat.zero_add, Nat.reduceAdd, Nat.reduceMul, Nat.reduceSub, Nat.zero_le, Nat.reduceLeDiff, Nat.reduceEqDiff, Nat.le_refl, not_false_eq_true, not_true_eq_false, false_implies, true_implies, forall_const, true_and, and_true, if_true, if_false, implies_true, and_self, ne_eq, false_and, and_false, or_false, false_or, true_or, or_true]
  rfl
set_option maxRecDepth 100000 in
set_option maxHeartbeats 4000000 in
theorem b0_7 {tl : List pEnt} : xw 100 0 ((99, .aload_n 0, 1, []) :: (100, .new 58, 3, [1, 5, 5, 430, 431, 100]) :: (103, .dup, 1, []) :: (104, .aload_n 0, 1, []) :: (105, .getfield 19, 3, [1, 1, 0, 477, 0, 11]) :: (108, .invokespecial 60, 3, [14, 1, 432, 0, 5, 190]) :: (111, .putfield 63, 3, [7, 1, 0, 483, 0, 11]) :: tl) ([some (.ref 0)], [], (st7 L xs)) Q = xw 100 0 tl ([some (.ref 0)], [], (st8 L xs)) Q := by
  have c1 : gS (f190 (nw (st7 L xs) 5 0 5) (gN (st7 L xs)) 3) 0 = (11, 0) := rfl
  have c2 : gS (nw (st7 L xs) 5 0 5) 0 = (11, 0) := rfl
  have c3 : gP (nw (st7 L xs) 5 0 5) 0 1 = some 3 := rfl
  simp (disch := first | omega | exact gS_self | (simp only [gN_nwp, gN_nwq, gN_nw, gN_sP, gN_sI, gN_f197, gN_f156, gN_f141, gN_f169, gN_f190, gN_f179, gN_f205, gN_f241, gN_f215]; omega)) only [q_aload0, q_aload0N, q_new, q_dup_i, q_dup_r, q_get_r, pTag_1, pRf_s, q_invi1_14, inv_1, q_put_r, k_some, k_none, pRm_i, pRm_r, pRm_0, pF_1, pF_2, inv_s, i_190, c1, c2, c3, gS_self, eq_self, Nat.reduceLT, Bool.false_eq_true, Nat.add_zero, Nat.zero_add, Nat.reduceAdd, Nat.reduceMul, Nat.reduceSub, Nat.zero_le, Nat.reduceLeDiff, Nat.reduceEqDiff, Nat.le_refl, not_false_eq_true, not_true_eq_false, false_implies, true_implies, forall_const, true_and, and_true, if_true, if_false, implies_true, and_self, ne_eq, false_and, and_false, or_false, false_or, true_or, or_true]
  rfl
set_option maxRecDepth 100000 in
set_option maxHeartbeats 4000000 in
theorem b0_8 : xw 100 0 [(114, .aload_n 0, 1, []), (115, .new 67, 3, [1, 3, 4, 454, 455, 101]), (118, .dup, 1, []), (119, .invokespecial 69, 3, [15, 0, 456, 0, 3, 165]), (122, .putfield 70, 3, [8, 1, 0, 484, 0, 11]), (125, .aload_n 0, 1, []), (126, .iconst 0, 1, []), (127, .putfield 74, 3, [9, 2, 0, 485, 0, 11]), (130, .aload_n 0, 1, []), (131, .iconst (-1), 1, []), (132, .putfield 78, 3, [10, 0, 0, 486, 0, 11]), (135, .return_, 1, [])] ([some (.ref 0)], [], (st8 L xs)) Q = Q (.inl none) (st9 L xs) := by
  have c1 : gS (nw (st8 L xs) 3 0 4) 0 = (11, 0) := rfl
  simp (disch := first | omega | exact gS_self | (simp only [gN_nwp, gN_nwq, gN_nw, gN_sP, gN_sI, gN_f197, gN_f156, gN_f141, gN_f169, gN_f190, gN_f179, gN_f205, gN_f241, gN_f215]; omega)) only [q_aload0, q_aload0N, q_new, q_dup_i, q_dup_r, q_invi0_15, inv_1, q_put_r, pTag_1, q_iconst, q_put_z, q_put_i, q_vret, L_0, k_some, k_none, pRm_i, pRm_r, pRm_0, pF_1, pF_2, inv_s, i_165, c1, gS_sP, gS_sI, gS_self, zb_0, eq_self, Nat.reduceLT, Bool.false_eq_true, Nat.add_zero, Nat.zero_add, Nat.reduceAdd, Nat.reduceMul, Nat.reduceSub, Nat.zero_le, Nat.reduceLeDiff, Nat.reduceEqDiff, Nat.le_refl, not_false_eq_true, not_true_eq_false, false_implies, true_implies, forall_const, true_and, and_true, if_true, if_false, implies_true, and_self, ne_eq, false_and, and_false, or_false, false_or, true_or, or_true]
  rfl
theorem i_0 : mw 101 0 [.ref 0] (nw (st0 L xs) 11 0 11) Q = Q (.inl none) (st9 L xs) := by
  rw [m_0, e_0_0]
  rw [q_aload0, q_obj, b0_0, b0_1, b0_2, b0_3, b0_4, b0_5, b0_6, b0_7, b0_8]
  simp only [pRm_0, eq_self, Nat.reduceLT, Bool.false_eq_true, Nat.add_zero, Nat.zero_add, Nat.reduceAdd, Nat.reduceMul, Nat.reduceSub, Nat.zero_le, Nat.reduceLeDiff, Nat.reduceEqDiff, Nat.le_refl, not_false_eq_true, not_true_eq_false, false_implies, true_implies, forall_const, true_and, and_true, if_true, if_false, implies_true, and_self, ne_eq, false_and, and_false, or_false, false_or, true_or, or_true]
end ST
