/-! THE LAW: its loop -/
theorem and_63 {x : Int32} : ∃ m, m < 64 ∧ x &&& nN 63 = nN m := by
  refine ⟨(x.toBitVec &&& 63#32).toNat, ?_, ?_⟩
  · rw [BitVec.toNat_and]
    exact Nat.lt_of_le_of_lt Nat.and_le_right (by decide)
  · apply Int32.toBitVec_inj.mp
    rw [Int32.toBitVec_and, nN_bv, nN_bv, BitVec.ofNat_toNat]
    simp
theorem sw_lo {A : List Nat} {t : Nat} (ht : t < 36) : (if (nN t).toInt < 0 ∨ 35 < (nN t).toInt then A.head? else A[((nN t).toInt - 0).toNat + 1]?) = A[t + 1]? := by
  rw [nN_toInt (by omega), if_neg (by omega)]
  congr 1
theorem sw_hi {A : List Nat} {t : Nat} (ht : 36 ≤ t) (h2 : t < 4000) : (if (nN t).toInt < 0 ∨ 35 < (nN t).toInt then A.head? else A[((nN t).toInt - 0).toNat + 1]?) = A.head? := by
  rw [nN_toInt (by omega), if_pos (by omega)]
section LWL
variable {L G0 j : Nat} {xs : Nat → Int32} {M : pMem} {z5 z6 : Option Value} {Q : pOut → pMem → Prop}
theorem sw_all (h : LI L xs G0 j M) (hL : L ≤ 3072) (hj : 6 * j + 6 ≤ L) (go : ∀ M' z5 z6, LI L xs G0 (j + 1) M' → bw 101 279 98 ([some (.ref 900000), some (.ref 0), some (.ref 86), some (.ref 100), some (.int (nN (6 * j))), z5, z6], [], M') Q) (go0 : bw 101 279 98 ([some (.ref 900000), some (.ref 0), some (.ref 86), some (.ref 100), some (.int (nN (6 * j))), z5, z6], [], M) Q) : ∀ t, t < 64 → swt 101 279 [some (.ref 900000), some (.ref 0), some (.ref 86), some (.ref 100), some (.int (nN (6 * j))), z5, z6] [] M Q (if (nN t).toInt < 0 ∨ 35 < (nN t).toInt then ([98, 2, 3, 4, 7, 10, 11, 14, 21, 24, 27, 30, 33, 36, 41, 44, 47, 50, 53, 58, 61, 62, 63, 64, 65, 68, 71, 74, 77, 80, 83, 86, 89, 92, 95, 96, 97] : List Nat).head? else ([98, 2, 3, 4, 7, 10, 11, 14, 21, 24, 27, 30, 33, 36, 41, 44, 47, 50, 53, 58, 61, 62, 63, 64, 65, 68, 71, 74, 77, 80, 83, 86, 89, 92, 95, 96, 97] : List Nat)[((nN t).toInt - 0).toNat + 1]?)
  | 0, _ => by rw [sw_lo (by omega)]; exact B_feed h hL hj go
  | 1, _ => by rw [sw_lo (by omega)]; exact B_end h hL hj go
  | 2, _ => by rw [sw_lo (by omega)]; exact B_town h hL hj go
  | 3, _ => by rw [sw_lo (by omega)]; exact B_temper h hL hj go
  | 4, _ => by rw [sw_lo (by omega)]; exact B_fault h hL hj go
  | 5, _ => by rw [sw_lo (by omega)]; exact B_has h hL hj go
  | 6, _ => by rw [sw_lo (by omega)]; exact B_give h hL hj go
  | 7, _ => by rw [sw_lo (by omega)]; exact B_pass h hL hj go
  | 8, _ => by rw [sw_lo (by omega)]; exact B_call h hL hj go
  | 9, _ => by rw [sw_lo (by omega)]; exact B_days h hL hj go
  | 10, _ => by rw [sw_lo (by omega)]; exact B_look h hL hj go
  | 11, _ => by rw [sw_lo (by omega)]; exact B_hand h hL hj go
  | 12, _ => by rw [sw_lo (by omega)]; exact B_takes h hL hj go
  | 13, _ => by rw [sw_lo (by omega)]; exact B_rich h hL hj go
  | 14, _ => by rw [sw_lo (by omega)]; exact B_debt h hL hj go
  | 15, _ => by rw [sw_lo (by omega)]; exact B_owes h hL hj go
  | 16, _ => by rw [sw_lo (by omega)]; exact B_pays h hL hj go
  | 17, _ => by rw [sw_lo (by omega)]; exact B_can h hL hj go
  | 18, _ => by rw [sw_lo (by omega)]; exact B_meet h hL hj go
  | 19, _ => by rw [sw_lo (by omega)]; exact B_enough h hL hj go
  | 20, _ => by rw [sw_lo (by omega)]; exact B_witness h hL hj go
  | 21, _ => by rw [sw_lo (by omega)]; exact B_fewest h hL hj go
  | 22, _ => by rw [sw_lo (by omega)]; exact B_forgive h hL hj go
  | 23, _ => by rw [sw_lo (by omega)]; exact B_port h hL hj go
  | 24, _ => by rw [sw_lo (by omega)]; exact B_most h hL hj go
  | 25, _ => by rw [sw_lo (by omega)]; exact B_cut h hL hj go
  | 26, _ => by rw [sw_lo (by omega)]; exact B_chain h hL hj go
  | 27, _ => by rw [sw_lo (by omega)]; exact B_ring h hL hj go
  | 28, _ => by rw [sw_lo (by omega)]; exact B_clear h hL hj go
  | 29, _ => by rw [sw_lo (by omega)]; exact B_loss h hL hj go
  | 30, _ => by rw [sw_lo (by omega)]; exact B_ruined h hL hj go
  | 31, _ => by rw [sw_lo (by omega)]; exact B_fits h hL hj go
  | 32, _ => by rw [sw_lo (by omega)]; exact B_play h hL hj go
  | 33, _ => by rw [sw_lo (by omega)]; exact B_image h hL hj go
  | 34, _ => by rw [sw_lo (by omega)]; exact B_back h hL hj go
  | 35, _ => by rw [sw_lo (by omega)]; exact B_count h hL hj go
  | t + 36, ht => by rw [sw_hi (by omega) (by omega)]; exact go0
def LEnd (G0 : Nat) (o : pOut) (M' : pMem) : Prop := o = .inl (some (.int (nN 1))) ∧ gN M' ≤ 2248 ∧ gL M' ≤ G0 + 256000
theorem law_loop (hL : L ≤ 3072) : ∀ (r j : Nat) (M : pMem) (z5 z6 : Option Value), j + r = 512 → LI L xs G0 j M → bw 101 279 1 ([some (.ref 900000), some (.ref 0), some (.ref 86), some (.ref 100), some (.int (nN (6 * j))), z5, z6], [], M) (LEnd G0) := by
  have out : ∀ (j : Nat) (M : pMem) (z5 z6 : Option Value), j ≤ 512 → LI L xs G0 j M → L < 6 * j + 6 → bw 101 279 1 ([some (.ref 900000), some (.ref 0), some (.ref 86), some (.ref 100), some (.int (nN (6 * j))), z5, z6], [], M) (LEnd G0) := by
    intro j M z5 z6 hj h hc
    have h4 := h.2.2.2.1
    have eL : iN (L : Int) = nN L := rfl
    have c : nN L - nN 6 < nN (6 * j) := by
      show iN _ - iN _ < iN _
      rw [iN_sub, iN_lt ⟨by omega, by omega⟩ ⟨by omega, by omega⟩]
      omega
    rw [e_279_1]
    simp (disch := omega) only [q_iload4, q_aload0, q_aload0N, q_alen, q_bipush, q_isub, q_ic_gt, q_iald, q_iand, q_table, q_iconst, q_zret, e_279_1, e_279_99, L_1, L_6, L_63, h4, eL, c, zb_1, eq_self, Nat.reduceLT, Bool.false_eq_true, Nat.add_zero, Nat.zero_add, Nat.reduceAdd, Nat.reduceMul, Nat.reduceSub, Nat.zero_le, Nat.reduceLeDiff, Nat.reduceEqDiff, Nat.le_refl, not_false_eq_true, not_true_eq_false, false_implies, true_implies, forall_const, true_and, and_true, if_true, if_false, implies_true, and_self, ne_eq, false_and, and_false, or_false, false_or, true_or, or_true]
    exact ⟨rfl, by have := h.2.1.1; omega, by have := h.2.1.2; omega⟩
  intro r
  induction r with
  | zero =>
    intro j M z5 z6 hj h
    exact out j M z5 z6 (by omega) h (by omega)
  | succ r ih =>
    intro j M z5 z6 hj h
    by_cases hc : L < 6 * j + 6
    · exact out j M z5 z6 (by omega) h hc
    · have h4 := h.2.2.2.1
      have h5 := h.2.2.2.2
      have eL : iN (L : Int) = nN L := rfl
      have c : ¬ nN L - nN 6 < nN (6 * j) := by
        show ¬ iN _ - iN _ < iN _
        rw [iN_sub, iN_lt ⟨by omega, by omega⟩ ⟨by omega, by omega⟩]
        omega
      have l0 : 6 * j < L := by omega
      obtain ⟨t, ht, et⟩ := and_63 (x := xs (6 * j))
      rw [e_279_1]
      simp (disch := omega) only [q_iload4, q_aload0, q_aload0N, q_alen, q_bipush, q_isub, q_ic_gt, q_iald, q_iand, q_table, e_279_1, L_6, L_63, h4, h5, eL, c, l0, et, pIn_n, pIx_n, eq_self, Nat.reduceLT, Bool.false_eq_true, Nat.add_zero, Nat.zero_add, Nat.reduceAdd, Nat.reduceMul, Nat.reduceSub, Nat.zero_le, Nat.reduceLeDiff, Nat.reduceEqDiff, Nat.le_refl, not_false_eq_true, not_true_eq_false, false_implies, true_implies, forall_const, true_and, and_true, if_true, if_false, implies_true, and_self, ne_eq, false_and, and_false, or_false, false_or, true_or, or_true]
      have back : ∀ M' z5 z6, LI L xs G0 (j + 1) M' → bw 101 279 98 ([some (.ref 900000), some (.ref 0), some (.ref 86), some (.ref 100), some (.int (nN (6 * j))), z5, z6], [], M') (LEnd G0) := by
        intro M' z5 z6 h'
        have := ih (j + 1) M' z5 z6 (by omega) h'
        rw [show 6 * (j + 1) = 6 * j + 6 from by omega] at this
        rw [e_279_98]
        simp (disch := omega) only [q_iinc4, q_goto, e_279_98, L_6, nN_add, eq_self, Nat.reduceLT, Bool.false_eq_true, Nat.add_zero, Nat.zero_add, Nat.reduceAdd, Nat.reduceMul, Nat.reduceSub, Nat.zero_le, Nat.reduceLeDiff, Nat.reduceEqDiff, Nat.le_refl, not_false_eq_true, not_true_eq_false, false_implies, true_implies, forall_const, true_and, and_true, if_true, if_false, implies_true, and_self, ne_eq, false_and, and_false, or_false, false_or, true_or, or_true]
        exact this
      refine sw_all h hL (by omega) back (back M z5 z6 ?_) t ht
      obtain ⟨⟨a, ak, img, n, b, fl, S⟩, ⟨h1, h2⟩, h3⟩ := h
      have eK : 1386 * (j + 1) = 1386 * j + 1386 := Nat.mul_succ 1386 j
      refine ⟨⟨a, ak, img, n, b, fl, ?_⟩, ⟨by omega, by omega⟩, h3⟩
      rw [eK]
      exact LwS.mk S.ci S.mi S.gd.up S.fr S.bm S.gn (by omega)
end LWL
