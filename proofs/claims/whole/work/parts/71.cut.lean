/-! THE CLASS CUTS A TEXT UP -/
def RdS (M : pMem) (R tr br tb sr : Nat) : Prop := ((gS M R).1 = 8 ∨ (gS M R).1 = 10) ∧ (gP M R 0 = some tb) ∧ (gP M R 1 = some sr) ∧ (gP M R 3 = some tr) ∧ (gP M R 4 = some br) ∧ (gS M tr = (100, 401)) ∧ (gS M br = (100, 401)) ∧ (gS M tb = (100, 400)) ∧ ((gS M sr).1 = 104) ∧ (tr ≠ br) ∧ (tb ≠ tr) ∧ (tb ≠ br) ∧ (R ≠ tr) ∧ (R ≠ br) ∧ (R ≠ tb)
theorem RdS.mk {M : pMem} {R tr br tb sr : Nat} (k : (gS M R).1 = 8 ∨ (gS M R).1 = 10) (p0 : gP M R 0 = some tb) (p1 : gP M R 1 = some sr) (p3 : gP M R 3 = some tr) (p4 : gP M R 4 = some br) (kt : gS M tr = (100, 401)) (kb : gS M br = (100, 401)) (ky : gS M tb = (100, 400)) (ks : (gS M sr).1 = 104) (n1 : tr ≠ br) (n2 : tb ≠ tr) (n3 : tb ≠ br) (n4 : R ≠ tr) (n5 : R ≠ br) (n6 : R ≠ tb) : RdS M R tr br tb sr := ⟨k, p0, p1, p3, p4, kt, kb, ky, ks, n1, n2, n3, n4, n5, n6⟩
theorem RdS.k {M : pMem} {R tr br tb sr : Nat} (h : RdS M R tr br tb sr) : (gS M R).1 = 8 ∨ (gS M R).1 = 10 := And.left h
theorem RdS.p0 {M : pMem} {R tr br tb sr : Nat} (h : RdS M R tr br tb sr) : gP M R 0 = some tb := And.left (And.right h)
theorem RdS.p1 {M : pMem} {R tr br tb sr : Nat} (h : RdS M R tr br tb sr) : gP M R 1 = some sr := And.left (And.right (And.right h))
theorem RdS.p3 {M : pMem} {R tr br tb sr : Nat} (h : RdS M R tr br tb sr) : gP M R 3 = some tr := And.left (And.right (And.right (And.right h)))
theorem RdS.p4 {M : pMem} {R tr br tb sr : Nat} (h : RdS M R tr br tb sr) : gP M R 4 = some br := And.left (And.right (And.right (And.right (And.right h))))
theorem RdS.kt {M : pMem} {R tr br tb sr : Nat} (h : RdS M R tr br tb sr) : gS M tr = (100, 401) := And.left (And.right (And.right (And.right (And.right (And.right h)))))
theorem RdS.kb {M : pMem} {R tr br tb sr : Nat} (h : RdS M R tr br tb sr) : gS M br = (100, 401) := And.left (And.right (And.right (And.right (And.right (And.right (And.right h))))))
theorem RdS.ky {M : pMem} {R tr br tb sr : Nat} (h : RdS M R tr br tb sr) : gS M tb = (100, 400) := And.left (And.right (And.right (And.right (And.right (And.right (And.right (And.right h)))))))
theorem RdS.ks {M : pMem} {R tr br tb sr : Nat} (h : RdS M R tr br tb sr) : (gS M sr).1 = 104 := And.left (And.right (And.right (And.right (And.right (And.right (And.right (And.right (And.right h))))))))
theorem RdS.n1 {M : pMem} {R tr br tb sr : Nat} (h : RdS M R tr br tb sr) : tr ≠ br := And.left (And.right (And.right (And.right (And.right (And.right (And.right (And.right (And.right (And.right h)))))))))
theorem RdS.n2 {M : pMem} {R tr br tb sr : Nat} (h : RdS M R tr br tb sr) : tb ≠ tr := And.left (And.right (And.right (And.right (And.right (And.right (And.right (And.right (And.right (And.right (And.right h))))))))))
theorem RdS.n3 {M : pMem} {R tr br tb sr : Nat} (h : RdS M R tr br tb sr) : tb ≠ br := And.left (And.right (And.right (And.right (And.right (And.right (And.right (And.right (And.right (And.right (And.right (And.right h)))))))))))
theorem RdS.n4 {M : pMem} {R tr br tb sr : Nat} (h : RdS M R tr br tb sr) : R ≠ tr := And.left (And.right (And.right (And.right (And.right (And.right (And.right (And.right (And.right (And.right (And.right (And.right (And.right h))))))))))))
theorem RdS.n5 {M : pMem} {R tr br tb sr : Nat} (h : RdS M R tr br tb sr) : R ≠ br := And.left (And.right (And.right (And.right (And.right (And.right (And.right (And.right (And.right (And.right (And.right (And.right (And.right (And.right h)))))))))))))
theorem RdS.n6 {M : pMem} {R tr br tb sr : Nat} (h : RdS M R tr br tb sr) : R ≠ tb := And.right (And.right (And.right (And.right (And.right (And.right (And.right (And.right (And.right (And.right (And.right (And.right (And.right (And.right h)))))))))))))
def StO (sr : Nat) (cs : List Nat) : Prop := pLens.getD (sr - 900001) 0 = cs.length ∧ cs.length < 1000 ∧ (∀ c ∈ cs, c < 256) ∧ ∀ i, i < cs.length → (pByts.getD (sr - 900001) []).getD i 0 = nN (cs.getD i 0)
section CU
variable {d n R tr br tb sr p k m : Nat} {b : Nat → Nat} {cs : List Nat} {W : List (List Nat)} {M M' : pMem} {Q : pOut → pMem → Prop}
theorem w_strLen (h : (gS M sr).1 = 104) (hs : StO sr cs) : mw (d + 1) 280 [.ref sr] M Q = Q (.inl (some (.int (nN cs.length)))) M := by
  refine mw_of ⟨0, ?_⟩
  unfold exP
  rw [show pG[280]? = none from rfl]
  show pB0 280 [.ref sr] M = _
  unfold pB0
  rw [if_pos rfl]
  dsimp only
  rw [if_pos h, hs.1]
  rfl
theorem w_charAt (h : (gS M sr).1 = 104) (hs : StO sr cs) (hk : k < cs.length) : mw (d + 1) 281 [.ref sr, .int (nN k)] M Q = Q (.inl (some (.int (nN (cs.getD k 0))))) M := by
  have h1 := hs.2.1
  refine mw_of ⟨0, ?_⟩
  unfold exP
  rw [show pG[281]? = none from rfl]
  show pB0 281 [.ref sr, .int (nN k)] M = _
  unfold pB0
  rw [if_neg (by omega), if_pos rfl]
  dsimp only
  rw [if_pos ⟨h, by rw [hs.1, pIn_n (by omega)]; exact hk⟩, pIx_n (by omega), hs.2.2.2 k hk]
theorem w_kindOf {c : Nat} (hc : c < 256) : mw (d + 1) 182 [.int (nN c)] M Q = Q (.inl (some (.int (nN (kd c))))) M := by
  unfold kd
  by_cases h1 : 97 ≤ c ∧ c ≤ 122
  · obtain ⟨g1, g2⟩ := h1
    have e1 : ¬ c < 97 := by omega
    have e2 : ¬ 122 < c := by omega
    simp (disch := omega) only [m_182, q_iload0, q_bipush, q_ic_lt, q_ic_gt, q_iconst, q_iret, q_ic_ne, q_goto, q_nop, e_182_0, e_182_1, e_182_2, e_182_3, e_182_4, L_0, L_1, L_2, L_3, L_32, L_48, L_57, L_97, L_122, e1, e2, g1, g2, nN_le, nN_lt, nN_eq, nN_add, nN_mul, nN_lt0, nN_ge0, nN_gt0, nN_le0, nN_eq0, nN_eq1, nN_neN, pIn_n, pIx_n, eq_self, Nat.reduceLT, Bool.false_eq_true, Nat.add_zero, Nat.zero_add, Nat.reduceAdd, Nat.reduceMul, Nat.reduceSub, Nat.zero_le, Nat.reduceLeDiff, Nat.reduceEqDiff, Nat.le_refl, not_false_eq_true, not_true_eq_false, false_implies, true_implies, forall_const, true_and, and_true, if_true, if_false, implies_true, and_self, ne_eq, false_and, and_false, or_false, false_or, true_or, or_true]
  · by_cases h2 : 48 ≤ c ∧ c ≤ 57
    · obtain ⟨g1, g2⟩ := h2
      have e0 : c < 97 := by omega
      have e1 : ¬ c < 48 := by omega
      have e2 : ¬ 57 < c := by omega
      have e3 : ¬ 97 ≤ c := by omega
      simp (disch := omega) only [m_182, q_iload0, q_bipush, q_ic_lt, q_ic_gt, q_iconst, q_iret, q_ic_ne, q_goto, q_nop, e_182_0, e_182_1, e_182_2, e_182_3, e_182_4, L_0, L_1, L_2, L_3, L_32, L_48, L_57, L_97, L_122, e0, e1, e2, e3, g1, g2, nN_le, nN_lt, nN_eq, nN_add, nN_mul, nN_lt0, nN_ge0, nN_gt0, nN_le0, nN_eq0, nN_eq1, nN_neN, pIn_n, pIx_n, eq_self, Nat.reduceLT, Bool.false_eq_true, Nat.add_zero, Nat.zero_add, Nat.reduceAdd, Nat.reduceMul, Nat.reduceSub, Nat.zero_le, Nat.reduceLeDiff, Nat.reduceEqDiff, Nat.le_refl, not_false_eq_true, not_true_eq_false, false_implies, true_implies, forall_const, true_and, and_true, if_true, if_false, implies_true, and_self, ne_eq, false_and, and_false, or_false, false_or, true_or, or_true]
    · rw [if_neg h1, if_neg h2]
      by_cases a1 : c < 97
      · by_cases a2 : c < 48
        · by_cases a3 : c = 32 <;> simp (disch := omega) only [m_182, q_iload0, q_bipush, q_ic_lt, q_ic_gt, q_iconst, q_iret, q_ic_ne, q_goto, q_nop, e_182_0, e_182_1, e_182_2, e_182_3, e_182_4, L_0, L_1, L_2, L_3, L_32, L_48, L_57, L_97, L_122, a1, a2, a3, nN_le, nN_lt, nN_eq, nN_add, nN_mul, nN_lt0, nN_ge0, nN_gt0, nN_le0, nN_eq0, nN_eq1, nN_neN, pIn_n, pIx_n, eq_self, Nat.reduceLT, Bool.false_eq_true, Nat.add_zero, Nat.zero_add, Nat.reduceAdd, Nat.reduceMul, Nat.reduceSub, Nat.zero_le, Nat.reduceLeDiff, Nat.reduceEqDiff, Nat.le_refl, not_false_eq_true, not_true_eq_false, false_implies, true_implies, forall_const, true_and, and_true, if_true, if_false, implies_true, and_self, ne_eq, false_and, and_false, or_false, false_or, true_or, or_true]
        · have a4 : 57 < c := by omega
          have a3 : ¬ c = 32 := by omega
          simp (disch := omega) only [m_182, q_iload0, q_bipush, q_ic_lt, q_ic_gt, q_iconst, q_iret, q_ic_ne, q_goto, q_nop, e_182_0, e_182_1, e_182_2, e_182_3, e_182_4, L_0, L_1, L_2, L_3, L_32, L_48, L_57, L_97, L_122, a1, a2, a3, a4, nN_le, nN_lt, nN_eq, nN_add, nN_mul, nN_lt0, nN_ge0, nN_gt0, nN_le0, nN_eq0, nN_eq1, nN_neN, pIn_n, pIx_n, eq_self, Nat.reduceLT, Bool.false_eq_true, Nat.add_zero, Nat.zero_add, Nat.reduceAdd, Nat.reduceMul, Nat.reduceSub, Nat.zero_le, Nat.reduceLeDiff, Nat.reduceEqDiff, Nat.le_refl, not_false_eq_true, not_true_eq_false, false_implies, true_implies, forall_const, true_and, and_true, if_true, if_false, implies_true, and_self, ne_eq, false_and, and_false, or_false, false_or, true_or, or_true]
      · have a2 : 122 < c := by omega
        have a3 : ¬ c < 48 := by omega
        have a4 : 57 < c := by omega
        have a5 : ¬ c = 32 := by omega
        simp (disch := omega) only [m_182, q_iload0, q_bipush, q_ic_lt, q_ic_gt, q_iconst, q_iret, q_ic_ne, q_goto, q_nop, e_182_0, e_182_1, e_182_2, e_182_3, e_182_4, L_0, L_1, L_2, L_3, L_32, L_48, L_57, L_97, L_122, a1, a2, a3, a4, a5, nN_le, nN_lt, nN_eq, nN_add, nN_mul, nN_lt0, nN_ge0, nN_gt0, nN_le0, nN_eq0, nN_eq1, nN_neN, pIn_n, pIx_n, eq_self, Nat.reduceLT, Bool.false_eq_true, Nat.add_zero, Nat.zero_add, Nat.reduceAdd, Nat.reduceMul, Nat.reduceSub, Nat.zero_le, Nat.reduceLeDiff, Nat.reduceEqDiff, Nat.le_refl, not_false_eq_true, not_true_eq_false, false_implies, true_implies, forall_const, true_and, and_true, if_true, if_false, implies_true, and_self, ne_eq, false_and, and_false, or_false, false_or, true_or, or_true]
def nmV (b : Nat → Nat) (p m : Nat) : Nat := lp m 0 0 fun i v => v * 10 + (b (p + i) - 48)
theorem nmV_succ : nmV b p (m + 1) = nmV b p m * 10 + (b (p + m) - 48) := by
  unfold nmV
  rw [lp_succ, Nat.zero_add]
theorem numV_nm : numV ((List.range m).map fun i => b (p + i)) = nmV b p m := by
  induction m with
  | zero => rfl
  | succ m ih =>
    rw [List.range_succ, List.map_append, numV, List.foldl_append, ← numV, ih, nmV_succ]
    show 10 * nmV b p m + (b (p + m) - 48) = _
    rw [Nat.mul_comm]
theorem nmV_lt (h : ∀ i, i < m → 48 ≤ b (p + i) ∧ b (p + i) ≤ 57) : nmV b p m < 10 ^ m := by
  induction m with
  | zero => exact Nat.lt_of_lt_of_le (by decide : 0 < 1) (Nat.le_refl _)
  | succ m ih =>
    have h1 := ih (fun i hi => h i (by omega))
    have h2 := h m (by omega)
    rw [nmV_succ, Nat.pow_succ]
    omega
theorem w_numberIn (hr : RdS M R tr br tb sr) (hb : ∀ k, k < n → gI M tb k = nN (b k)) (hn : n ≤ 400) (hpm : p + m ≤ n) (hd : ∀ i, i < m → 48 ≤ b (p + i) ∧ b (p + i) ≤ 57) : mw (d + 2) 184 [.ref R, .int (nN p), .int (nN m)] M Q = Q (.inl (some (.int (nN (if 3 < m then 3001 else nmV b p m))))) M := by
  by_cases c : 3 < m
  · have c2 : ¬ m ≤ 3 := by omega
    simp (disch := omega) only [m_184, q_iload2, q_iconst, q_ic_le, q_sipush, q_iret, q_istore3, q_istore4, q_nop, q_iload4, q_ic_ge, q_iload3, q_bipush, q_imul, q_aload0, q_aload0N, q_get_r, pTag_2, pRf_s, q_iload1, q_iadd, q_invs2_21, q_isub, q_iinc4, q_goto, e_184_0, e_184_1, e_184_3, L_0, L_1, L_3, L_10, L_48, L_3001, k_some, k_none, pRm_i, pRm_r, pRm_0, pF_1, pF_2, inv_s, c, c2, nN_le, nN_lt, nN_eq, nN_add, nN_mul, nN_lt0, nN_ge0, nN_gt0, nN_le0, nN_eq0, nN_eq1, nN_neN, pIn_n, pIx_n, eq_self, Nat.reduceLT, Bool.false_eq_true, Nat.add_zero, Nat.zero_add, Nat.reduceAdd, Nat.reduceMul, Nat.reduceSub, Nat.zero_le, Nat.reduceLeDiff, Nat.reduceEqDiff, Nat.le_refl, not_false_eq_true, not_true_eq_false, false_implies, true_implies, forall_const, true_and, and_true, if_true, if_false, implies_true, and_self, ne_eq, false_and, and_false, or_false, false_or, true_or, or_true]
  · have c2 : m ≤ 3 := by omega
    simp (disch := omega) only [m_184, q_iload2, q_iconst, q_ic_le, q_sipush, q_iret, q_istore3, q_istore4, q_nop, q_iload4, q_ic_ge, q_iload3, q_bipush, q_imul, q_aload0, q_aload0N, q_get_r, pTag_2, pRf_s, q_iload1, q_iadd, q_invs2_21, q_isub, q_iinc4, q_goto, e_184_0, e_184_1, e_184_3, L_0, L_1, L_3, L_10, L_48, L_3001, k_some, k_none, pRm_i, pRm_r, pRm_0, pF_1, pF_2, inv_s, c, c2, nN_le, nN_lt, nN_eq, nN_add, nN_mul, nN_lt0, nN_ge0, nN_gt0, nN_le0, nN_eq0, nN_eq1, nN_neN, pIn_n, pIx_n, eq_self, Nat.reduceLT, Bool.false_eq_true, Nat.add_zero, Nat.zero_add, Nat.reduceAdd, Nat.reduceMul, Nat.reduceSub, Nat.zero_le, Nat.reduceLeDiff, Nat.reduceEqDiff, Nat.le_refl, not_false_eq_true, not_true_eq_false, false_implies, true_implies, forall_const, true_and, and_true, if_true, if_false, implies_true, and_self, ne_eq, false_and, and_false, or_false, false_or, true_or, or_true]
    have key : ∀ (j k : Nat), k + j = m → bw (d + 1) 184 2 ([some (.ref R), some (.int (nN p)), some (.int (nN m)), some (.int (nN (nmV b p k))), some (.int (nN k))], [], M) Q = Q (.inl (some (.int (nN (nmV b p m))))) M := by
      intro j
      induction j with
      | zero =>
        intro k hk
        have e : m ≤ k := by omega
        have e2 : k = m := by omega
        rw [e_184_2]
        simp (disch := omega) only [q_iload2, q_iconst, q_ic_le, q_sipush, q_iret, q_istore3, q_istore4, q_nop, q_iload4, q_ic_ge, q_iload3, q_bipush, q_imul, q_aload0, q_aload0N, q_get_r, pTag_2, pRf_s, q_iload1, q_iadd, q_invs2_21, q_isub, q_iinc4, q_goto, e_184_0, e_184_1, e_184_3, L_0, L_1, L_3, L_10, L_48, L_3001, k_some, k_none, pRm_i, pRm_r, pRm_0, pF_1, pF_2, inv_s, e, nN_le, nN_lt, nN_eq, nN_add, nN_mul, nN_lt0, nN_ge0, nN_gt0, nN_le0, nN_eq0, nN_eq1, nN_neN, pIn_n, pIx_n, eq_self, Nat.reduceLT, Bool.false_eq_true, Nat.add_zero, Nat.zero_add, Nat.reduceAdd, Nat.reduceMul, Nat.reduceSub, Nat.zero_le, Nat.reduceLeDiff, Nat.reduceEqDiff, Nat.le_refl, not_false_eq_true, not_true_eq_false, false_implies, true_implies, forall_const, true_and, and_true, if_true, if_false, implies_true, and_self, ne_eq, false_and, and_false, or_false, false_or, true_or, or_true]
        rw [e2]
      | succ j ih =>
        intro k hk
        have e : ¬ m ≤ k := by omega
        have h1 := nmV_lt (b := b) (p := p) (m := k) (fun i hi => hd i (by omega))
        have h2 : 10 ^ k ≤ 10 ^ 3 := Nat.pow_le_pow_right (by omega) (by omega)
        have h3 := hd k (by omega)
        have h4 := hb (p + k) (by omega)
        have h5 : nN (nmV b p k * 10 + b (p + k)) - nN 48 = nN (nmV b p (k + 1)) := by
          rw [nN_subN (by omega), nmV_succ]
          congr 1
          omega
        rw [e_184_2]
        simp (disch := omega) only [q_iload2, q_iconst, q_ic_le, q_sipush, q_iret, q_istore3, q_istore4, q_nop, q_iload4, q_ic_ge, q_iload3, q_bipush, q_imul, q_aload0, q_aload0N, q_get_r, pTag_2, pRf_s, q_iload1, q_iadd, q_invs2_21, q_isub, q_iinc4, q_goto, e_184_0, e_184_1, e_184_3, L_0, L_1, L_3, L_10, L_48, L_3001, k_some, k_none, pRm_i, pRm_r, pRm_0, pF_1, pF_2, inv_s, e, hr.k, hr.p0, w_atN hr.ky, h4, h5, nN_le, nN_lt, nN_eq, nN_add, nN_mul, nN_lt0, nN_ge0, nN_gt0, nN_le0, nN_eq0, nN_eq1, nN_neN, pIn_n, pIx_n, eq_self, Nat.reduceLT, Bool.false_eq_true, Nat.add_zero, Nat.zero_add, Nat.reduceAdd, Nat.reduceMul, Nat.reduceSub, Nat.zero_le, Nat.reduceLeDiff, Nat.reduceEqDiff, Nat.le_refl, not_false_eq_true, not_true_eq_false, false_implies, true_implies, forall_const, true_and, and_true, if_true, if_false, implies_true, and_self, ne_eq, false_and, and_false, or_false, false_or, true_or, or_true]
        exact ih (k + 1) (by omega)
    exact key m 0 (by omega)
theorem w_wordIn {x : List Nat} (hr : RdS M R tr br tb sr) (hb : ∀ k, k < n → gI M tb k = nN (b k)) (hb2 : ∀ k, b k < 256) (hn : n ≤ 400) (hS : StO sr cs) (hpm : p + x.length ≤ n) (hx : ∀ i, i < x.length → x[i]? = some (b (p + i))) :
    mw (d + 2) 185 [.ref R, .int (nN p), .int (nN x.length)] M Q = Q (.inl (some (.int (nN (scanW x (cs ++ [32]) 1000 (some 0)))))) M := by
  have hS1 := hS.2.1
  simp (disch := omega) only [m_185, q_sipush, q_istore3, q_iconst, q_istore4, q_istore5, q_nop, q_iload5, q_aload0, q_aload0N, q_get_r, pTag_2, pRf_s, q_invv0, inv_1, q_ic_gt, q_ic_ge, q_invv1, q_goto, q_bipush, q_istore6, q_iload6, q_ic_ne, q_iload4, q_iload2, q_iload3, q_iret, q_iinc3, q_if_lt, q_iload1, q_iadd, q_invs2_21, q_istore7, q_iload7, q_if_eq, q_iinc5, e_185_0, L_0, L_1, L_32, L_1000, L_3001, k_some, k_none, pRm_i, pRm_r, pRm_0, pF_1, pF_2, inv_s, eq_self, Nat.reduceLT, Bool.false_eq_true, Nat.add_zero, Nat.zero_add, Nat.reduceAdd, Nat.reduceMul, Nat.reduceSub, Nat.zero_le, Nat.reduceLeDiff, Nat.reduceEqDiff, Nat.le_refl, not_false_eq_true, not_true_eq_false, false_implies, true_implies, forall_const, true_and, and_true, if_true, if_false, implies_true, and_self, ne_eq, false_and, and_false, or_false, false_or, true_or, or_true]
  have key : ∀ (r : List Nat) (k w : Nat) (a : Option Nat) (l6 l7 : Option Value), k + r.length = cs.length + 1 → (∀ i, i < r.length → r.getD i 0 = (cs ++ [32]).getD (k + i) 0) → (∀ m, a = some m → m ≤ x.length) → w + r.length < 3000 →
      bw (d + 1) 185 1 ([some (.ref R), some (.int (nN p)), some (.int (nN x.length)), some (.int (nN w)), some (.int (oI a)), some (.int (nN k)), l6, l7], [], M) Q = Q (.inl (some (.int (nN (scanW x r w a))))) M := by
    intro r
    induction r with
    | nil =>
      intro k w a l6 l7 hk hr2 ha hw
      simp only [List.length_nil] at hk
      have e : cs.length < k := by omega
      rw [e_185_1]
      simp (disch := omega) only [q_sipush, q_istore3, q_iconst, q_istore4, q_istore5, q_nop, q_iload5, q_aload0, q_aload0N, q_get_r, pTag_2, pRf_s, q_invv0, inv_1, q_ic_gt, q_ic_ge, q_invv1, q_goto, q_bipush, q_istore6, q_iload6, q_ic_ne, q_iload4, q_iload2, q_iload3, q_iret, q_iinc3, q_if_lt, q_iload1, q_iadd, q_invs2_21, q_istore7, q_iload7, q_if_eq, q_iinc5, e_185_0, e_185_11, L_0, L_1, L_32, L_1000, L_3001, k_some, k_none, pRm_i, pRm_r, pRm_0, pF_1, pF_2, inv_s, hr.k, hr.p1, hr.ks, w_strLen hr.ks hS, e, nN_le, nN_lt, nN_eq, nN_add, nN_mul, nN_lt0, nN_ge0, nN_gt0, nN_le0, nN_eq0, nN_eq1, nN_neN, pIn_n, pIx_n, eq_self, Nat.reduceLT, Bool.false_eq_true, Nat.add_zero, Nat.zero_add, Nat.reduceAdd, Nat.reduceMul, Nat.reduceSub, Nat.zero_le, Nat.reduceLeDiff, Nat.reduceEqDiff, Nat.le_refl, not_false_eq_true, not_true_eq_false, false_implies, true_implies, forall_const, true_and, and_true, if_true, if_false, implies_true, and_self, ne_eq, false_and, and_false, or_false, false_or, true_or, or_true]
      rfl
    | cons c r ih =>
      intro k w a l6 l7 hk hr2 ha hw
      simp only [List.length_cons] at hk hw
      have hr3 : ∀ i, i < r.length → r.getD i 0 = (cs ++ [32]).getD (k + 1 + i) 0 := fun i hi => by
        have := hr2 (i + 1) (by simp; omega)
        rw [show k + (i + 1) = k + 1 + i from by omega] at this
        exact this
      have hc : c = (cs ++ [32]).getD k 0 := hr2 0 (by simp)
      have e : ¬ cs.length < k := by omega
      -- behind the sign
      have fin : ∀ (w2 : Nat) (a2 : Option Nat) (l6 l7 : Option Value), (∀ m, a2 = some m → m ≤ x.length) → w2 ≤ w + 1 → bw (d + 1) 185 10 ([some (.ref R), some (.int (nN p)), some (.int (nN x.length)), some (.int (nN w2)), some (.int (oI a2)), some (.int (nN k)), l6, l7], [], M) Q = Q (.inl (some (.int (nN (scanW x r w2 a2))))) M := by
        intro w2 a2 l6 l7 ha2 hw2
        rw [e_185_10]
        simp (disch := omega) only [q_sipush, q_istore3, q_iconst, q_istore4, q_istore5, q_nop, q_iload5, q_aload0, q_aload0N, q_get_r, pTag_2, pRf_s, q_invv0, inv_1, q_ic_gt, q_ic_ge, q_invv1, q_goto, q_bipush, q_istore6, q_iload6, q_ic_ne, q_iload4, q_iload2, q_iload3, q_iret, q_iinc3, q_if_lt, q_iload1, q_iadd, q_invs2_21, q_istore7, q_iload7, q_if_eq, q_iinc5, e_185_0, L_0, L_1, L_32, L_1000, L_3001, k_some, k_none, pRm_i, pRm_r, pRm_0, pF_1, pF_2, inv_s, nN_add]
        exact ih (k + 1) w2 a2 l6 l7 (by omega) hr3 ha2 (by omega)
      have hc256 : c < 256 := by
        rw [hc]
        by_cases c1 : k < cs.length
        · rw [List.getD_eq_getElem?_getD, List.getElem?_append_left c1, List.getElem?_eq_getElem c1]
          exact hS.2.2.1 _ (List.getElem_mem c1)
        · rw [List.getD_eq_getElem?_getD, List.getElem?_append_right (by omega), show k - cs.length = 0 from by omega]
          show 32 < 256
          omega
      have go3 : bw (d + 1) 185 3 ([some (.ref R), some (.int (nN p)), some (.int (nN x.length)), some (.int (nN w)), some (.int (oI a)), some (.int (nN k)), l6, l7], [.int (nN c)], M) Q = Q (.inl (some (.int (nN (scanW x (c :: r) w a))))) M := by
        rw [scan_c]
        by_cases c32 : c = 32
        · rw [if_pos c32]
          by_cases ca : a = some x.length
          · rw [if_pos ca, ca, e_185_3]
            simp (disch := omega) only [q_sipush, q_istore3, q_iconst, q_istore4, q_istore5, q_nop, q_iload5, q_aload0, q_aload0N, q_get_r, pTag_2, pRf_s, q_invv0, inv_1, q_ic_gt, q_ic_ge, q_invv1, q_goto, q_bipush, q_istore6, q_iload6, q_ic_ne, q_iload4, q_iload2, q_iload3, q_iret, q_iinc3, q_if_lt, q_iload1, q_iadd, q_invs2_21, q_istore7, q_iload7, q_if_eq, q_iinc5, e_185_0, e_185_3, L_0, L_1, L_32, L_1000, L_3001, k_some, k_none, pRm_i, pRm_r, pRm_0, pF_1, pF_2, inv_s, c32, oI, nN_le, nN_lt, nN_eq, nN_add, nN_mul, nN_lt0, nN_ge0, nN_gt0, nN_le0, nN_eq0, nN_eq1, nN_neN, pIn_n, pIx_n, eq_self, Nat.reduceLT, Bool.false_eq_true, Nat.add_zero, Nat.zero_add, Nat.reduceAdd, Nat.reduceMul, Nat.reduceSub, Nat.zero_le, Nat.reduceLeDiff, Nat.reduceEqDiff, Nat.le_refl, not_false_eq_true, not_true_eq_false, false_implies, true_implies, forall_const, true_and, and_true, if_true, if_false, implies_true, and_self, ne_eq, false_and, and_false, or_false, false_or, true_or, or_true]
          · have ca2 : ¬ oI a = nN x.length := by
              cases a with
              | none => intro z; have := z.symm; rw [oI, nN_neN (by omega)] at this; exact this
              | some m =>
                have := ha m rfl
                rw [oI, nN_eq (by omega) (by omega)]
                intro z
                exact ca (by rw [z])
            rw [if_neg ca, e_185_3]
            simp (disch := omega) only [q_sipush, q_istore3, q_iconst, q_istore4, q_istore5, q_nop, q_iload5, q_aload0, q_aload0N, q_get_r, pTag_2, pRf_s, q_invv0, inv_1, q_ic_gt, q_ic_ge, q_invv1, q_goto, q_bipush, q_istore6, q_iload6, q_ic_ne, q_iload4, q_iload2, q_iload3, q_iret, q_iinc3, q_if_lt, q_iload1, q_iadd, q_invs2_21, q_istore7, q_iload7, q_if_eq, q_iinc5, e_185_0, e_185_3, e_185_4, L_0, L_1, L_32, L_1000, L_3001, k_some, k_none, pRm_i, pRm_r, pRm_0, pF_1, pF_2, inv_s, c32, ca2, nN_le, nN_lt, nN_eq, nN_add, nN_mul, nN_lt0, nN_ge0, nN_gt0, nN_le0, nN_eq0, nN_eq1, nN_neN, pIn_n, pIx_n, eq_self, Nat.reduceLT, Bool.false_eq_true, Nat.add_zero, Nat.zero_add, Nat.reduceAdd, Nat.reduceMul, Nat.reduceSub, Nat.zero_le, Nat.reduceLeDiff, Nat.reduceEqDiff, Nat.le_refl, not_false_eq_true, not_true_eq_false, false_implies, true_implies, forall_const, true_and, and_true, if_true, if_false, implies_true, and_self, ne_eq, false_and, and_false, or_false, false_or, true_or, or_true]
            exact fin (w + 1) (some 0) _ _ (fun m hm => by cases hm; omega) (by omega)
        · rw [if_neg c32, e_185_3]
          have yes : ∀ m, a = some m → x[m]? = some c → bw (d + 1) 185 5 ([some (.ref R), some (.int (nN p)), some (.int (nN x.length)), some (.int (nN w)), some (.int (oI a)), some (.int (nN k)), some (.int (nN c)), l7], [], M) Q = Q (.inl (some (.int (nN (scanW x r w (some (m + 1))))))) M := by
            intro m hm he
            have hl : m < x.length := (List.getElem?_eq_some_iff.mp he).1
            have h2 : c = b (p + m) := by
              have := hx m hl
              rw [he] at this
              exact Option.some.inj this
            have h4 := hb (p + m) (by omega)
            rw [← h2] at h4
            have h5 : ¬ x.length ≤ m := by omega
            subst hm
            rw [e_185_5]
            simp (disch := omega) only [q_sipush, q_istore3, q_iconst, q_istore4, q_istore5, q_nop, q_iload5, q_aload0, q_aload0N, q_get_r, pTag_2, pRf_s, q_invv0, inv_1, q_ic_gt, q_ic_ge, q_invv1, q_goto, q_bipush, q_istore6, q_iload6, q_ic_ne, q_iload4, q_iload2, q_iload3, q_iret, q_iinc3, q_if_lt, q_iload1, q_iadd, q_invs2_21, q_istore7, q_iload7, q_if_eq, q_iinc5, e_185_0, e_185_5, e_185_7, e_185_9, L_0, L_1, L_32, L_1000, L_3001, k_some, k_none, pRm_i, pRm_r, pRm_0, pF_1, pF_2, inv_s, oI, h5, hr.k, hr.p0, w_atN hr.ky, h4, nN_le, nN_lt, nN_eq, nN_add, nN_mul, nN_lt0, nN_ge0, nN_gt0, nN_le0, nN_eq0, nN_eq1, nN_neN, pIn_n, pIx_n, eq_self, Nat.reduceLT, Bool.false_eq_true, Nat.add_zero, Nat.zero_add, Nat.reduceAdd, Nat.reduceMul, Nat.reduceSub, Nat.zero_le, Nat.reduceLeDiff, Nat.reduceEqDiff, Nat.le_refl, not_false_eq_true, not_true_eq_false, false_implies, true_implies, forall_const, true_and, and_true, if_true, if_false, implies_true, and_self, ne_eq, false_and, and_false, or_false, false_or, true_or, or_true]
            exact fin w (some (m + 1)) _ _ (fun m' hm' => by cases hm'; omega) (by omega)
          have no : (∀ m, a = some m → ¬ x[m]? = some c) → bw (d + 1) 185 5 ([some (.ref R), some (.int (nN p)), some (.int (nN x.length)), some (.int (nN w)), some (.int (oI a)), some (.int (nN k)), some (.int (nN c)), l7], [], M) Q = Q (.inl (some (.int (nN (scanW x r w none))))) M := by
            intro hno
            rw [e_185_5]
            cases a with
            | none =>
              have e9 : iN (-1) < 0 := by rw [iNm_lt0]; trivial
              simp (disch := omega) only [q_sipush, q_istore3, q_iconst, q_istore4, q_istore5, q_nop, q_iload5, q_aload0, q_aload0N, q_get_r, pTag_2, pRf_s, q_invv0, inv_1, q_ic_gt, q_ic_ge, q_invv1, q_goto, q_bipush, q_istore6, q_iload6, q_ic_ne, q_iload4, q_iload2, q_iload3, q_iret, q_iinc3, q_if_lt, q_iload1, q_iadd, q_invs2_21, q_istore7, q_iload7, q_if_eq, q_iinc5, e_185_0, e_185_6, e_185_7, e_185_8, e_185_9, L_0, L_1, L_32, L_1000, L_3001, k_some, k_none, pRm_i, pRm_r, pRm_0, pF_1, pF_2, inv_s, oI, e9, nN_le, nN_lt, nN_eq, nN_add, nN_mul, nN_lt0, nN_ge0, nN_gt0, nN_le0, nN_eq0, nN_eq1, nN_neN, pIn_n, pIx_n, eq_self, Nat.reduceLT, Bool.false_eq_true, Nat.add_zero, Nat.zero_add, Nat.reduceAdd, Nat.reduceMul, Nat.reduceSub, Nat.zero_le, Nat.reduceLeDiff, Nat.reduceEqDiff, Nat.le_refl, not_false_eq_true, not_true_eq_false, false_implies, true_implies, forall_const, true_and, and_true, if_true, if_false, implies_true, and_self, ne_eq, false_and, and_false, or_false, false_or, true_or, or_true]
              exact fin w none _ _ (fun m hm => nomatch hm) (by omega)
            | some m =>
              have hm := ha m rfl
              by_cases h5 : x.length ≤ m
              · simp (disch := omega) only [q_sipush, q_istore3, q_iconst, q_istore4, q_istore5, q_nop, q_iload5, q_aload0, q_aload0N, q_get_r, pTag_2, pRf_s, q_invv0, inv_1, q_ic_gt, q_ic_ge, q_invv1, q_goto, q_bipush, q_istore6, q_iload6, q_ic_ne, q_iload4, q_iload2, q_iload3, q_iret, q_iinc3, q_if_lt, q_iload1, q_iadd, q_invs2_21, q_istore7, q_iload7, q_if_eq, q_iinc5, e_185_0, e_185_6, e_185_7, e_185_8, e_185_9, L_0, L_1, L_32, L_1000, L_3001, k_some, k_none, pRm_i, pRm_r, pRm_0, pF_1, pF_2, inv_s, oI, h5, nN_le, nN_lt, nN_eq, nN_add, nN_mul, nN_lt0, nN_ge0, nN_gt0, nN_le0, nN_eq0, nN_eq1, nN_neN, pIn_n, pIx_n, eq_self, Nat.reduceLT, Bool.false_eq_true, Nat.add_zero, Nat.zero_add, Nat.reduceAdd, Nat.reduceMul, Nat.reduceSub, Nat.zero_le, Nat.reduceLeDiff, Nat.reduceEqDiff, Nat.le_refl, not_false_eq_true, not_true_eq_false, false_implies, true_implies, forall_const, true_and, and_true, if_true, if_false, implies_true, and_self, ne_eq, false_and, and_false, or_false, false_or, true_or, or_true]
                exact fin w none _ _ (fun m hm => nomatch hm) (by omega)
              · have h4 := hb (p + m) (by omega)
                have h6 : ¬ b (p + m) = c := by
                  intro z
                  exact hno m rfl (by rw [hx m (by omega), z])
                have h7 := hb2 (p + m)
                simp (disch := omega) only [q_sipush, q_istore3, q_iconst, q_istore4, q_istore5, q_nop, q_iload5, q_aload0, q_aload0N, q_get_r, pTag_2, pRf_s, q_invv0, inv_1, q_ic_gt, q_ic_ge, q_invv1, q_goto, q_bipush, q_istore6, q_iload6, q_ic_ne, q_iload4, q_iload2, q_iload3, q_iret, q_iinc3, q_if_lt, q_iload1, q_iadd, q_invs2_21, q_istore7, q_iload7, q_if_eq, q_iinc5, e_185_0, e_185_6, e_185_7, e_185_8, e_185_9, L_0, L_1, L_32, L_1000, L_3001, k_some, k_none, pRm_i, pRm_r, pRm_0, pF_1, pF_2, inv_s, oI, h5, hr.k, hr.p0, w_atN hr.ky, h4, h6, nN_le, nN_lt, nN_eq, nN_add, nN_mul, nN_lt0, nN_ge0, nN_gt0, nN_le0, nN_eq0, nN_eq1, nN_neN, pIn_n, pIx_n, eq_self, Nat.reduceLT, Bool.false_eq_true, Nat.add_zero, Nat.zero_add, Nat.reduceAdd, Nat.reduceMul, Nat.reduceSub, Nat.zero_le, Nat.reduceLeDiff, Nat.reduceEqDiff, Nat.le_refl, not_false_eq_true, not_true_eq_false, false_implies, true_implies, forall_const, true_and, and_true, if_true, if_false, implies_true, and_self, ne_eq, false_and, and_false, or_false, false_or, true_or, or_true]
                exact fin w none _ _ (fun m hm => nomatch hm) (by omega)
          simp (disch := omega) only [q_sipush, q_istore3, q_iconst, q_istore4, q_istore5, q_nop, q_iload5, q_aload0, q_aload0N, q_get_r, pTag_2, pRf_s, q_invv0, inv_1, q_ic_gt, q_ic_ge, q_invv1, q_goto, q_bipush, q_istore6, q_iload6, q_ic_ne, q_iload4, q_iload2, q_iload3, q_iret, q_iinc3, q_if_lt, q_iload1, q_iadd, q_invs2_21, q_istore7, q_iload7, q_if_eq, q_iinc5, e_185_0, e_185_3, e_185_4, L_0, L_1, L_32, L_1000, L_3001, k_some, k_none, pRm_i, pRm_r, pRm_0, pF_1, pF_2, inv_s, c32, nN_le, nN_lt, nN_eq, nN_add, nN_mul, nN_lt0, nN_ge0, nN_gt0, nN_le0, nN_eq0, nN_eq1, nN_neN, pIn_n, pIx_n, eq_self, Nat.reduceLT, Bool.false_eq_true, Nat.add_zero, Nat.zero_add, Nat.reduceAdd, Nat.reduceMul, Nat.reduceSub, Nat.zero_le, Nat.reduceLeDiff, Nat.reduceEqDiff, Nat.le_refl, not_false_eq_true, not_true_eq_false, false_implies, true_implies, forall_const, true_and, and_true, if_true, if_false, implies_true, and_self, ne_eq, false_and, and_false, or_false, false_or, true_or, or_true]
          cases ha9 : a with
          | none =>
            rw [ha9] at no
            exact no (fun m hm => nomatch hm)
          | some m =>
            rw [ha9] at no yes
            dsimp only
            by_cases he : x[m]? = some c
            · rw [if_pos he]; exact yes m rfl he
            · rw [if_neg he]; exact no (fun m' hm' => by cases hm'; exact he)
      rw [e_185_1]
      by_cases c1 : k < cs.length
      · have c2 : ¬ cs.length ≤ k := by omega
        have e5 : cs.getD k 0 = c := by
          rw [hc, List.getD_eq_getElem?_getD, List.getD_eq_getElem?_getD, List.getElem?_append_left c1]
        simp (disch := omega) only [q_sipush, q_istore3, q_iconst, q_istore4, q_istore5, q_nop, q_iload5, q_aload0, q_aload0N, q_get_r, pTag_2, pRf_s, q_invv0, inv_1, q_ic_gt, q_ic_ge, q_invv1, q_goto, q_bipush, q_istore6, q_iload6, q_ic_ne, q_iload4, q_iload2, q_iload3, q_iret, q_iinc3, q_if_lt, q_iload1, q_iadd, q_invs2_21, q_istore7, q_iload7, q_if_eq, q_iinc5, e_185_0, L_0, L_1, L_32, L_1000, L_3001, k_some, k_none, pRm_i, pRm_r, pRm_0, pF_1, pF_2, inv_s, hr.k, hr.p1, hr.ks, w_strLen hr.ks hS, w_charAt hr.ks hS, e, c2, e5, nN_le, nN_lt, nN_eq, nN_add, nN_mul, nN_lt0, nN_ge0, nN_gt0, nN_le0, nN_eq0, nN_eq1, nN_neN, pIn_n, pIx_n, eq_self, Nat.reduceLT, Bool.false_eq_true, Nat.add_zero, Nat.zero_add, Nat.reduceAdd, Nat.reduceMul, Nat.reduceSub, Nat.zero_le, Nat.reduceLeDiff, Nat.reduceEqDiff, Nat.le_refl, not_false_eq_true, not_true_eq_false, false_implies, true_implies, forall_const, true_and, and_true, if_true, if_false, implies_true, and_self, ne_eq, false_and, and_false, or_false, false_or, true_or, or_true]
        exact go3
      · have c2 : cs.length ≤ k := by omega
        have e5 : c = 32 := by
          rw [hc, List.getD_eq_getElem?_getD, List.getElem?_append_right c2, show k - cs.length = 0 from by omega]
          rfl
        rw [e5] at go3
        simp (disch := omega) only [q_sipush, q_istore3, q_iconst, q_istore4, q_istore5, q_nop, q_iload5, q_aload0, q_aload0N, q_get_r, pTag_2, pRf_s, q_invv0, inv_1, q_ic_gt, q_ic_ge, q_invv1, q_goto, q_bipush, q_istore6, q_iload6, q_ic_ne, q_iload4, q_iload2, q_iload3, q_iret, q_iinc3, q_if_lt, q_iload1, q_iadd, q_invs2_21, q_istore7, q_iload7, q_if_eq, q_iinc5, e_185_0, e_185_2, L_0, L_1, L_32, L_1000, L_3001, k_some, k_none, pRm_i, pRm_r, pRm_0, pF_1, pF_2, inv_s, hr.k, hr.p1, hr.ks, w_strLen hr.ks hS, e, c2, e5, nN_le, nN_lt, nN_eq, nN_add, nN_mul, nN_lt0, nN_ge0, nN_gt0, nN_le0, nN_eq0, nN_eq1, nN_neN, pIn_n, pIx_n, eq_self, Nat.reduceLT, Bool.false_eq_true, Nat.add_zero, Nat.zero_add, Nat.reduceAdd, Nat.reduceMul, Nat.reduceSub, Nat.zero_le, Nat.reduceLeDiff, Nat.reduceEqDiff, Nat.le_refl, not_false_eq_true, not_true_eq_false, false_implies, true_implies, forall_const, true_and, and_true, if_true, if_false, implies_true, and_self, ne_eq, false_and, and_false, or_false, false_or, true_or, or_true]
        exact go3
  exact key (cs ++ [32]) 0 1000 (some 0) _ _ (by simp) (fun i _ => by rw [Nat.zero_add]) (fun m hm => by cases hm; omega) (by simp; omega)
end CU
