/-! THE CLASS CUTS A TEXT UP: the things in their order -/
def WdO (sr : Nat) (W : List (List Nat)) : Prop := ∃ cs, StO sr cs ∧ joinW W = cs ++ [32] ∧ (∀ w ∈ W, ∀ c ∈ w, c ≠ 32) ∧ W.length < 100
def RdX (R tr br : Nat) (h k : Nat) : Prop := h = tr ∨ h = br ∨ (h = R ∧ (k = 6 ∨ k = 7))
def RdC (M : pMem) (R tr br tb sr n : Nat) (b : Nat → Nat) (W : List (List Nat)) (p : Nat) : Prop := (RdS M R tr br tb sr) ∧ (WdO sr W) ∧ (n ≤ 400) ∧ (∀ k, b k < 256) ∧ (∀ k, k < n → gI M tb k = nN (b k)) ∧ (gI M R 5 = nN n) ∧ (gI M R 6 = nN (ct b p)) ∧ (gI M R 7 = nN (th W n b p)) ∧ (∀ q, q < n → isB b q = true → gI M tr (ct b q) = nN (th W n b q) ∧ gI M br (ct b q) = nN q) ∧ (gI M tr (ct b n) = nN 3000) ∧ (gI M br (ct b n) = nN n) ∧ (p = n ∨ (p < n ∧ isB b p = true)) ∧ (gI M R 9 = iN (-1))
theorem RdC.mk {M : pMem} {R tr br tb sr n : Nat} {b : Nat → Nat} {W : List (List Nat)} {p : Nat} (s9 : RdS M R tr br tb sr) (w9 : WdO sr W) (n9 : n ≤ 400) (b9 : ∀ k, b k < 256) (y9 : ∀ k, k < n → gI M tb k = nN (b k)) (len : gI M R 5 = nN n) (pl : gI M R 6 = nN (ct b p)) (tg : gI M R 7 = nN (th W n b p)) (all : ∀ q, q < n → isB b q = true → gI M tr (ct b q) = nN (th W n b q) ∧ gI M br (ct b q) = nN q) (endT : gI M tr (ct b n) = nN 3000) (endB : gI M br (ct b n) = nN n) (at9 : p = n ∨ (p < n ∧ isB b p = true)) (ft : gI M R 9 = iN (-1)) : RdC M R tr br tb sr n b W p := ⟨s9, w9, n9, b9, y9, len, pl, tg, all, endT, endB, at9, ft⟩
theorem RdC.s9 {M : pMem} {R tr br tb sr n : Nat} {b : Nat → Nat} {W : List (List Nat)} {p : Nat} (h : RdC M R tr br tb sr n b W p) : RdS M R tr br tb sr := And.left h
theorem RdC.w9 {M : pMem} {R tr br tb sr n : Nat} {b : Nat → Nat} {W : List (List Nat)} {p : Nat} (h : RdC M R tr br tb sr n b W p) : WdO sr W := And.left (And.right h)
theorem RdC.n9 {M : pMem} {R tr br tb sr n : Nat} {b : Nat → Nat} {W : List (List Nat)} {p : Nat} (h : RdC M R tr br tb sr n b W p) : n ≤ 400 := And.left (And.right (And.right h))
theorem RdC.b9 {M : pMem} {R tr br tb sr n : Nat} {b : Nat → Nat} {W : List (List Nat)} {p : Nat} (h : RdC M R tr br tb sr n b W p) : ∀ k, b k < 256 := And.left (And.right (And.right (And.right h)))
theorem RdC.y9 {M : pMem} {R tr br tb sr n : Nat} {b : Nat → Nat} {W : List (List Nat)} {p : Nat} (h : RdC M R tr br tb sr n b W p) : ∀ k, k < n → gI M tb k = nN (b k) := And.left (And.right (And.right (And.right (And.right h))))
theorem RdC.len {M : pMem} {R tr br tb sr n : Nat} {b : Nat → Nat} {W : List (List Nat)} {p : Nat} (h : RdC M R tr br tb sr n b W p) : gI M R 5 = nN n := And.left (And.right (And.right (And.right (And.right (And.right h)))))
theorem RdC.pl {M : pMem} {R tr br tb sr n : Nat} {b : Nat → Nat} {W : List (List Nat)} {p : Nat} (h : RdC M R tr br tb sr n b W p) : gI M R 6 = nN (ct b p) := And.left (And.right (And.right (And.right (And.right (And.right (And.right h))))))
theorem RdC.tg {M : pMem} {R tr br tb sr n : Nat} {b : Nat → Nat} {W : List (List Nat)} {p : Nat} (h : RdC M R tr br tb sr n b W p) : gI M R 7 = nN (th W n b p) := And.left (And.right (And.right (And.right (And.right (And.right (And.right (And.right h)))))))
theorem RdC.all {M : pMem} {R tr br tb sr n : Nat} {b : Nat → Nat} {W : List (List Nat)} {p : Nat} (h : RdC M R tr br tb sr n b W p) : ∀ q, q < n → isB b q = true → gI M tr (ct b q) = nN (th W n b q) ∧ gI M br (ct b q) = nN q := And.left (And.right (And.right (And.right (And.right (And.right (And.right (And.right (And.right h))))))))
theorem RdC.endT {M : pMem} {R tr br tb sr n : Nat} {b : Nat → Nat} {W : List (List Nat)} {p : Nat} (h : RdC M R tr br tb sr n b W p) : gI M tr (ct b n) = nN 3000 := And.left (And.right (And.right (And.right (And.right (And.right (And.right (And.right (And.right (And.right h)))))))))
theorem RdC.endB {M : pMem} {R tr br tb sr n : Nat} {b : Nat → Nat} {W : List (List Nat)} {p : Nat} (h : RdC M R tr br tb sr n b W p) : gI M br (ct b n) = nN n := And.left (And.right (And.right (And.right (And.right (And.right (And.right (And.right (And.right (And.right (And.right h))))))))))
theorem RdC.at9 {M : pMem} {R tr br tb sr n : Nat} {b : Nat → Nat} {W : List (List Nat)} {p : Nat} (h : RdC M R tr br tb sr n b W p) : p = n ∨ (p < n ∧ isB b p = true) := And.left (And.right (And.right (And.right (And.right (And.right (And.right (And.right (And.right (And.right (And.right (And.right h)))))))))))
theorem RdC.ft {M : pMem} {R tr br tb sr n : Nat} {b : Nat → Nat} {W : List (List Nat)} {p : Nat} (h : RdC M R tr br tb sr n b W p) : gI M R 9 = iN (-1) := And.right (And.right (And.right (And.right (And.right (And.right (And.right (And.right (And.right (And.right (And.right (And.right h)))))))))))
section CV
variable {d n R tr br tb sr p k m : Nat} {b : Nat → Nat} {cs : List Nat} {W : List (List Nat)} {M M1 M' : pMem} {Q : pOut → pMem → Prop}
theorem wixF_lt {x : List Nat} : ∀ (W : List (List Nat)) (i : Nat), i + W.length < 3001 → wixF x W i ≤ 3001 := by
  intro W
  induction W with
  | nil => intro i _; exact Nat.le_refl _
  | cons w W ih =>
    intro i h
    simp only [List.length_cons] at h
    unfold wixF
    split
    · omega
    · exact ih (i + 1) (by omega)
theorem kd_2 {c : Nat} (h : kd c = 2) : 48 ≤ c ∧ c ≤ 57 := by
  unfold kd at h
  split at h
  · cases h
  · split at h
    · assumption
    · split at h <;> cases h
theorem th_lt (hW : W.length < 100) (hb : ∀ k, b k < 256) : th W n b p ≤ 3001 := by
  unfold th
  split
  · omega
  · rename_i hp
    split
    · have := hb p; omega
    · split
      · rename_i h2
        split
        · omega
        · rename_i h3
          have g := te_spec (n := n) (b := b) (p := p) (by omega)
          unfold tx
          rw [numV_nm]
          have h1 := nmV_lt (b := b) (p := p) (m := te n b p - p) (fun i hi => kd_2 (by rw [g.2.2.2.1 (p + i) (by omega) (by omega)]; exact h2))
          have h2 : 10 ^ (te n b p - p) ≤ 10 ^ 3 := Nat.pow_le_pow_right (by omega) (by omega)
          omega
      · exact wixF_lt W 1000 (by omega)
theorem w_thingAt (hr : RdS M R tr br tb sr) (hw : WdO sr W) (hb : ∀ k, k < n → gI M tb k = nN (b k)) (hb2 : ∀ k, b k < 256) (hn : n ≤ 400) (hl : gI M R 5 = nN n) (hp : p < n) (hB : isB b p = true) :
    mw (d + 3) 183 [.ref R, .int (nN p), .int (nN (kd (b p)))] M Q = Q (.inl (some (.int (nN (th W n b p))))) M := by
  have hkd := kd_le (c := b p)
  obtain ⟨hnz, -⟩ := isB_iff.mp hB
  obtain ⟨g1, g2, g3, g4, g5⟩ := te_spec (b := b) hp
  obtain ⟨cs, hS, hj, hno, hW⟩ := hw
  have e0 : ¬ n ≤ p := by omega
  have y := hb p hp
  have yb := hb2 p
  by_cases c3 : kd (b p) = 3
  · have et : th W n b p = 2000 + b p := by unfold th; rw [if_neg e0, if_pos c3]
    rw [et]
    simp (disch := omega) only [m_183, q_iload2, q_iconst, q_ic_ne, q_sipush, q_aload0, q_aload0N, q_get_r, pTag_2, pRf_s, q_iload1, q_invs2_21, q_iadd, q_iret, q_istore3, q_istore4, q_nop, q_iload4, q_get_i, q_ic_ge, q_invs1_20, q_iinc4, q_goto, q_iload3, q_isub, q_invv2, inv_2, e_183_0, e_183_1, L_1, L_3, L_2000, k_some, k_none, pRm_i, pRm_r, pRm_0, pF_1, pF_2, inv_s, c3, hr.k, hr.p0, w_atN hr.ky, y, nN_le, nN_lt, nN_eq, nN_add, nN_mul, nN_lt0, nN_ge0, nN_gt0, nN_le0, nN_eq0, nN_eq1, nN_neN, pIn_n, pIx_n, eq_self, Nat.reduceLT, Bool.false_eq_true, Nat.add_zero, Nat.zero_add, Nat.reduceAdd, Nat.reduceMul, Nat.reduceSub, Nat.zero_le, Nat.reduceLeDiff, Nat.reduceEqDiff, Nat.le_refl, not_false_eq_true, not_true_eq_false, false_implies, true_implies, forall_const, true_and, and_true, if_true, if_false, implies_true, and_self, ne_eq, false_and, and_false, or_false, false_or, true_or, or_true]
  · have fin : bw (d + 2) 183 3 ([some (.ref R), some (.int (nN p)), some (.int (nN (kd (b p)))), some (.int (nN (te n b p))), some (.int (nN (te n b p)))], [], M) Q = Q (.inl (some (.int (nN (th W n b p))))) M := by
      have es : nN (te n b p) - nN p = nN (te n b p - p) := nN_subN (by omega)
      rw [e_183_3]
      by_cases c2 : kd (b p) = 2
      · have et : th W n b p = if 3 < te n b p - p then 3001 else nmV b p (te n b p - p) := by
          unfold th tx
          rw [if_neg e0, if_neg c3, if_pos c2, numV_nm]
        have c1 : ¬ 2 = 1 := by omega
        rw [et]
        simp (disch := omega) only [q_iload2, q_iconst, q_ic_ne, q_sipush, q_aload0, q_aload0N, q_get_r, pTag_2, pRf_s, q_iload1, q_invs2_21, q_iadd, q_iret, q_istore3, q_istore4, q_nop, q_iload4, q_get_i, q_ic_ge, q_invs1_20, q_iinc4, q_goto, q_iload3, q_isub, q_invv2, inv_2, e_183_0, e_183_3, e_183_4, e_183_5, L_1, L_3, L_2000, k_some, k_none, pRm_i, pRm_r, pRm_0, pF_1, pF_2, inv_s, c2, hr.k, es, nN_le, nN_lt, nN_eq, nN_add, nN_mul, nN_lt0, nN_ge0, nN_gt0, nN_le0, nN_eq0, nN_eq1, nN_neN, pIn_n, pIx_n, eq_self, Nat.reduceLT, Bool.false_eq_true, Nat.add_zero, Nat.zero_add, Nat.reduceAdd, Nat.reduceMul, Nat.reduceSub, Nat.zero_le, Nat.reduceLeDiff, Nat.reduceEqDiff, Nat.le_refl, not_false_eq_true, not_true_eq_false, false_implies, true_implies, forall_const, true_and, and_true, if_true, if_false, implies_true, and_self, ne_eq, false_and, and_false, or_false, false_or, true_or, or_true]
        rw [w_numberIn hr hb hn (by omega) (fun i hi => kd_2 (by rw [g4 (p + i) (by omega) (by omega)]; exact c2))]
        simp (disch := omega) only [q_iload2, q_iconst, q_ic_ne, q_sipush, q_aload0, q_aload0N, q_get_r, pTag_2, pRf_s, q_iload1, q_invs2_21, q_iadd, q_iret, q_istore3, q_istore4, q_nop, q_iload4, q_get_i, q_ic_ge, q_invs1_20, q_iinc4, q_goto, q_iload3, q_isub, q_invv2, inv_2, e_183_0, e_183_3, e_183_4, e_183_5, L_1, L_3, L_2000, k_some, k_none, pRm_i, pRm_r, pRm_0, pF_1, pF_2, inv_s, eq_self, Nat.reduceLT, Bool.false_eq_true, Nat.add_zero, Nat.zero_add, Nat.reduceAdd, Nat.reduceMul, Nat.reduceSub, Nat.zero_le, Nat.reduceLeDiff, Nat.reduceEqDiff, Nat.le_refl, not_false_eq_true, not_true_eq_false, false_implies, true_implies, forall_const, true_and, and_true, if_true, if_false, implies_true, and_self, ne_eq, false_and, and_false, or_false, false_or, true_or, or_true]
      · have c1 : kd (b p) = 1 := by omega
        have hlen : (tx n b p).length = te n b p - p := by unfold tx; rw [List.length_map, List.length_range]
        have et : th W n b p = scanW (tx n b p) (cs ++ [32]) 1000 (some 0) := by
          unfold th
          rw [if_neg e0, if_neg c3, if_neg c2, ← hj, scan_join W 1000 hno]
        rw [et]
        simp (disch := omega) only [q_iload2, q_iconst, q_ic_ne, q_sipush, q_aload0, q_aload0N, q_get_r, pTag_2, pRf_s, q_iload1, q_invs2_21, q_iadd, q_iret, q_istore3, q_istore4, q_nop, q_iload4, q_get_i, q_ic_ge, q_invs1_20, q_iinc4, q_goto, q_iload3, q_isub, q_invv2, inv_2, e_183_0, e_183_3, e_183_5, L_1, L_3, L_2000, k_some, k_none, pRm_i, pRm_r, pRm_0, pF_1, pF_2, inv_s, c1, hr.k, es, nN_le, nN_lt, nN_eq, nN_add, nN_mul, nN_lt0, nN_ge0, nN_gt0, nN_le0, nN_eq0, nN_eq1, nN_neN, pIn_n, pIx_n, eq_self, Nat.reduceLT, Bool.false_eq_true, Nat.add_zero, Nat.zero_add, Nat.reduceAdd, Nat.reduceMul, Nat.reduceSub, Nat.zero_le, Nat.reduceLeDiff, Nat.reduceEqDiff, Nat.le_refl, not_false_eq_true, not_true_eq_false, false_implies, true_implies, forall_const, true_and, and_true, if_true, if_false, implies_true, and_self, ne_eq, false_and, and_false, or_false, false_or, true_or, or_true]
        rw [← hlen, w_wordIn hr hb hb2 hn hS (by omega) (fun i hi => by
          unfold tx at hi ⊢
          rw [List.length_map, List.length_range] at hi
          rw [List.getElem?_map, List.getElem?_range hi]
          rfl)]
        simp (disch := omega) only [q_iload2, q_iconst, q_ic_ne, q_sipush, q_aload0, q_aload0N, q_get_r, pTag_2, pRf_s, q_iload1, q_invs2_21, q_iadd, q_iret, q_istore3, q_istore4, q_nop, q_iload4, q_get_i, q_ic_ge, q_invs1_20, q_iinc4, q_goto, q_iload3, q_isub, q_invv2, inv_2, e_183_0, e_183_3, e_183_5, L_1, L_3, L_2000, k_some, k_none, pRm_i, pRm_r, pRm_0, pF_1, pF_2, inv_s, eq_self, Nat.reduceLT, Bool.false_eq_true, Nat.add_zero, Nat.zero_add, Nat.reduceAdd, Nat.reduceMul, Nat.reduceSub, Nat.zero_le, Nat.reduceLeDiff, Nat.reduceEqDiff, Nat.le_refl, not_false_eq_true, not_true_eq_false, false_implies, true_implies, forall_const, true_and, and_true, if_true, if_false, implies_true, and_self, ne_eq, false_and, and_false, or_false, false_or, true_or, or_true]
    have key : ∀ (j k : Nat), k + j = te n b p → p ≤ k → bw (d + 2) 183 2 ([some (.ref R), some (.int (nN p)), some (.int (nN (kd (b p)))), some (.int (nN k)), some (.int (nN k))], [], M) Q = bw (d + 2) 183 3 ([some (.ref R), some (.int (nN p)), some (.int (nN (kd (b p)))), some (.int (nN (te n b p))), some (.int (nN (te n b p)))], [], M) Q := by
      intro j
      induction j with
      | zero =>
        intro k hk hpk
        have ek : k = te n b p := by omega
        rw [e_183_2, ek]
        by_cases c9 : n ≤ te n b p
        · simp (disch := omega) only [q_iload2, q_iconst, q_ic_ne, q_sipush, q_aload0, q_aload0N, q_get_r, pTag_2, pRf_s, q_iload1, q_invs2_21, q_iadd, q_iret, q_istore3, q_istore4, q_nop, q_iload4, q_get_i, q_ic_ge, q_invs1_20, q_iinc4, q_goto, q_iload3, q_isub, q_invv2, inv_2, e_183_0, L_1, L_3, L_2000, k_some, k_none, pRm_i, pRm_r, pRm_0, pF_1, pF_2, inv_s, hr.k, hl, c9, nN_le, nN_lt, nN_eq, nN_add, nN_mul, nN_lt0, nN_ge0, nN_gt0, nN_le0, nN_eq0, nN_eq1, nN_neN, pIn_n, pIx_n, eq_self, Nat.reduceLT, Bool.false_eq_true, Nat.add_zero, Nat.zero_add, Nat.reduceAdd, Nat.reduceMul, Nat.reduceSub, Nat.zero_le, Nat.reduceLeDiff, Nat.reduceEqDiff, Nat.le_refl, not_false_eq_true, not_true_eq_false, false_implies, true_implies, forall_const, true_and, and_true, if_true, if_false, implies_true, and_self, ne_eq, false_and, and_false, or_false, false_or, true_or, or_true]
        · have y2 := hb (te n b p) (by omega)
          have y3 := hb2 (te n b p)
          have c8 : ¬ kd (b (te n b p)) = kd (b p) := (g3 (by omega)).resolve_left c3
          have k8 := kd_le (c := b (te n b p))
          simp (disch := omega) only [q_iload2, q_iconst, q_ic_ne, q_sipush, q_aload0, q_aload0N, q_get_r, pTag_2, pRf_s, q_iload1, q_invs2_21, q_iadd, q_iret, q_istore3, q_istore4, q_nop, q_iload4, q_get_i, q_ic_ge, q_invs1_20, q_iinc4, q_goto, q_iload3, q_isub, q_invv2, inv_2, e_183_0, L_1, L_3, L_2000, k_some, k_none, pRm_i, pRm_r, pRm_0, pF_1, pF_2, inv_s, hr.k, hr.p0, w_atN hr.ky, y2, w_kindOf y3, hl, c9, c8, nN_le, nN_lt, nN_eq, nN_add, nN_mul, nN_lt0, nN_ge0, nN_gt0, nN_le0, nN_eq0, nN_eq1, nN_neN, pIn_n, pIx_n, eq_self, Nat.reduceLT, Bool.false_eq_true, Nat.add_zero, Nat.zero_add, Nat.reduceAdd, Nat.reduceMul, Nat.reduceSub, Nat.zero_le, Nat.reduceLeDiff, Nat.reduceEqDiff, Nat.le_refl, not_false_eq_true, not_true_eq_false, false_implies, true_implies, forall_const, true_and, and_true, if_true, if_false, implies_true, and_self, ne_eq, false_and, and_false, or_false, false_or, true_or, or_true]
      | succ j ih =>
        intro k hk hpk
        have c9 : ¬ n ≤ k := by omega
        have y2 := hb k (by omega)
        have y3 := hb2 k
        have c8 : kd (b k) = kd (b p) := g4 k hpk (by omega)
        rw [e_183_2]
        simp (disch := omega) only [q_iload2, q_iconst, q_ic_ne, q_sipush, q_aload0, q_aload0N, q_get_r, pTag_2, pRf_s, q_iload1, q_invs2_21, q_iadd, q_iret, q_istore3, q_istore4, q_nop, q_iload4, q_get_i, q_ic_ge, q_invs1_20, q_iinc4, q_goto, q_iload3, q_isub, q_invv2, inv_2, e_183_0, L_1, L_3, L_2000, k_some, k_none, pRm_i, pRm_r, pRm_0, pF_1, pF_2, inv_s, hr.k, hr.p0, w_atN hr.ky, y2, w_kindOf y3, hl, c9, c8, nN_le, nN_lt, nN_eq, nN_add, nN_mul, nN_lt0, nN_ge0, nN_gt0, nN_le0, nN_eq0, nN_eq1, nN_neN, pIn_n, pIx_n, eq_self, Nat.reduceLT, Bool.false_eq_true, Nat.add_zero, Nat.zero_add, Nat.reduceAdd, Nat.reduceMul, Nat.reduceSub, Nat.zero_le, Nat.reduceLeDiff, Nat.reduceEqDiff, Nat.le_refl, not_false_eq_true, not_true_eq_false, false_implies, true_implies, forall_const, true_and, and_true, if_true, if_false, implies_true, and_self, ne_eq, false_and, and_false, or_false, false_or, true_or, or_true]
        exact ih (k + 1) (by omega) (by omega)
    have c3' : ¬ kd (b p) = 3 := c3
    simp (disch := omega) only [m_183, q_iload2, q_iconst, q_ic_ne, q_sipush, q_aload0, q_aload0N, q_get_r, pTag_2, pRf_s, q_iload1, q_invs2_21, q_iadd, q_iret, q_istore3, q_istore4, q_nop, q_iload4, q_get_i, q_ic_ge, q_invs1_20, q_iinc4, q_goto, q_iload3, q_isub, q_invv2, inv_2, e_183_0, e_183_1, L_1, L_3, L_2000, k_some, k_none, pRm_i, pRm_r, pRm_0, pF_1, pF_2, inv_s, c3', nN_le, nN_lt, nN_eq, nN_add, nN_mul, nN_lt0, nN_ge0, nN_gt0, nN_le0, nN_eq0, nN_eq1, nN_neN, pIn_n, pIx_n, eq_self, Nat.reduceLT, Bool.false_eq_true, Nat.add_zero, Nat.zero_add, Nat.reduceAdd, Nat.reduceMul, Nat.reduceSub, Nat.zero_le, Nat.reduceLeDiff, Nat.reduceEqDiff, Nat.le_refl, not_false_eq_true, not_true_eq_false, false_implies, true_implies, forall_const, true_and, and_true, if_true, if_false, implies_true, and_self, ne_eq, false_and, and_false, or_false, false_or, true_or, or_true]
    rw [key (te n b p - p) p (by omega) (Nat.le_refl _)]
    exact fin
theorem RdS.ag {X : Nat → Nat → Prop} (h : RdS M R tr br tb sr) (A : Ag X M M') : RdS M' R tr br tb sr := by
  unfold RdS at h ⊢
  rw [A.S, A.P]
  exact h
theorem ct_mono : ∀ {k q : Nat}, k ≤ q → ct b k ≤ ct b q := by
  intro k q h
  induction q with
  | zero => have : k = 0 := by omega
            subst this; exact Nat.le_refl _
  | succ q ih =>
    by_cases e : k = q + 1
    · subst e; exact Nat.le_refl _
    · have := ih (by omega)
      show _ ≤ ct b q + _
      omega
theorem ct_lt {k q : Nat} (hk : isB b k = true) (h : k < q) : ct b k < ct b q := by
  have := ct_mono (b := b) (k := k + 1) (q := q) (by omega)
  have e : ct b (k + 1) = ct b k + 1 := by show ct b k + _ = _; rw [if_pos hk]
  omega
set_option maxHeartbeats 2000000 in
theorem w_cutUp (hr : RdS M R tr br tb sr) (hw : WdO sr W) (hb : ∀ k, k < n → gI M tb k = nN (b k)) (hb2 : ∀ k, b k < 256) (hn : n ≤ 400) (hl : gI M R 5 = nN n) (hf : gI M R 9 = iN (-1)) :
    mw (d + 4) 181 [.ref R] M (fun o M' => o = .inl none ∧ RdC M' R tr br tb sr n b W (nb n b 0) ∧ Ag (RdX R tr br) M M') := by
  have s0 := hr
  have q1 := hr.n1
  have q2 := hr.n2
  have q3 := hr.n3
  have q4 := hr.n4
  have q5 := hr.n5
  have q6 := hr.n6
  have hctn := ct_le (b := b) n
  have t57 : ¬ ((5 : Nat) = 6 ∨ (5 : Nat) = 7) := by omega
  simp (disch := omega) only [m_181, q_iconst, q_istore1, q_istore2, q_istore3, q_nop, q_iload3, q_aload0, q_aload0N, q_get_i, pTag_2, pRf_s, q_ic_ge, q_get_r, q_invs2_21, q_invs1_20, q_istore4, q_iload4, q_if_eq, q_ic_eq, q_iload2, q_iload1, q_invv2, inv_2, q_invs3_21, q_iinc1, q_iinc3, q_goto, q_sipush, q_put_i, q_vret, e_181_0, L_0, L_1, L_3, L_3000, k_some, k_none, pRm_i, pRm_r, pRm_0, pF_1, pF_2, inv_s, eq_self, Nat.reduceLT, Bool.false_eq_true, Nat.add_zero, Nat.zero_add, Nat.reduceAdd, Nat.reduceMul, Nat.reduceSub, Nat.zero_le, Nat.reduceLeDiff, Nat.reduceEqDiff, Nat.le_refl, not_false_eq_true, not_true_eq_false, false_implies, true_implies, forall_const, true_and, and_true, if_true, if_false, implies_true, and_self, ne_eq, false_and, and_false, or_false, false_or, true_or, or_true]
  refine loopR (n := n) (J := Option Value) (C := fun k _ z M => ([some (.ref R), some (.int (nN (ct b k))), some (.int (nN (pk b k))), some (.int (nN k)), z], [], M)) (f := fun _ (_ : Unit) => ()) (R := fun k _ M1 => Ag (fun h _ => h = tr ∨ h = br) M M1 ∧ ∀ q, q < k → isB b q = true → gI M1 tr (ct b q) = nN (th W n b q) ∧ gI M1 br (ct b q) = nN q) ?_ n 0 () none M (by omega) ⟨Ag.rfl, fun q hq => by omega⟩ ?_
  · rintro k _ z M1 hk ⟨A1, h1⟩ go
    have r1 := hr.ag A1
    have y : ∀ k, k < n → gI M1 tb k = nN (b k) := fun k hk => by rw [A1.I (by omega)]; exact hb k hk
    have l1 : gI M1 R 5 = nN n := by rw [A1.I (by omega)]; exact hl
    have e1 : ¬ n ≤ k := by omega
    have yk := y k hk
    have y3 := hb2 k
    have k8 := kd_le (c := b k)
    have hctk := ct_le (b := b) k
    have p8 : pk b k ≤ 3 := by
      unfold pk
      split
      · omega
      · exact kd_le
    have pks : pk b (k + 1) = kd (b k) := rfl
    have go3 : ∀ M2, Ag (fun h _ => h = tr ∨ h = br) M M2 → (∀ q, q < k + 1 → isB b q = true → gI M2 tr (ct b q) = nN (th W n b q) ∧ gI M2 br (ct b q) = nN q) → bw (d + 3) 181 3 ([some (.ref R), some (.int (nN (ct b (k + 1)))), some (.int (nN (pk b k))), some (.int (nN k)), some (.int (nN (kd (b k))))], [], M2) _ := fun M2 A2 h2 => by
      rw [e_181_3]
      simp (disch := omega) only [q_iconst, q_istore1, q_istore2, q_istore3, q_nop, q_iload3, q_aload0, q_aload0N, q_get_i, pTag_2, pRf_s, q_ic_ge, q_get_r, q_invs2_21, q_invs1_20, q_istore4, q_iload4, q_if_eq, q_ic_eq, q_iload2, q_iload1, q_invv2, inv_2, q_invs3_21, q_iinc1, q_iinc3, q_goto, q_sipush, q_put_i, q_vret, e_181_0, L_0, L_1, L_3, L_3000, k_some, k_none, pRm_i, pRm_r, pRm_0, pF_1, pF_2, inv_s, nN_add]
      have := go M2 (some (.int (nN (kd (b k))))) ⟨A2, h2⟩
      rw [pks] at this
      exact this
    have skip : isB b k = false → bw (d + 3) 181 3 ([some (.ref R), some (.int (nN (ct b k))), some (.int (nN (pk b k))), some (.int (nN k)), some (.int (nN (kd (b k))))], [], M1) _ := fun hB => by
      have := go3 M1 A1 (fun q hq hq2 => by
        by_cases c : q = k
        · subst c; rw [hB] at hq2; cases hq2
        · exact h1 q (by omega) hq2)
      rw [show ct b (k + 1) = ct b k from by show ct b k + _ = _; rw [hB]; rfl] at this
      exact this
    have take : isB b k = true → bw (d + 3) 181 2 ([some (.ref R), some (.int (nN (ct b k))), some (.int (nN (pk b k))), some (.int (nN k)), some (.int (nN (kd (b k))))], [], M1) _ := fun hB => by
      rw [e_181_2]
      have kt := r1.kt
      have kb := r1.kb
      simp (disch := first | omega | rfl | (repeat' (first | exact gS_sI | exact gP_sI | refine Eq.trans gS_sI ?_ | refine Eq.trans gP_sI ?_))) only [q_iconst, q_istore1, q_istore2, q_istore3, q_nop, q_iload3, q_aload0, q_aload0N, q_get_i, pTag_2, pRf_s, q_ic_ge, q_get_r, q_invs2_21, q_invs1_20, q_istore4, q_iload4, q_if_eq, q_ic_eq, q_iload2, q_iload1, q_invv2, inv_2, q_invs3_21, q_iinc1, q_iinc3, q_goto, q_sipush, q_put_i, q_vret, e_181_0, L_0, L_1, L_3, L_3000, k_some, k_none, pRm_i, pRm_r, pRm_0, pF_1, pF_2, inv_s, gS_sI, gP_sI, r1.k, r1.p3, r1.p4, w_thingAt r1 hw y hb2 hn l1 hk hB, w_putS kt, w_putS kb, nN_le, nN_lt, nN_eq, nN_add, nN_mul, nN_lt0, nN_ge0, nN_gt0, nN_le0, nN_eq0, nN_eq1, nN_neN, pIn_n, pIx_n, eq_self, Nat.reduceLT, Bool.false_eq_true, Nat.add_zero, Nat.zero_add, Nat.reduceAdd, Nat.reduceMul, Nat.reduceSub, Nat.zero_le, Nat.reduceLeDiff, Nat.reduceEqDiff, Nat.le_refl, not_false_eq_true, not_true_eq_false, false_implies, true_implies, forall_const, true_and, and_true, if_true, if_false, implies_true, and_self, ne_eq, false_and, and_false, or_false, false_or, true_or, or_true]
      have es : ct b (k + 1) = ct b k + 1 := by show ct b k + _ = _; rw [if_pos hB]
      have := go3 (sI (sI M1 tr (ct b k) (nN (th W n b k))) br (ct b k) (nN k)) (Ag.put (Ag.put A1 (Or.inl rfl)) (Or.inr rfl)) (fun q hq hq2 => by
        by_cases c : q = k
        · subst c
          refine ⟨?_, ?_⟩
          · rw [gI_sI, if_neg (fun z => q1 z.1), gI_sI, if_pos ⟨rfl, rfl⟩]
          · rw [gI_sI, if_pos ⟨rfl, rfl⟩]
        · have h9 := h1 q (by omega) hq2
          have h8 := ct_lt (b := b) hq2 (show q < k by omega)
          refine ⟨?_, ?_⟩
          · rw [gI_sI, if_neg (fun z => q1 z.1), gI_sI, if_neg (by omega)]; exact h9.1
          · rw [gI_sI, if_neg (by omega), gI_sI, if_neg (fun z => q1 z.1.symm)]; exact h9.2)
      rw [es] at this
      exact this
    rw [e_181_1]
    by_cases c0 : kd (b k) = 0
    · have hB : isB b k = false := by
        cases h9 : isB b k with
        | false => rfl
        | true => exact absurd c0 (isB_iff.mp h9).1
      have sk := skip hB
      rw [c0] at sk
      simp (disch := omega) only [q_iconst, q_istore1, q_istore2, q_istore3, q_nop, q_iload3, q_aload0, q_aload0N, q_get_i, pTag_2, pRf_s, q_ic_ge, q_get_r, q_invs2_21, q_invs1_20, q_istore4, q_iload4, q_if_eq, q_ic_eq, q_iload2, q_iload1, q_invv2, inv_2, q_invs3_21, q_iinc1, q_iinc3, q_goto, q_sipush, q_put_i, q_vret, e_181_0, L_0, L_1, L_3, L_3000, k_some, k_none, pRm_i, pRm_r, pRm_0, pF_1, pF_2, inv_s, r1.k, r1.p0, w_atN r1.ky, yk, w_kindOf y3, l1, e1, c0, nN_le, nN_lt, nN_eq, nN_add, nN_mul, nN_lt0, nN_ge0, nN_gt0, nN_le0, nN_eq0, nN_eq1, nN_neN, pIn_n, pIx_n, eq_self, Nat.reduceLT, Bool.false_eq_true, Nat.add_zero, Nat.zero_add, Nat.reduceAdd, Nat.reduceMul, Nat.reduceSub, Nat.zero_le, Nat.reduceLeDiff, Nat.reduceEqDiff, Nat.le_refl, not_false_eq_true, not_true_eq_false, false_implies, true_implies, forall_const, true_and, and_true, if_true, if_false, implies_true, and_self, ne_eq, false_and, and_false, or_false, false_or, true_or, or_true]
      exact sk
    · by_cases c3 : kd (b k) = 3
      · have hB : isB b k = true := isB_iff.mpr ⟨c0, Or.inl c3⟩
        have tk := take hB
        have d0 : ¬ 3 = 0 := by omega
        rw [c3] at tk
        simp (disch := omega) only [q_iconst, q_istore1, q_istore2, q_istore3, q_nop, q_iload3, q_aload0, q_aload0N, q_get_i, pTag_2, pRf_s, q_ic_ge, q_get_r, q_invs2_21, q_invs1_20, q_istore4, q_iload4, q_if_eq, q_ic_eq, q_iload2, q_iload1, q_invv2, inv_2, q_invs3_21, q_iinc1, q_iinc3, q_goto, q_sipush, q_put_i, q_vret, e_181_0, L_0, L_1, L_3, L_3000, k_some, k_none, pRm_i, pRm_r, pRm_0, pF_1, pF_2, inv_s, r1.k, r1.p0, w_atN r1.ky, yk, w_kindOf y3, l1, e1, c3, nN_le, nN_lt, nN_eq, nN_add, nN_mul, nN_lt0, nN_ge0, nN_gt0, nN_le0, nN_eq0, nN_eq1, nN_neN, pIn_n, pIx_n, eq_self, Nat.reduceLT, Bool.false_eq_true, Nat.add_zero, Nat.zero_add, Nat.reduceAdd, Nat.reduceMul, Nat.reduceSub, Nat.zero_le, Nat.reduceLeDiff, Nat.reduceEqDiff, Nat.le_refl, not_false_eq_true, not_true_eq_false, false_implies, true_implies, forall_const, true_and, and_true, if_true, if_false, implies_true, and_self, ne_eq, false_and, and_false, or_false, false_or, true_or, or_true]
        exact tk
      · by_cases c4 : kd (b k) = pk b k
        · have hB : isB b k = false := by
            cases h9 : isB b k with
            | false => rfl
            | true =>
              rcases (isB_iff.mp h9).2 with z | z
              · exact absurd z c3
              · exact absurd c4 z
          have sk := skip hB
          simp (disch := omega) only [q_iconst, q_istore1, q_istore2, q_istore3, q_nop, q_iload3, q_aload0, q_aload0N, q_get_i, pTag_2, pRf_s, q_ic_ge, q_get_r, q_invs2_21, q_invs1_20, q_istore4, q_iload4, q_if_eq, q_ic_eq, q_iload2, q_iload1, q_invv2, inv_2, q_invs3_21, q_iinc1, q_iinc3, q_goto, q_sipush, q_put_i, q_vret, e_181_0, L_0, L_1, L_3, L_3000, k_some, k_none, pRm_i, pRm_r, pRm_0, pF_1, pF_2, inv_s, r1.k, r1.p0, w_atN r1.ky, yk, w_kindOf y3, l1, e1, c0, c3, c4, nN_le, nN_lt, nN_eq, nN_add, nN_mul, nN_lt0, nN_ge0, nN_gt0, nN_le0, nN_eq0, nN_eq1, nN_neN, pIn_n, pIx_n, eq_self, Nat.reduceLT, Bool.false_eq_true, Nat.add_zero, Nat.zero_add, Nat.reduceAdd, Nat.reduceMul, Nat.reduceSub, Nat.zero_le, Nat.reduceLeDiff, Nat.reduceEqDiff, Nat.le_refl, not_false_eq_true, not_true_eq_false, false_implies, true_implies, forall_const, true_and, and_true, if_true, if_false, implies_true, and_self, ne_eq, false_and, and_false, or_false, false_or, true_or, or_true]
          rw [c4] at sk c0 c3
          simp only [c0, c3, eq_self, Nat.reduceLT, Bool.false_eq_true, Nat.add_zero, Nat.zero_add, Nat.reduceAdd, Nat.reduceMul, Nat.reduceSub, Nat.zero_le, Nat.reduceLeDiff, Nat.reduceEqDiff, Nat.le_refl, not_false_eq_true, not_true_eq_false, false_implies, true_implies, forall_const, true_and, and_true, if_true, if_false, implies_true, and_self, ne_eq, false_and, and_false, or_false, false_or, true_or, or_true]
          exact sk
        · have hB : isB b k = true := isB_iff.mpr ⟨c0, Or.inr c4⟩
          have tk := take hB
          simp (disch := omega) only [q_iconst, q_istore1, q_istore2, q_istore3, q_nop, q_iload3, q_aload0, q_aload0N, q_get_i, pTag_2, pRf_s, q_ic_ge, q_get_r, q_invs2_21, q_invs1_20, q_istore4, q_iload4, q_if_eq, q_ic_eq, q_iload2, q_iload1, q_invv2, inv_2, q_invs3_21, q_iinc1, q_iinc3, q_goto, q_sipush, q_put_i, q_vret, e_181_0, L_0, L_1, L_3, L_3000, k_some, k_none, pRm_i, pRm_r, pRm_0, pF_1, pF_2, inv_s, r1.k, r1.p0, w_atN r1.ky, yk, w_kindOf y3, l1, e1, c0, c3, c4, nN_le, nN_lt, nN_eq, nN_add, nN_mul, nN_lt0, nN_ge0, nN_gt0, nN_le0, nN_eq0, nN_eq1, nN_neN, pIn_n, pIx_n, eq_self, Nat.reduceLT, Bool.false_eq_true, Nat.add_zero, Nat.zero_add, Nat.reduceAdd, Nat.reduceMul, Nat.reduceSub, Nat.zero_le, Nat.reduceLeDiff, Nat.reduceEqDiff, Nat.le_refl, not_false_eq_true, not_true_eq_false, false_implies, true_implies, forall_const, true_and, and_true, if_true, if_false, implies_true, and_self, ne_eq, false_and, and_false, or_false, false_or, true_or, or_true]
          exact tk
  · rintro M1 z ⟨A1, h1⟩
    have r1 := hr.ag A1
    have y : ∀ k, k < n → gI M1 tb k = nN (b k) := fun k hk => by rw [A1.I (by omega)]; exact hb k hk
    have l1 : gI M1 R 5 = nN n := by rw [A1.I (by omega)]; exact hl
    have kt := r1.kt
    have kb := r1.kb
    have hB0 := nb_spec (n := n) (b := b) (k := 0) (by omega)
    have hc0 : ct b (nb n b 0) = 0 := ct_nb (n := n) (b := b) (k := 0) (by omega)
    have hv : (if 0 = ct b n then nN 3000 else gI M1 tr 0) = nN (th W n b (nb n b 0)) := by
      by_cases c : nb n b 0 = n
      · rw [c] at hc0 ⊢
        rw [if_pos hc0.symm]
        congr 1
        exact (if_pos (Nat.le_refl _)).symm
      · have hlt : nb n b 0 < n := by omega
        have hB := hB0.2.2.1 hlt
        have h2 := ct_lt (b := b) hB hlt
        rw [if_neg (by omega)]
        have := (h1 _ hlt hB).1
        rw [hc0] at this
        exact this
    rw [e_181_1]
    simp (disch := first | omega | rfl | (repeat' (first | exact gS_sI | exact gP_sI | refine Eq.trans gS_sI ?_ | refine Eq.trans gP_sI ?_))) only [q_iconst, q_istore1, q_istore2, q_istore3, q_nop, q_iload3, q_aload0, q_aload0N, q_get_i, pTag_2, pRf_s, q_ic_ge, q_get_r, q_invs2_21, q_invs1_20, q_istore4, q_iload4, q_if_eq, q_ic_eq, q_iload2, q_iload1, q_invv2, inv_2, q_invs3_21, q_iinc1, q_iinc3, q_goto, q_sipush, q_put_i, q_vret, e_181_0, e_181_4, L_0, L_1, L_3, L_3000, k_some, k_none, pRm_i, pRm_r, pRm_0, pF_1, pF_2, inv_s, gS_sI, gP_sI, r1.k, r1.p3, r1.p4, l1, w_putS kt, w_putS kb, w_atS kt, gI_sI, q1, q4, q5, nN_le, nN_lt, nN_eq, nN_add, nN_mul, nN_lt0, nN_ge0, nN_gt0, nN_le0, nN_eq0, nN_eq1, nN_neN, pIn_n, pIx_n, eq_self, Nat.reduceLT, Bool.false_eq_true, Nat.add_zero, Nat.zero_add, Nat.reduceAdd, Nat.reduceMul, Nat.reduceSub, Nat.zero_le, Nat.reduceLeDiff, Nat.reduceEqDiff, Nat.le_refl, not_false_eq_true, not_true_eq_false, false_implies, true_implies, forall_const, true_and, and_true, if_true, if_false, implies_true, and_self, ne_eq, false_and, and_false, or_false, false_or, true_or, or_true]
    have n8 : R ≠ br := q5
    have e6 : ∀ k, k ≠ 6 → k ≠ 7 → gI (sI (sI (sI (sI M1 tr (ct b n) (nN 3000)) br (ct b n) (nN n)) R 6 (nN 0)) R 7 (nN (th W n b (nb n b 0)))) R k = gI M1 R k := fun k h6 h7 => by
      rw [gI_sI, if_neg (fun z => h7 z.2), gI_sI, if_neg (fun z => h6 z.2), gI_sI, if_neg (fun z => q5 z.1), gI_sI, if_neg (fun z => q4 z.1)]
    have go : RdC (sI (sI (sI (sI M1 tr (ct b n) (nN 3000)) br (ct b n) (nN n)) R 6 (nN 0)) R 7 (nN (th W n b (nb n b 0)))) R tr br tb sr n b W (nb n b 0) ∧ Ag (RdX R tr br) M (sI (sI (sI (sI M1 tr (ct b n) (nN 3000)) br (ct b n) (nN n)) R 6 (nN 0)) R 7 (nN (th W n b (nb n b 0)))) := by
      have A9 : Ag (RdX R tr br) M (sI (sI (sI (sI M1 tr (ct b n) (nN 3000)) br (ct b n) (nN n)) R 6 (nN 0)) R 7 (nN (th W n b (nb n b 0)))) := Ag.put (Ag.put (Ag.put (Ag.put (A1.mono fun h k z => by rcases z with z | z; exact Or.inl z; exact Or.inr (Or.inl z)) (Or.inl rfl)) (Or.inr (Or.inl rfl))) (Or.inr (Or.inr ⟨rfl, Or.inl rfl⟩))) (Or.inr (Or.inr ⟨rfl, Or.inr rfl⟩))
      refine ⟨RdC.mk (hr.ag A9) hw hn hb2 ?_ ?_ ?_ ?_ ?_ ?_ ?_ ?_ ?_, A9⟩
      · intro k hk
        rw [A9.I]
        · exact hb k hk
        · rintro (z | z | ⟨z, -⟩)
          · exact q2 z
          · exact q3 z
          · exact q6 z.symm
      · rw [e6 5 (by omega) (by omega)]; exact l1
      · rw [gI_sI, if_neg (fun z => by omega), gI_sI, if_pos ⟨rfl, rfl⟩, hc0]
      · rw [gI_sI, if_pos ⟨rfl, rfl⟩]
      · intro q hq hqB
        have h8 := ct_lt (b := b) hqB hq
        have h9 := h1 q hq hqB
        refine ⟨?_, ?_⟩
        · rw [gI_sI, if_neg (fun z => q4 z.1.symm), gI_sI, if_neg (fun z => q4 z.1.symm), gI_sI, if_neg (fun z => q1 z.1), gI_sI, if_neg (by omega)]; exact h9.1
        · rw [gI_sI, if_neg (fun z => q5 z.1.symm), gI_sI, if_neg (fun z => q5 z.1.symm), gI_sI, if_neg (by omega), gI_sI, if_neg (fun z => q1 z.1.symm)]; exact h9.2
      · rw [gI_sI, if_neg (fun z => q4 z.1.symm), gI_sI, if_neg (fun z => q4 z.1.symm), gI_sI, if_neg (fun z => q1 z.1), gI_sI, if_pos ⟨rfl, rfl⟩]
      · rw [gI_sI, if_neg (fun z => q5 z.1.symm), gI_sI, if_neg (fun z => q5 z.1.symm), gI_sI, if_pos ⟨rfl, rfl⟩]
      · by_cases c : nb n b 0 = n
        · exact Or.inl c
        · have hlt : nb n b 0 < n := by omega
          exact Or.inr ⟨hlt, hB0.2.2.1 hlt⟩
      · rw [e6 9 (by omega) (by omega), A1.I (by omega)]; exact hf
    rw [← hv] at go
    exact go
end CV
