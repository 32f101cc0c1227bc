/-! chain: the class's walk and answer -/
section CW
variable {d t u n p q f g m e K k dd c j bl x y i h L v : Nat} {cp lv : Nat → Int32} {b : Nat → Nat} {a a' ak : Nat → Int32} {img : Bool} {fl : Int32} {M M1 M' : pMem} {Q : pOut → pMem → Prop} {w z : Int32}
theorem w_next (sh : ShP (gS M) (gP M)) (hc : CpO M n cp) (hn : n ≤ 12) (hl : ∀ k, k < n → gI M 80 k = lv k) (hI : LvI cp n w (n - 1) lv) (hv : v < n) (hL : lv v = nN (L + 1)) (hL50 : L < 50) : mw (d + 2) 178 [.ref 76, .int (nN v), .int w] M Q = Q (.inl (some (.int (nN (nxJ cp lv n w v))))) M := by
  have k76 := sh.k76
  have k77 := sh.k77
  have k80 := sh.k80
  have pa := sh.a
  have pd := sh.d
  obtain ⟨n1, c1⟩ := hc
  obtain ⟨a1, a2, a3⟩ := nx_ok (v := v) hI hL50 hL
  have e1 : nN (L + 1) - nN 1 = nN L := by rw [nN_subN (by omega)]; rfl
  have gv := hl v hv
  have pre := fstN_pre (P := nxP cp lv w v) n 0
  have pre2 : ∀ i, i < nxJ cp lv n w v → nxP cp lv w v i = true := fun i hi => pre i (by omega) hi
  clear pre
  have mL : ¬ nN L = iN (-1) := nN_m (by omega)
  have key : ∀ (l j : Nat) (z : Option Value), j + l = nxJ cp lv n w v → bw (d + 1) 178 1 ([some (.ref 76), some (.int (nN v)), some (.int w), some (.int (nN j)), z], [], M) Q = Q (.inl (some (.int (nN (nxJ cp lv n w v))))) M := by
    generalize nxJ cp lv n w v = r at *
    intro l
    induction l with
    | zero =>
      intro j z hj
      have : r = j := by omega
      subst this
      have gj := hl r a1
      have g6 := c1 v r hv a1
      have h3 : ¬ n ≤ r := by omega
      have i9 : v * 12 + r = 12 * v + r := by omega
      have a4 : ¬ cp (12 * v + r) < w := Int32.not_lt.mpr a3
      rw [e_178_1]
      simp (disch := omega) only [q_iconst, q_istore3, q_nop, q_iload3, q_aload0, q_aload0N, q_get_i, pTag_1, pRf_s, q_ic_ge, q_get_r, q_invs2_21, q_ic_eq, q_iload1, q_isub, q_ic_ne, q_goto, q_istore4, q_iload4, q_if_eq, q_invs2_20, q_iload2, q_ic_lt, q_iret, q_iinc3, e_178_0, e_178_2, e_178_3, e_178_4, e_178_5, L_0, L_1, k_some, k_none, pRm_i, pRm_r, pRm_0, pF_1, pF_2, inv_s, k76, k77, k80, pa, pd, n1, h3, gv, gj, g6, hL, a2, e1, a4, mL, w_atN k80, w_atN k77, m_171, q_iload0, q_bipush, q_imul, q_iload1, q_iadd, q_iret, e_171_0, L_12, i9, z10, gS_sI, gP_sI, gI_sI, Nat.add_left_cancel_iff, Nat.add_eq_left, Nat.left_eq_add, nN_le, nN_lt, nN_eq, nN_add, nN_mul, nN_lt0, nN_ge0, nN_gt0, nN_le0, nN_eq0, nN_eq1, nN_neN, pIn_n, pIx_n, eq_self, Nat.reduceLT, Bool.false_eq_true, Nat.add_zero, Nat.zero_add, Nat.reduceAdd, Nat.reduceMul, Nat.reduceSub, Nat.zero_le, Nat.reduceLeDiff, Nat.reduceEqDiff, Nat.le_refl, not_false_eq_true, not_true_eq_false, false_implies, true_implies, forall_const, true_and, and_true, if_true, if_false, implies_true, and_self, ne_eq, false_and, and_false, or_false, false_or, true_or, or_true]
    | succ l ih =>
      intro j z hj
      have hP := pre2 j (by omega)
      have j9 : j < n := by omega
      have gj := hl j j9
      have g6 := c1 v j hv j9
      have h3 : ¬ n ≤ j := by omega
      have i9 : v * 12 + j = 12 * v + j := by omega
      unfold nxP at hP
      rw [hL, e1] at hP
      rw [e_178_1]
      by_cases b1 : lv j = iN (-1)
      · simp (disch := omega) only [q_iconst, q_istore3, q_nop, q_iload3, q_aload0, q_aload0N, q_get_i, pTag_1, pRf_s, q_ic_ge, q_get_r, q_invs2_21, q_ic_eq, q_iload1, q_isub, q_ic_ne, q_goto, q_istore4, q_iload4, q_if_eq, q_invs2_20, q_iload2, q_ic_lt, q_iret, q_iinc3, e_178_0, e_178_2, e_178_3, e_178_4, e_178_5, L_0, L_1, k_some, k_none, pRm_i, pRm_r, pRm_0, pF_1, pF_2, inv_s, k76, k77, k80, pa, pd, n1, h3, gv, gj, g6, hL, e1, b1, w_atN k80, w_atN k77, m_171, q_iload0, q_bipush, q_imul, q_iload1, q_iadd, q_iret, e_171_0, L_12, i9, z00, gS_sI, gP_sI, gI_sI, Nat.add_left_cancel_iff, Nat.add_eq_left, Nat.left_eq_add, nN_le, nN_lt, nN_eq, nN_add, nN_mul, nN_lt0, nN_ge0, nN_gt0, nN_le0, nN_eq0, nN_eq1, nN_neN, pIn_n, pIx_n, eq_self, Nat.reduceLT, Bool.false_eq_true, Nat.add_zero, Nat.zero_add, Nat.reduceAdd, Nat.reduceMul, Nat.reduceSub, Nat.zero_le, Nat.reduceLeDiff, Nat.reduceEqDiff, Nat.le_refl, not_false_eq_true, not_true_eq_false, false_implies, true_implies, forall_const, true_and, and_true, if_true, if_false, implies_true, and_self, ne_eq, false_and, and_false, or_false, false_or, true_or, or_true]
        exact ih (j + 1) _ (by omega)
      · by_cases b2 : lv j = nN L
        · have b3 : cp (12 * v + j) < w := Int32.not_le.mp (fun z => by simp [b2, z] at hP)
          simp (disch := omega) only [q_iconst, q_istore3, q_nop, q_iload3, q_aload0, q_aload0N, q_get_i, pTag_1, pRf_s, q_ic_ge, q_get_r, q_invs2_21, q_ic_eq, q_iload1, q_isub, q_ic_ne, q_goto, q_istore4, q_iload4, q_if_eq, q_invs2_20, q_iload2, q_ic_lt, q_iret, q_iinc3, e_178_0, e_178_2, e_178_3, e_178_4, e_178_5, L_0, L_1, k_some, k_none, pRm_i, pRm_r, pRm_0, pF_1, pF_2, inv_s, k76, k77, k80, pa, pd, n1, h3, gv, gj, g6, hL, e1, b2, b3, mL, w_atN k80, w_atN k77, m_171, q_iload0, q_bipush, q_imul, q_iload1, q_iadd, q_iret, e_171_0, L_12, i9, z10, gS_sI, gP_sI, gI_sI, Nat.add_left_cancel_iff, Nat.add_eq_left, Nat.left_eq_add, nN_le, nN_lt, nN_eq, nN_add, nN_mul, nN_lt0, nN_ge0, nN_gt0, nN_le0, nN_eq0, nN_eq1, nN_neN, pIn_n, pIx_n, eq_self, Nat.reduceLT, Bool.false_eq_true, Nat.add_zero, Nat.zero_add, Nat.reduceAdd, Nat.reduceMul, Nat.reduceSub, Nat.zero_le, Nat.reduceLeDiff, Nat.reduceEqDiff, Nat.le_refl, not_false_eq_true, not_true_eq_false, false_implies, true_implies, forall_const, true_and, and_true, if_true, if_false, implies_true, and_self, ne_eq, false_and, and_false, or_false, false_or, true_or, or_true]
          exact ih (j + 1) _ (by omega)
        · simp (disch := omega) only [q_iconst, q_istore3, q_nop, q_iload3, q_aload0, q_aload0N, q_get_i, pTag_1, pRf_s, q_ic_ge, q_get_r, q_invs2_21, q_ic_eq, q_iload1, q_isub, q_ic_ne, q_goto, q_istore4, q_iload4, q_if_eq, q_invs2_20, q_iload2, q_ic_lt, q_iret, q_iinc3, e_178_0, e_178_2, e_178_3, e_178_4, e_178_5, L_0, L_1, k_some, k_none, pRm_i, pRm_r, pRm_0, pF_1, pF_2, inv_s, k76, k77, k80, pa, pd, n1, h3, gv, gj, g6, hL, e1, b1, b2, w_atN k80, w_atN k77, m_171, q_iload0, q_bipush, q_imul, q_iload1, q_iadd, q_iret, e_171_0, L_12, i9, z00, gS_sI, gP_sI, gI_sI, Nat.add_left_cancel_iff, Nat.add_eq_left, Nat.left_eq_add, nN_le, nN_lt, nN_eq, nN_add, nN_mul, nN_lt0, nN_ge0, nN_gt0, nN_le0, nN_eq0, nN_eq1, nN_neN, pIn_n, pIx_n, eq_self, Nat.reduceLT, Bool.false_eq_true, Nat.add_zero, Nat.zero_add, Nat.reduceAdd, Nat.reduceMul, Nat.reduceSub, Nat.zero_le, Nat.reduceLeDiff, Nat.reduceEqDiff, Nat.le_refl, not_false_eq_true, not_true_eq_false, false_implies, true_implies, forall_const, true_and, and_true, if_true, if_false, implies_true, and_self, ne_eq, false_and, and_false, or_false, false_or, true_or, or_true]
          exact ih (j + 1) _ (by omega)
  simp (disch := omega) only [m_178, q_iconst, q_istore3, q_nop, q_iload3, q_aload0, q_aload0N, q_get_i, pTag_1, pRf_s, q_ic_ge, q_get_r, q_invs2_21, q_ic_eq, q_iload1, q_isub, q_ic_ne, q_goto, q_istore4, q_iload4, q_if_eq, q_invs2_20, q_iload2, q_ic_lt, q_iret, q_iinc3, e_178_0, e_178_4, e_178_5, L_0, L_1, k_some, k_none, pRm_i, pRm_r, pRm_0, pF_1, pF_2, inv_s, eq_self, Nat.reduceLT, Bool.false_eq_true, Nat.add_zero, Nat.zero_add, Nat.reduceAdd, Nat.reduceMul, Nat.reduceSub, Nat.zero_le, Nat.reduceLeDiff, Nat.reduceEqDiff, Nat.le_refl, not_false_eq_true, not_true_eq_false, false_implies, true_implies, forall_const, true_and, and_true, if_true, if_false, implies_true, and_self, ne_eq, false_and, and_false, or_false, false_or, true_or, or_true]
  exact key _ 0 none (Nat.zero_add _)
theorem w_onChain (sh : ShP (gS M) (gP M)) (hc : CpO M n cp) (hn : n ≤ 12) (hl : ∀ k, k < n → gI M 80 k = lv k) (hI : LvI cp n w (n - 1) lv) (hx : x < n) (hk : k < 2147483648) : mw (d + 4) 177 [.ref 76, .int (nN x), .int w, .int (nN k)] M Q = Q (.inl (some (.int (if nN k ≤ lv x then nN (wkJ cp lv n w k x) else iN (-1))))) M := by
  have k76 := sh.k76
  have k80 := sh.k80
  have pd := sh.d
  have n1 := hc.1
  have gx := hl x hx
  have fin : ∀ (l c v L : Nat), c + l = k → v < n → lv v = nN L → l ≤ L → c + L < n → bw (d + 3) 177 2 ([some (.ref 76), some (.int (nN x)), some (.int w), some (.int (nN k)), some (.int (nN v)), some (.int (nN c))], [], M) Q = Q (.inl (some (.int (nN (wkJ cp lv n w l v))))) M := by
    intro l
    induction l with
    | zero =>
      intro c v L hc9 hv hL hk hL50
      have h3 : k ≤ c := by omega
      rw [e_177_2]
      simp (disch := omega) only [q_iload3, q_aload0, q_aload0N, q_iload1, q_invv1, inv_1, q_ic_le, q_iconst, q_iret, q_istore4, q_istore5, q_nop, q_iload5, q_ic_ge, q_get_i, pTag_1, pRf_s, q_iload4, q_iload2, q_invv2, q_iinc5, q_goto, e_177_0, e_177_1, e_177_3, L_0, L_1, k_some, k_none, pRm_i, pRm_r, pRm_0, pF_1, pF_2, inv_s, h3, nN_le, nN_lt, nN_eq, nN_add, nN_mul, nN_lt0, nN_ge0, nN_gt0, nN_le0, nN_eq0, nN_eq1, nN_neN, pIn_n, pIx_n, eq_self, Nat.reduceLT, Bool.false_eq_true, Nat.add_zero, Nat.zero_add, Nat.reduceAdd, Nat.reduceMul, Nat.reduceSub, Nat.zero_le, Nat.reduceLeDiff, Nat.reduceEqDiff, Nat.le_refl, not_false_eq_true, not_true_eq_false, false_implies, true_implies, forall_const, true_and, and_true, if_true, if_false, implies_true, and_self, ne_eq, false_and, and_false, or_false, false_or, true_or, or_true]
      rfl
    | succ l ih =>
      intro c v L hc9 hv hL hk hL50
      have h3 : ¬ k ≤ c := by omega
      have h4 : ¬ n ≤ c := by omega
      obtain ⟨L', rfl⟩ : ∃ L', L = L' + 1 := ⟨L - 1, by omega⟩
      obtain ⟨a1, a2, a3⟩ := nx_ok (v := v) hI (dd := L') (by omega) hL
      rw [e_177_2]
      simp (disch := omega) only [q_iload3, q_aload0, q_aload0N, q_iload1, q_invv1, inv_1, q_ic_le, q_iconst, q_iret, q_istore4, q_istore5, q_nop, q_iload5, q_ic_ge, q_get_i, pTag_1, pRf_s, q_iload4, q_iload2, q_invv2, q_iinc5, q_goto, e_177_0, e_177_1, e_177_3, L_0, L_1, k_some, k_none, pRm_i, pRm_r, pRm_0, pF_1, pF_2, inv_s, k76, n1, h3, h4, w_next (d := d + 1) sh hc hn hl hI hv hL (show L' < 50 by omega), gS_sI, gP_sI, gI_sI, Nat.add_left_cancel_iff, Nat.add_eq_left, Nat.left_eq_add, nN_le, nN_lt, nN_eq, nN_add, nN_mul, nN_lt0, nN_ge0, nN_gt0, nN_le0, nN_eq0, nN_eq1, nN_neN, pIn_n, pIx_n, eq_self, Nat.reduceLT, Bool.false_eq_true, Nat.add_zero, Nat.zero_add, Nat.reduceAdd, Nat.reduceMul, Nat.reduceSub, Nat.zero_le, Nat.reduceLeDiff, Nat.reduceEqDiff, Nat.le_refl, not_false_eq_true, not_true_eq_false, false_implies, true_implies, forall_const, true_and, and_true, if_true, if_false, implies_true, and_self, ne_eq, false_and, and_false, or_false, false_or, true_or, or_true]
      exact ih (c + 1) _ L' (by omega) a1 a2 (by omega) (by omega)
  by_cases c : nN k ≤ lv x
  · rw [if_pos c]
    rcases hI.1 x with h | ⟨L, h1, h2⟩
    · rw [h, Int32.le_iff_toInt_le, iN_toInt ⟨by decide, by decide⟩, nN_toInt (by omega)] at c
      omega
    · simp (disch := omega) only [m_177, q_iload3, q_aload0, q_aload0N, q_iload1, q_invv1, inv_1, q_ic_le, q_iconst, q_iret, q_istore4, q_istore5, q_nop, q_iload5, q_ic_ge, q_get_i, pTag_1, pRf_s, q_iload4, q_iload2, q_invv2, q_iinc5, q_goto, e_177_0, e_177_1, e_177_3, L_0, L_1, k_some, k_none, pRm_i, pRm_r, pRm_0, pF_1, pF_2, inv_s, k76, k80, pd, m_176, q_aload0, q_aload0N, q_get_r, pTag_1, pRf_s, q_iload1, q_invs2_21, q_iret, e_176_0, k_some, k_none, pRm_i, pRm_r, pRm_0, pF_1, pF_2, inv_s, w_atN k80, gx, c, gS_sI, gP_sI, gI_sI, Nat.add_left_cancel_iff, Nat.add_eq_left, Nat.left_eq_add, nN_le, nN_lt, nN_eq, nN_add, nN_mul, nN_lt0, nN_ge0, nN_gt0, nN_le0, nN_eq0, nN_eq1, nN_neN, pIn_n, pIx_n, eq_self, Nat.reduceLT, Bool.false_eq_true, Nat.add_zero, Nat.zero_add, Nat.reduceAdd, Nat.reduceMul, Nat.reduceSub, Nat.zero_le, Nat.reduceLeDiff, Nat.reduceEqDiff, Nat.le_refl, not_false_eq_true, not_true_eq_false, false_implies, true_implies, forall_const, true_and, and_true, if_true, if_false, implies_true, and_self, ne_eq, false_and, and_false, or_false, false_or, true_or, or_true]
      rw [h2, nN_le (by omega) (by omega)] at c
      exact fin k 0 x L (by omega) hx h2 c (by omega)
  · rw [if_neg c]
    simp (disch := omega) only [m_177, q_iload3, q_aload0, q_aload0N, q_iload1, q_invv1, inv_1, q_ic_le, q_iconst, q_iret, q_istore4, q_istore5, q_nop, q_iload5, q_ic_ge, q_get_i, pTag_1, pRf_s, q_iload4, q_iload2, q_invv2, q_iinc5, q_goto, e_177_0, e_177_1, e_177_3, L_0, L_1, k_some, k_none, pRm_i, pRm_r, pRm_0, pF_1, pF_2, inv_s, k76, k80, pd, m_176, q_aload0, q_aload0N, q_get_r, pTag_1, pRf_s, q_iload1, q_invs2_21, q_iret, e_176_0, k_some, k_none, pRm_i, pRm_r, pRm_0, pF_1, pF_2, inv_s, w_atN k80, gx, c, gS_sI, gP_sI, gI_sI, Nat.add_left_cancel_iff, Nat.add_eq_left, Nat.left_eq_add, nN_le, nN_lt, nN_eq, nN_add, nN_mul, nN_lt0, nN_ge0, nN_gt0, nN_le0, nN_eq0, nN_eq1, nN_neN, pIn_n, pIx_n, eq_self, Nat.reduceLT, Bool.false_eq_true, Nat.add_zero, Nat.zero_add, Nat.reduceAdd, Nat.reduceMul, Nat.reduceSub, Nat.zero_le, Nat.reduceLeDiff, Nat.reduceEqDiff, Nat.le_refl, not_false_eq_true, not_true_eq_false, false_implies, true_implies, forall_const, true_and, and_true, if_true, if_false, implies_true, and_self, ne_eq, false_and, and_false, or_false, false_or, true_or, or_true]
def X85 (S : Nat → Nat × Nat) (P : Nat → Nat → Option Nat) (h k : Nat) : Prop := XC S P 3 h k ∨ (76 ≤ h ∧ h ≤ 85)
theorem yc_85 (c : CI M a ak img n b fl) (A : Ag (X85 (gS M) (gP M)) M M') : Yc M a M' := by
  have h := c.sh
  have K : KF M M' := by
    refine ⟨⟨A.S, A.J, A.N, A.L⟩, fun h k _ => by rw [A.P], fun j k z => ?_, fun q cs h => h.agA (A.mono ?_)⟩
    · refine A.I ?_
      rintro (z1 | z1)
      · rcases XC_XTw _ _ z1 with e | ⟨q, e1, e2⟩
        · omega
        · by_cases c : j = 900000
          · subst c; exact TSh_900 h e1 e2
          · obtain ⟨e3, -⟩ := e1
            rcases e2 with e | ⟨e, -⟩ <;> omega
      · omega
    · rintro h k (z1 | z1)
      · exact XTw_XA (t := 3) (by omega) h k (XC_XTw h k z1)
      · exact Or.inl (by omega)
  refine ⟨K, ?_, K.tm c.tm (by omega)⟩
  exact c.rep.ag A (fun h k h1 h2 h3 => by
    rintro (z | z)
    · exact XC_low (by omega) h3 z
    · omega)
theorem yc_xs (c : CI M a ak img n b fl) (A1 : Ag (XO (gS M) (gP M)) M M1) (A2 : Ag XS M1 M') : Yc M a M' := by
  refine yc_85 c ((A1.mono ?_).trans (A2.mono ?_))
  · rintro h k (z | z | z)
    · exact Or.inl z
    · exact Or.inr (by omega)
    · exact Or.inr (by omega)
  · rintro h k (z | z) <;> exact Or.inr (by omega)
theorem c_chain (c : CI M a ak img n b fl) (hw : Wf a) (hp : p < nP a) (hq : q < nP a) (hne : p ≠ q) (h1 : 1 ≤ g) (h2 : g ≤ 99) (hz : iN (-1) ≤ z) : mw (d + 13) 27 [.ref 0, .int (nN p), .int (nN q), .int (nN g), .int z] M (fun o M' => o = .inl (some (.int (sChain a p q (nN g) z))) ∧ Yc M a M') := by
  obtain ⟨t, ht⟩ : ∃ t : Nat, t = 3 := ⟨3, rfl⟩
  have hr : Rep M t a := by rw [ht]; exact c.rep
  have hT : TmR M t a := by rw [ht]; exact c.tm
  have p1 : gP M 0 1 = some t := by rw [ht]; exact c.sh.p1
  have k0 := c.sh.k0
  have hp9 := hw.p'
  have hf9 := hw.f'
  have p6 := c.sh.p6
  have hS : (gS M 76).1 = 4 := by rw [c.sh.k76]
  simp (disch := omega) only [m_27, q_aload0, q_aload0N, q_iload1, q_iload2, q_invv2, inv_1, q_iload3, q_invs1_20, q_iload4, q_get_r, pTag_1, pRf_s, q_invv1, q_iconst, q_ic_ne, q_goto, q_invv3, q_nop, q_iret, e_27_0, k_some, k_none, pRm_i, pRm_r, pRm_0, pF_1, pF_2, inv_s, k0, p1, p6, hS, w_need2 c hw, w_needW, w_needK hz, hr.sh.k0, hr.nt, hr.ne, hr.nr, hr.nx, hr.day, hr.law, hr.sh.p0, hr.sh.p1, hr.sh.p2, hr.sh.p3, hr.sh.p4, hr.sh.p5, hr.sh.p6, hr.sh.p7, hr.sh.p8, nN_le, nN_lt, nN_eq, nN_add, nN_mul, nN_lt0, nN_ge0, nN_gt0, nN_le0, nN_eq0, nN_eq1, nN_neN, pIn_n, pIx_n, eq_self, Nat.reduceLT, Bool.false_eq_true, Nat.add_zero, Nat.zero_add, Nat.reduceAdd, Nat.reduceMul, Nat.reduceSub, Nat.zero_le, Nat.reduceLeDiff, Nat.reduceEqDiff, Nat.le_refl, not_false_eq_true, not_true_eq_false, false_implies, true_implies, forall_const, true_and, and_true, if_true, if_false, implies_true, and_self, ne_eq, false_and, and_false, or_false, false_or, true_or, or_true]
  subst ht
  refine mw_mono (w_open (d := d) c hw) ?_
  rintro _ M1 ⟨rfl, n1, e1, A1⟩
  have sh1 : ShP (gS M1) (gP M1) := by rw [A1.S, A1.P]; exact c.sh.shp
  have k01 : (gS M1 0).1 = 11 := by rw [A1.S, k0]
  have p61 : gP M1 0 6 = some 76 := by rw [A1.P]; exact p6
  have hS1 : (gS M1 76).1 = 4 := by rw [A1.S]; exact hS
  have hp' := hw.p'
  have cp1 : CpO M1 (nP a) (cT a) := ⟨n1, fun i j hi hj => by rw [e1 i j hi hj, cT_at hp' hi hj]⟩
  simp (disch := omega) only [q_aload0, q_aload0N, q_iload1, q_iload2, q_invv2, inv_1, q_iload3, q_invs1_20, q_iload4, q_get_r, pTag_1, pRf_s, q_invv1, q_iconst, q_ic_ne, q_goto, q_invv3, q_nop, q_iret, e_27_0, k_some, k_none, pRm_i, pRm_r, pRm_0, pF_1, pF_2, inv_s, k01, p61, hS1, nN_le, nN_lt, nN_eq, nN_add, nN_mul, nN_lt0, nN_ge0, nN_gt0, nN_le0, nN_eq0, nN_eq1, nN_neN, pIn_n, pIx_n, eq_self, Nat.reduceLT, Bool.false_eq_true, Nat.add_zero, Nat.zero_add, Nat.reduceAdd, Nat.reduceMul, Nat.reduceSub, Nat.zero_le, Nat.reduceLeDiff, Nat.reduceEqDiff, Nat.le_refl, not_false_eq_true, not_true_eq_false, false_implies, true_implies, forall_const, true_and, and_true, if_true, if_false, implies_true, and_self, ne_eq, false_and, and_false, or_false, false_or, true_or, or_true]
  refine mw_mono (w_countSteps (d := d + 9) (w := nN g) sh1 cp1 hp' hq) ?_
  rintro _ M2 ⟨rfl, B2, A2⟩
  have k02 : (gS M2 0).1 = 11 := by rw [A2.S]; exact k01
  have p62 : gP M2 0 6 = some 76 := by rw [A2.P]; exact p61
  have hS2 : (gS M2 76).1 = 4 := by rw [A2.S]; exact hS1
  have sh2 : ShP (gS M2) (gP M2) := by rw [A2.S, A2.P]; exact sh1
  have cp2 := cp1.ag A2 XS_cp
  have hl : ∀ k, k < nP a → gI M2 80 k = lvF (cT a) (nP a) (nN g) q k := fun k hk => by rw [B2.1 k (by omega)]; exact clF_eq hp' hq hk
  have I := lvF_ok (cp := cT a) (t := nN g) (y := q) hp'
  have ev : sChain a p q (nN g) z = if lvF (cT a) (nP a) (nN g) q p = iN (-1) ∨ z = iN (-1) then lvF (cT a) (nP a) (nN g) q p else if z ≤ lvF (cT a) (nP a) (nN g) q p then nN (wkJ (cT a) (lvF (cT a) (nP a) (nN g) q) (nP a) (nN g) z.toInt.toNat p) else iN (-1) := rfl
  rw [ev]
  clear ev
  have Y := yc_xs c A1 A2
  generalize lvF (cT a) (nP a) (nN g) q = lv at *
  have gx := hl p hp
  have k80 := sh2.k80
  have pd := sh2.d
  by_cases d2 : z = iN (-1)
  · subst d2
    rw [if_pos (Or.inr rfl)]
    simp (disch := omega) only [q_aload0, q_aload0N, q_iload1, q_iload2, q_invv2, inv_1, q_iload3, q_invs1_20, q_iload4, q_get_r, pTag_1, pRf_s, q_invv1, q_iconst, q_ic_ne, q_goto, q_invv3, q_nop, q_iret, e_27_0, e_27_1, e_27_2, k_some, k_none, pRm_i, pRm_r, pRm_0, pF_1, pF_2, inv_s, k02, p62, hS2, m_176, q_aload0, q_aload0N, q_get_r, pTag_1, pRf_s, q_iload1, q_invs2_21, q_iret, e_176_0, k_some, k_none, pRm_i, pRm_r, pRm_0, pF_1, pF_2, inv_s, w_atN k80, pd, gx, nN_le, nN_lt, nN_eq, nN_add, nN_mul, nN_lt0, nN_ge0, nN_gt0, nN_le0, nN_eq0, nN_eq1, nN_neN, pIn_n, pIx_n, eq_self, Nat.reduceLT, Bool.false_eq_true, Nat.add_zero, Nat.zero_add, Nat.reduceAdd, Nat.reduceMul, Nat.reduceSub, Nat.zero_le, Nat.reduceLeDiff, Nat.reduceEqDiff, Nat.le_refl, not_false_eq_true, not_true_eq_false, false_implies, true_implies, forall_const, true_and, and_true, if_true, if_false, implies_true, and_self, ne_eq, false_and, and_false, or_false, false_or, true_or, or_true]
    exact Y
  · obtain ⟨zi, hzi, rfl⟩ := iN_ex z
    have b1 := (iN_le (a := -1) ⟨by decide, by decide⟩ hzi).mp hz
    have b3 : ¬ zi = -1 := fun e => d2 (by rw [e])
    have b4 := hzi.2
    have ez : iN zi = nN zi.toNat := by unfold nN; congr 1; omega
    rw [ez] at d2 ⊢
    have bk : zi.toNat < 2147483648 := by omega
    simp (disch := omega) only [q_aload0, q_aload0N, q_iload1, q_iload2, q_invv2, inv_1, q_iload3, q_invs1_20, q_iload4, q_get_r, pTag_1, pRf_s, q_invv1, q_iconst, q_ic_ne, q_goto, q_invv3, q_nop, q_iret, e_27_0, e_27_1, e_27_2, k_some, k_none, pRm_i, pRm_r, pRm_0, pF_1, pF_2, inv_s, k02, p62, hS2, d2, w_onChain (d := d + 8) (k := zi.toNat) sh2 cp2 hp' hl I hp bk, nN_le, nN_lt, nN_eq, nN_add, nN_mul, nN_lt0, nN_ge0, nN_gt0, nN_le0, nN_eq0, nN_eq1, nN_neN, pIn_n, pIx_n, eq_self, Nat.reduceLT, Bool.false_eq_true, Nat.add_zero, Nat.zero_add, Nat.reduceAdd, Nat.reduceMul, Nat.reduceSub, Nat.zero_le, Nat.reduceLeDiff, Nat.reduceEqDiff, Nat.le_refl, not_false_eq_true, not_true_eq_false, false_implies, true_implies, forall_const, true_and, and_true, if_true, if_false, implies_true, and_self, ne_eq, false_and, and_false, or_false, false_or, true_or, or_true]
    refine ⟨?_, Y⟩
    rw [nN_toInt (by omega)]
    by_cases d1 : lv p = iN (-1)
    · rw [if_pos d1, d1, if_neg]
      rw [Int32.le_iff_toInt_le, iN_toInt ⟨by decide, by decide⟩, nN_toInt (by omega)]
      omega
    · rw [if_neg d1]
      rfl
end CW
