/-! THE CLASS READS CONDITIONS -/
section TC9
variable {d n R tr br tb sr cr p q k m c K : Nat} {b : Nat → Nat} {W : List (List Nat)} {cs : List Nat} {M M1 M' : pMem} {Q : pOut → pMem → Prop} {x dp : Int32} {atm : Nat → pZ}
theorem w_compC (h : TpS M R tr br tb sr cr n b W q cs) (hroom : cs.length ≤ q) : mw (d + 5) 212 [.ref R] M (fun o M' => TpE R tr br tb sr cr n b W cs (pComp (th W n b) (nx9 n b) 400 q) o M' ∧ Ag (RdZ R cr) M M') := by
  have hk8 := h.2.1.1
  have hn := h.1.n9
  have hqn := h.1.le
  have G1 := Gd_sum (F := 400) (W := W) (b := b) hqn
  unfold pComp
  simp (disch := omega) only [m_212, q_aload0, q_aload0N, q_invv0, inv_1, q_if_ne, q_iconst, q_zret, q_get_i, pTag_1, pRf_s, q_istore1, q_iload1, q_sipush, q_ic_eq, q_istore2, q_invv1, q_iload2, e_212_0, L_0, L_2060, L_2062, k_some, k_none, pRm_i, pRm_r, pRm_0, pF_1, pF_2, inv_s, hk8, eq_self, Nat.reduceLT, Bool.false_eq_true, Nat.add_zero, Nat.zero_add, Nat.reduceAdd, Nat.reduceMul, Nat.reduceSub, Nat.zero_le, Nat.reduceLeDiff, Nat.reduceEqDiff, Nat.le_refl, not_false_eq_true, not_true_eq_false, false_implies, true_implies, forall_const, true_and, and_true, if_true, if_false, implies_true, and_self, ne_eq, false_and, and_false, or_false, false_or, true_or, or_true]
  refine mw_mono (w_sumC h hroom) ?_
  rintro o M1 ⟨h1, A1⟩
  cases hs : pSum (th W n b) (nx9 n b) 400 q with
  | inl e =>
    rw [hs] at h1
    obtain ⟨rfl, h2⟩ := h1
    simp (disch := omega) only [q_aload0, q_aload0N, q_invv0, inv_1, q_if_ne, q_iconst, q_zret, q_get_i, pTag_1, pRf_s, q_istore1, q_iload1, q_sipush, q_ic_eq, q_istore2, q_invv1, q_iload2, e_212_0, L_0, L_2060, L_2062, k_some, k_none, pRm_i, pRm_r, pRm_0, pF_1, pF_2, inv_s, zb_0, nN_le, nN_lt, nN_eq, nN_add, nN_mul, nN_lt0, nN_ge0, nN_gt0, nN_le0, nN_eq0, nN_eq1, nN_neN, pIn_n, pIx_n, eq_self, Nat.reduceLT, Bool.false_eq_true, Nat.add_zero, Nat.zero_add, Nat.reduceAdd, Nat.reduceMul, Nat.reduceSub, Nat.zero_le, Nat.reduceLeDiff, Nat.reduceEqDiff, Nat.le_refl, not_false_eq_true, not_true_eq_false, false_implies, true_implies, forall_const, true_and, and_true, if_true, if_false, implies_true, and_self, ne_eq, false_and, and_false, or_false, false_or, true_or, or_true]
    exact ⟨⟨rfl, h2⟩, A1⟩
  | inr s =>
    rw [hs] at h1 G1
    obtain ⟨rfl, h2⟩ := h1
    obtain ⟨g1, ⟨g2, g3⟩, -⟩ := G1
    have hk81 := h2.2.1.1
    have htl := h2.1.tl s.1
    simp only [pThen]
    simp (disch := omega) only [q_aload0, q_aload0N, q_invv0, inv_1, q_if_ne, q_iconst, q_zret, q_get_i, pTag_1, pRf_s, q_istore1, q_iload1, q_sipush, q_ic_eq, q_istore2, q_invv1, q_iload2, e_212_0, e_212_1, L_0, L_2060, L_2062, k_some, k_none, pRm_i, pRm_r, pRm_0, pF_1, pF_2, inv_s, hk81, h2.1.tg, nN_le, nN_lt, nN_eq, nN_add, nN_mul, nN_lt0, nN_ge0, nN_gt0, nN_le0, nN_eq0, nN_eq1, nN_neN, pIn_n, pIx_n, eq_self, Nat.reduceLT, Bool.false_eq_true, Nat.add_zero, Nat.zero_add, Nat.reduceAdd, Nat.reduceMul, Nat.reduceSub, Nat.zero_le, Nat.reduceLeDiff, Nat.reduceEqDiff, Nat.le_refl, not_false_eq_true, not_true_eq_false, false_implies, true_implies, forall_const, true_and, and_true, if_true, if_false, implies_true, and_self, ne_eq, false_and, and_false, or_false, false_or, true_or, or_true]
    by_cases c : th W n b s.1 = 2060 ∨ th W n b s.1 = 2062
    · rw [if_pos c]
      have hp := (h2.1.lt (by omega)).1
      have hx := At_nx (b := b) hp
      have hl2 : (cs ++ s.2.1).length ≤ s.1 := by rw [List.length_append]; omega
      have G2 := Gd_sum (F := 400) (W := W) (b := b) hx.2.1
      have go : bw (d + 4) 212 2 ([some (.ref R), some (.int (nN (th W n b s.1))), none], [], M1) (fun o M' => TpE R tr br tb sr cr n b W cs (match pSum (th W n b) (nx9 n b) 400 (nx9 n b s.1) with | .inl e => .inl e | .inr s2 => .inr (s2.1, s.2.1 ++ s2.2.1 ++ [th W n b s.1], fun fv => sJoin (th W n b s.1) (s.2.2 fv) (s2.2.2 fv))) o M' ∧ Ag (RdZ R cr) M M') := by
        rw [e_212_2]
        simp (disch := omega) only [q_aload0, q_aload0N, q_invv0, inv_1, q_if_ne, q_iconst, q_zret, q_get_i, pTag_1, pRf_s, q_istore1, q_iload1, q_sipush, q_ic_eq, q_istore2, q_invv1, q_iload2, e_212_0, L_0, L_2060, L_2062, k_some, k_none, pRm_i, pRm_r, pRm_0, pF_1, pF_2, inv_s, hk81, nN_le, nN_lt, nN_eq, nN_add, nN_mul, nN_lt0, nN_ge0, nN_gt0, nN_le0, nN_eq0, nN_eq1, nN_neN, pIn_n, pIx_n, eq_self, Nat.reduceLT, Bool.false_eq_true, Nat.add_zero, Nat.zero_add, Nat.reduceAdd, Nat.reduceMul, Nat.reduceSub, Nat.zero_le, Nat.reduceLeDiff, Nat.reduceEqDiff, Nat.le_refl, not_false_eq_true, not_true_eq_false, false_implies, true_implies, forall_const, true_and, and_true, if_true, if_false, implies_true, and_self, ne_eq, false_and, and_false, or_false, false_or, true_or, or_true]
        refine mw_mono (w_stepT h2 hp) ?_
        rintro _ M2 ⟨rfl, h3, A2⟩
        have hk82 := h3.2.1.1
        simp (disch := omega) only [q_aload0, q_aload0N, q_invv0, inv_1, q_if_ne, q_iconst, q_zret, q_get_i, pTag_1, pRf_s, q_istore1, q_iload1, q_sipush, q_ic_eq, q_istore2, q_invv1, q_iload2, e_212_0, L_0, L_2060, L_2062, k_some, k_none, pRm_i, pRm_r, pRm_0, pF_1, pF_2, inv_s, hk82, nN_le, nN_lt, nN_eq, nN_add, nN_mul, nN_lt0, nN_ge0, nN_gt0, nN_le0, nN_eq0, nN_eq1, nN_neN, pIn_n, pIx_n, eq_self, Nat.reduceLT, Bool.false_eq_true, Nat.add_zero, Nat.zero_add, Nat.reduceAdd, Nat.reduceMul, Nat.reduceSub, Nat.zero_le, Nat.reduceLeDiff, Nat.reduceEqDiff, Nat.le_refl, not_false_eq_true, not_true_eq_false, false_implies, true_implies, forall_const, true_and, and_true, if_true, if_false, implies_true, and_self, ne_eq, false_and, and_false, or_false, false_or, true_or, or_true]
        refine mw_mono (w_sumC h3 (by omega)) ?_
        rintro o M3 ⟨h4, A3⟩
        cases hs2 : pSum (th W n b) (nx9 n b) 400 (nx9 n b s.1) with
        | inl e =>
          rw [hs2] at h4
          obtain ⟨rfl, h5⟩ := h4
          have hk83 : (gS M3 R).1 = 8 := by rw [A3.S]; exact hk82
          simp (disch := omega) only [q_aload0, q_aload0N, q_invv0, inv_1, q_if_ne, q_iconst, q_zret, q_get_i, pTag_1, pRf_s, q_istore1, q_iload1, q_sipush, q_ic_eq, q_istore2, q_invv1, q_iload2, e_212_0, L_0, L_2060, L_2062, k_some, k_none, pRm_i, pRm_r, pRm_0, pF_1, pF_2, inv_s, hk83, nN_le, nN_lt, nN_eq, nN_add, nN_mul, nN_lt0, nN_ge0, nN_gt0, nN_le0, nN_eq0, nN_eq1, nN_neN, pIn_n, pIx_n, eq_self, Nat.reduceLT, Bool.false_eq_true, Nat.add_zero, Nat.zero_add, Nat.reduceAdd, Nat.reduceMul, Nat.reduceSub, Nat.zero_le, Nat.reduceLeDiff, Nat.reduceEqDiff, Nat.le_refl, not_false_eq_true, not_true_eq_false, false_implies, true_implies, forall_const, true_and, and_true, if_true, if_false, implies_true, and_self, ne_eq, false_and, and_false, or_false, false_or, true_or, or_true]
          refine mw_mono (w_emitAny hk83 (by rw [A3.P]; exact h3.2.1.2.1) (by rw [A3.S]; exact h3.2.1.2.2) h3.2.2.1.2.2.2) ?_
          rintro _ M4 ⟨rfl, A4⟩
          simp (disch := omega) only [q_aload0, q_aload0N, q_invv0, inv_1, q_if_ne, q_iconst, q_zret, q_get_i, pTag_1, pRf_s, q_istore1, q_iload1, q_sipush, q_ic_eq, q_istore2, q_invv1, q_iload2, e_212_0, L_0, L_2060, L_2062, k_some, k_none, pRm_i, pRm_r, pRm_0, pF_1, pF_2, inv_s, zb_0, nN_le, nN_lt, nN_eq, nN_add, nN_mul, nN_lt0, nN_ge0, nN_gt0, nN_le0, nN_eq0, nN_eq1, nN_neN, pIn_n, pIx_n, eq_self, Nat.reduceLT, Bool.false_eq_true, Nat.add_zero, Nat.zero_add, Nat.reduceAdd, Nat.reduceMul, Nat.reduceSub, Nat.zero_le, Nat.reduceLeDiff, Nat.reduceEqDiff, Nat.le_refl, not_false_eq_true, not_true_eq_false, false_implies, true_implies, forall_const, true_and, and_true, if_true, if_false, implies_true, and_self, ne_eq, false_and, and_false, or_false, false_or, true_or, or_true]
          refine ⟨⟨rfl, ?_⟩, ((A1.trans A2).trans A3).trans (A4.mono fun h k z => by rcases z with z | z; exact Or.inl z; exact Or.inr ⟨z.1, Or.inr z.2⟩)⟩
          rw [A4.I]
          · exact h5
          · rintro (z | z)
            · exact h3.2.2.1.2.2.2 z.symm
            · omega
        | inr s2 =>
          rw [hs2] at h4 G2
          obtain ⟨rfl, h5⟩ := h4
          obtain ⟨a1, ⟨a2, a3⟩, -⟩ := G2
          have hk83 := h5.2.1.1
          simp (disch := omega) only [q_aload0, q_aload0N, q_invv0, inv_1, q_if_ne, q_iconst, q_zret, q_get_i, pTag_1, pRf_s, q_istore1, q_iload1, q_sipush, q_ic_eq, q_istore2, q_invv1, q_iload2, e_212_0, L_0, L_2060, L_2062, k_some, k_none, pRm_i, pRm_r, pRm_0, pF_1, pF_2, inv_s, hk83, nN_le, nN_lt, nN_eq, nN_add, nN_mul, nN_lt0, nN_ge0, nN_gt0, nN_le0, nN_eq0, nN_eq1, nN_neN, pIn_n, pIx_n, eq_self, Nat.reduceLT, Bool.false_eq_true, Nat.add_zero, Nat.zero_add, Nat.reduceAdd, Nat.reduceMul, Nat.reduceSub, Nat.zero_le, Nat.reduceLeDiff, Nat.reduceEqDiff, Nat.le_refl, not_false_eq_true, not_true_eq_false, false_implies, true_implies, forall_const, true_and, and_true, if_true, if_false, implies_true, and_self, ne_eq, false_and, and_false, or_false, false_or, true_or, or_true]
          refine mw_mono (w_emit h5 (by simp only [List.length_append] at hl2 ⊢; omega)) ?_
          rintro _ M4 ⟨rfl, h6, A4⟩
          simp (disch := omega) only [q_aload0, q_aload0N, q_invv0, inv_1, q_if_ne, q_iconst, q_zret, q_get_i, pTag_1, pRf_s, q_istore1, q_iload1, q_sipush, q_ic_eq, q_istore2, q_invv1, q_iload2, e_212_0, L_0, L_2060, L_2062, k_some, k_none, pRm_i, pRm_r, pRm_0, pF_1, pF_2, inv_s, zb_1, nN_le, nN_lt, nN_eq, nN_add, nN_mul, nN_lt0, nN_ge0, nN_gt0, nN_le0, nN_eq0, nN_eq1, nN_neN, pIn_n, pIx_n, eq_self, Nat.reduceLT, Bool.false_eq_true, Nat.add_zero, Nat.zero_add, Nat.reduceAdd, Nat.reduceMul, Nat.reduceSub, Nat.zero_le, Nat.reduceLeDiff, Nat.reduceEqDiff, Nat.le_refl, not_false_eq_true, not_true_eq_false, false_implies, true_implies, forall_const, true_and, and_true, if_true, if_false, implies_true, and_self, ne_eq, false_and, and_false, or_false, false_or, true_or, or_true]
          refine ⟨⟨rfl, ?_⟩, ((A1.trans A2).trans A3).trans A4⟩
          show TpS M4 R tr br tb sr cr n b W s2.1 (cs ++ (s.2.1 ++ s2.2.1 ++ [th W n b s.1]))
          rw [← List.append_assoc, ← List.append_assoc]
          exact h6
      rcases c with c | c
      · rw [c] at go ⊢
        simp (disch := omega) only [eq_self, Nat.reduceLT, Bool.false_eq_true, Nat.add_zero, Nat.zero_add, Nat.reduceAdd, Nat.reduceMul, Nat.reduceSub, Nat.zero_le, Nat.reduceLeDiff, Nat.reduceEqDiff, Nat.le_refl, not_false_eq_true, not_true_eq_false, false_implies, true_implies, forall_const, true_and, and_true, if_true, if_false, implies_true, and_self, ne_eq, false_and, and_false, or_false, false_or, true_or, or_true]
        exact go
      · have c9 : ¬ 2062 = 2060 := by omega
        rw [c] at go ⊢
        simp (disch := omega) only [eq_self, Nat.reduceLT, Bool.false_eq_true, Nat.add_zero, Nat.zero_add, Nat.reduceAdd, Nat.reduceMul, Nat.reduceSub, Nat.zero_le, Nat.reduceLeDiff, Nat.reduceEqDiff, Nat.le_refl, not_false_eq_true, not_true_eq_false, false_implies, true_implies, forall_const, true_and, and_true, if_true, if_false, implies_true, and_self, ne_eq, false_and, and_false, or_false, false_or, true_or, or_true]
        exact go
    · rw [if_neg c]
      have c1 : ¬ th W n b s.1 = 2060 := fun z => c (Or.inl z)
      have c2 : ¬ th W n b s.1 = 2062 := fun z => c (Or.inr z)
      simp (disch := omega) only [c1, c2, eq_self, Nat.reduceLT, Bool.false_eq_true, Nat.add_zero, Nat.zero_add, Nat.reduceAdd, Nat.reduceMul, Nat.reduceSub, Nat.zero_le, Nat.reduceLeDiff, Nat.reduceEqDiff, Nat.le_refl, not_false_eq_true, not_true_eq_false, false_implies, true_implies, forall_const, true_and, and_true, if_true, if_false, implies_true, and_self, ne_eq, false_and, and_false, or_false, false_or, true_or, or_true]
      refine mw_mono (w_wrongT h2) ?_
      rintro _ M2 ⟨⟨rfl, h3⟩, A2⟩
      simp (disch := omega) only [q_aload0, q_aload0N, q_invv0, inv_1, q_if_ne, q_iconst, q_zret, q_get_i, pTag_1, pRf_s, q_istore1, q_iload1, q_sipush, q_ic_eq, q_istore2, q_invv1, q_iload2, e_212_0, L_0, L_2060, L_2062, k_some, k_none, pRm_i, pRm_r, pRm_0, pF_1, pF_2, inv_s, zb_0, nN_le, nN_lt, nN_eq, nN_add, nN_mul, nN_lt0, nN_ge0, nN_gt0, nN_le0, nN_eq0, nN_eq1, nN_neN, pIn_n, pIx_n, eq_self, Nat.reduceLT, Bool.false_eq_true, Nat.add_zero, Nat.zero_add, Nat.reduceAdd, Nat.reduceMul, Nat.reduceSub, Nat.zero_le, Nat.reduceLeDiff, Nat.reduceEqDiff, Nat.le_refl, not_false_eq_true, not_true_eq_false, false_implies, true_implies, forall_const, true_and, and_true, if_true, if_false, implies_true, and_self, ne_eq, false_and, and_false, or_false, false_or, true_or, or_true]
      exact ⟨⟨rfl, h3⟩, A1.trans A2⟩
/-- a chain of 'and', behind an atom -/
theorem w_chAnd (ha : ∀ (M : pMem) (q : Nat) (cs : List Nat), TpS M R tr br tb sr cr n b W q cs → cs.length ≤ q → mw (d + 1) 210 [.ref R, .int dp] M (fun o M' => TpE R tr br tb sr cr n b W cs (atm q) o M' ∧ Ag (RdZ R cr) M M'))
    (hg : ∀ q, q ≤ n → (q = n ∨ (q < n ∧ isB b q = true)) → Gd n b K q (atm q)) {y : Int32} : ∀ (j k : Nat) (s : pY) (M1 : pMem) (x2 : Option Value), 400 < j + s.1 → k < s.1 → s.1 ≤ n → TpS M1 R tr br tb sr cr n b W s.1 (cs ++ s.2.1) → (cs ++ s.2.1).length ≤ s.1 → Ag (RdZ R cr) M M1 →
    (∀ e M', pCh (th W n b) (nx9 n b) atm 1013 j s = .inl e → gI M' R 9 = nN e → Ag (RdZ R cr) M M' → Q (.inl (some (.int (nN 0)))) M') →
    (∀ s' k' M' x2, pCh (th W n b) (nx9 n b) atm 1013 j s = .inr s' → TpS M' R tr br tb sr cr n b W s'.1 (cs ++ s'.2.1) → k' < s'.1 → Ag (RdZ R cr) M M' → bw (d + 1) 209 5 ([some (.ref R), some (.int dp), x2, some (.int y), some (.int (nN k'))], [.int (nN 0)], M') Q) →
    bw (d + 1) 209 3 ([some (.ref R), some (.int dp), x2, some (.int y), some (.int (nN k))], [], M1) Q := by
  intro j
  induction j with
  | zero =>
    intro k s M1 x2 h1 h2 h3 h4
    have := h4.1.n9
    omega
  | succ j ih =>
    intro k s M1 x2 h1 h2 h3 h4 h5 A1 hfail hok
    have hk8 := h4.2.1.1
    have htl := h4.1.tl s.1
    have hn := h4.1.n9
    rw [e_209_3]
    by_cases c1 : th W n b s.1 = 1013
    · have hp := (h4.1.lt (by omega)).1
      have hx := At_nx (b := b) hp
      have e9 : pCh (th W n b) (nx9 n b) atm 1013 (j + 1) s = (match atm (nx9 n b s.1) with | .inl e => .inl e | .inr s2 => pCh (th W n b) (nx9 n b) atm 1013 j (s2.1, s.2.1 ++ s2.2.1 ++ [1013], fun fv => sJoin 1013 (s.2.2 fv) (s2.2.2 fv))) := by
        rw [show pCh (th W n b) (nx9 n b) atm 1013 (j + 1) s = if th W n b s.1 = 1013 then (match atm (nx9 n b s.1) with | .inl e => .inl e | .inr s2 => pCh (th W n b) (nx9 n b) atm 1013 j (s2.1, s.2.1 ++ s2.2.1 ++ [1013], fun fv => sJoin 1013 (s.2.2 fv) (s2.2.2 fv))) else .inr s from rfl, if_pos c1]
      rw [e9] at hfail hok
      simp (disch := omega) only [q_iconst, q_istore2, q_istore3, q_istore4, q_nop, q_iload4, q_sipush, q_ic_ge, q_aload0, q_aload0N, q_iload1, q_invv1, inv_1, q_if_ne, q_zret, q_iload2, q_if_eq, q_get_i, pTag_1, pRf_s, q_ic_ne, q_goto, q_iload3, q_invv0, q_iinc4, e_209_0, e_209_5, e_209_9, L_0, L_1, L_400, L_1013, L_1014, k_some, k_none, pRm_i, pRm_r, pRm_0, pF_1, pF_2, inv_s, hk8, h4.1.tg, c1, nN_le, nN_lt, nN_eq, nN_add, nN_mul, nN_lt0, nN_ge0, nN_gt0, nN_le0, nN_eq0, nN_eq1, nN_neN, pIn_n, pIx_n, eq_self, Nat.reduceLT, Bool.false_eq_true, Nat.add_zero, Nat.zero_add, Nat.reduceAdd, Nat.reduceMul, Nat.reduceSub, Nat.zero_le, Nat.reduceLeDiff, Nat.reduceEqDiff, Nat.le_refl, not_false_eq_true, not_true_eq_false, false_implies, true_implies, forall_const, true_and, and_true, if_true, if_false, implies_true, and_self, ne_eq, false_and, and_false, or_false, false_or, true_or, or_true]
      rw [e_209_10]
      simp (disch := omega) only [q_iconst, q_istore2, q_istore3, q_istore4, q_nop, q_iload4, q_sipush, q_ic_ge, q_aload0, q_aload0N, q_iload1, q_invv1, inv_1, q_if_ne, q_zret, q_iload2, q_if_eq, q_get_i, pTag_1, pRf_s, q_ic_ne, q_goto, q_iload3, q_invv0, q_iinc4, e_209_0, L_0, L_1, L_400, L_1013, L_1014, k_some, k_none, pRm_i, pRm_r, pRm_0, pF_1, pF_2, inv_s, hk8, nN_le, nN_lt, nN_eq, nN_add, nN_mul, nN_lt0, nN_ge0, nN_gt0, nN_le0, nN_eq0, nN_eq1, nN_neN, pIn_n, pIx_n, eq_self, Nat.reduceLT, Bool.false_eq_true, Nat.add_zero, Nat.zero_add, Nat.reduceAdd, Nat.reduceMul, Nat.reduceSub, Nat.zero_le, Nat.reduceLeDiff, Nat.reduceEqDiff, Nat.le_refl, not_false_eq_true, not_true_eq_false, false_implies, true_implies, forall_const, true_and, and_true, if_true, if_false, implies_true, and_self, ne_eq, false_and, and_false, or_false, false_or, true_or, or_true]
      refine mw_mono (w_stepT h4 hp) ?_
      rintro _ M2 ⟨rfl, h6, A2⟩
      have hk82 := h6.2.1.1
      have e400 : ¬ 400 ≤ k + 1 := by omega
      simp (disch := omega) only [q_iconst, q_istore2, q_istore3, q_istore4, q_nop, q_iload4, q_sipush, q_ic_ge, q_aload0, q_aload0N, q_iload1, q_invv1, inv_1, q_if_ne, q_zret, q_iload2, q_if_eq, q_get_i, pTag_1, pRf_s, q_ic_ne, q_goto, q_iload3, q_invv0, q_iinc4, e_209_0, e_209_1, L_0, L_1, L_400, L_1013, L_1014, k_some, k_none, pRm_i, pRm_r, pRm_0, pF_1, pF_2, inv_s, hk82, e400, nN_le, nN_lt, nN_eq, nN_add, nN_mul, nN_lt0, nN_ge0, nN_gt0, nN_le0, nN_eq0, nN_eq1, nN_neN, pIn_n, pIx_n, eq_self, Nat.reduceLT, Bool.false_eq_true, Nat.add_zero, Nat.zero_add, Nat.reduceAdd, Nat.reduceMul, Nat.reduceSub, Nat.zero_le, Nat.reduceLeDiff, Nat.reduceEqDiff, Nat.le_refl, not_false_eq_true, not_true_eq_false, false_implies, true_implies, forall_const, true_and, and_true, if_true, if_false, implies_true, and_self, ne_eq, false_and, and_false, or_false, false_or, true_or, or_true]
      refine mw_mono (ha M2 _ _ h6 (by omega)) ?_
      rintro o M3 ⟨h7, A3⟩
      have G2 := hg _ hx.2.1 hx.2.2
      cases hs2 : atm (nx9 n b s.1) with
      | inl e =>
        rw [hs2] at h7 hfail
        obtain ⟨rfl, h8⟩ := h7
        simp (disch := omega) only [q_iconst, q_istore2, q_istore3, q_istore4, q_nop, q_iload4, q_sipush, q_ic_ge, q_aload0, q_aload0N, q_iload1, q_invv1, inv_1, q_if_ne, q_zret, q_iload2, q_if_eq, q_get_i, pTag_1, pRf_s, q_ic_ne, q_goto, q_iload3, q_invv0, q_iinc4, e_209_0, e_209_1, L_0, L_1, L_400, L_1013, L_1014, k_some, k_none, pRm_i, pRm_r, pRm_0, pF_1, pF_2, inv_s, zb_0, nN_le, nN_lt, nN_eq, nN_add, nN_mul, nN_lt0, nN_ge0, nN_gt0, nN_le0, nN_eq0, nN_eq1, nN_neN, pIn_n, pIx_n, eq_self, Nat.reduceLT, Bool.false_eq_true, Nat.add_zero, Nat.zero_add, Nat.reduceAdd, Nat.reduceMul, Nat.reduceSub, Nat.zero_le, Nat.reduceLeDiff, Nat.reduceEqDiff, Nat.le_refl, not_false_eq_true, not_true_eq_false, false_implies, true_implies, forall_const, true_and, and_true, if_true, if_false, implies_true, and_self, ne_eq, false_and, and_false, or_false, false_or, true_or, or_true]
        exact hfail e M3 rfl h8 ((A1.trans A2).trans A3)
      | inr s2 =>
        rw [hs2] at h7 hfail hok G2
        obtain ⟨rfl, h8⟩ := h7
        obtain ⟨a1, ⟨a2, a3⟩, -⟩ := G2
        have hk83 := h8.2.1.1
        simp (disch := omega) only [q_iconst, q_istore2, q_istore3, q_istore4, q_nop, q_iload4, q_sipush, q_ic_ge, q_aload0, q_aload0N, q_iload1, q_invv1, inv_1, q_if_ne, q_zret, q_iload2, q_if_eq, q_get_i, pTag_1, pRf_s, q_ic_ne, q_goto, q_iload3, q_invv0, q_iinc4, e_209_0, e_209_1, e_209_2, L_0, L_1, L_400, L_1013, L_1014, k_some, k_none, pRm_i, pRm_r, pRm_0, pF_1, pF_2, inv_s, hk83, nN_le, nN_lt, nN_eq, nN_add, nN_mul, nN_lt0, nN_ge0, nN_gt0, nN_le0, nN_eq0, nN_eq1, nN_neN, pIn_n, pIx_n, eq_self, Nat.reduceLT, Bool.false_eq_true, Nat.add_zero, Nat.zero_add, Nat.reduceAdd, Nat.reduceMul, Nat.reduceSub, Nat.zero_le, Nat.reduceLeDiff, Nat.reduceEqDiff, Nat.le_refl, not_false_eq_true, not_true_eq_false, false_implies, true_implies, forall_const, true_and, and_true, if_true, if_false, implies_true, and_self, ne_eq, false_and, and_false, or_false, false_or, true_or, or_true]
        refine mw_mono (w_emit h8 (by simp only [List.length_append] at h5 ⊢; omega)) ?_
        rintro _ M4 ⟨rfl, h9, A4⟩
        simp (disch := omega) only [q_iconst, q_istore2, q_istore3, q_istore4, q_nop, q_iload4, q_sipush, q_ic_ge, q_aload0, q_aload0N, q_iload1, q_invv1, inv_1, q_if_ne, q_zret, q_iload2, q_if_eq, q_get_i, pTag_1, pRf_s, q_ic_ne, q_goto, q_iload3, q_invv0, q_iinc4, e_209_0, L_0, L_1, L_400, L_1013, L_1014, k_some, k_none, pRm_i, pRm_r, pRm_0, pF_1, pF_2, inv_s, nN_le, nN_lt, nN_eq, nN_add, nN_mul, nN_lt0, nN_ge0, nN_gt0, nN_le0, nN_eq0, nN_eq1, nN_neN, pIn_n, pIx_n, eq_self, Nat.reduceLT, Bool.false_eq_true, Nat.add_zero, Nat.zero_add, Nat.reduceAdd, Nat.reduceMul, Nat.reduceSub, Nat.zero_le, Nat.reduceLeDiff, Nat.reduceEqDiff, Nat.le_refl, not_false_eq_true, not_true_eq_false, false_implies, true_implies, forall_const, true_and, and_true, if_true, if_false, implies_true, and_self, ne_eq, false_and, and_false, or_false, false_or, true_or, or_true]
        refine ih (k + 1) (s2.1, s.2.1 ++ s2.2.1 ++ [1013], fun fv => sJoin 1013 (s.2.2 fv) (s2.2.2 fv)) M4 _ (by show 400 < j + s2.1; omega) (by show k + 1 < s2.1; omega) a1.2.1 ?_ ?_ (((A1.trans A2).trans A3).trans A4) hfail hok
        · show TpS M4 R tr br tb sr cr n b W s2.1 (cs ++ (s.2.1 ++ s2.2.1 ++ [1013]))
          rw [← List.append_assoc, ← List.append_assoc]
          exact h9
        · show (cs ++ (s.2.1 ++ s2.2.1 ++ [1013])).length ≤ s2.1
          simp only [List.length_append, List.length_singleton] at h5 ⊢
          omega
    · have e9 : pCh (th W n b) (nx9 n b) atm 1013 (j + 1) s = .inr s := by
        rw [show pCh (th W n b) (nx9 n b) atm 1013 (j + 1) s = if th W n b s.1 = 1013 then (match atm (nx9 n b s.1) with | .inl e => .inl e | .inr s2 => pCh (th W n b) (nx9 n b) atm 1013 j (s2.1, s.2.1 ++ s2.2.1 ++ [1013], fun fv => sJoin 1013 (s.2.2 fv) (s2.2.2 fv))) else .inr s from rfl, if_neg c1]
      simp (disch := omega) only [q_iconst, q_istore2, q_istore3, q_istore4, q_nop, q_iload4, q_sipush, q_ic_ge, q_aload0, q_aload0N, q_iload1, q_invv1, inv_1, q_if_ne, q_zret, q_iload2, q_if_eq, q_get_i, pTag_1, pRf_s, q_ic_ne, q_goto, q_iload3, q_invv0, q_iinc4, e_209_0, e_209_4, L_0, L_1, L_400, L_1013, L_1014, k_some, k_none, pRm_i, pRm_r, pRm_0, pF_1, pF_2, inv_s, hk8, h4.1.tg, c1, nN_le, nN_lt, nN_eq, nN_add, nN_mul, nN_lt0, nN_ge0, nN_gt0, nN_le0, nN_eq0, nN_eq1, nN_neN, pIn_n, pIx_n, eq_self, Nat.reduceLT, Bool.false_eq_true, Nat.add_zero, Nat.zero_add, Nat.reduceAdd, Nat.reduceMul, Nat.reduceSub, Nat.zero_le, Nat.reduceLeDiff, Nat.reduceEqDiff, Nat.le_refl, not_false_eq_true, not_true_eq_false, false_implies, true_implies, forall_const, true_and, and_true, if_true, if_false, implies_true, and_self, ne_eq, false_and, and_false, or_false, false_or, true_or, or_true]
      exact hok s k M1 x2 e9 h4 h2 A1
/-- from the loop's head, with no 'and' waiting -/
theorem w_evHead (ha : ∀ (M : pMem) (q : Nat) (cs : List Nat), TpS M R tr br tb sr cr n b W q cs → cs.length ≤ q → mw (d + 1) 210 [.ref R, .int dp] M (fun o M' => TpE R tr br tb sr cr n b W cs (atm q) o M' ∧ Ag (RdZ R cr) M M'))
    (hg : ∀ q, q ≤ n → (q = n ∨ (q < n ∧ isB b q = true)) → Gd n b K q (atm q)) {y : Int32} (h : TpS M1 R tr br tb sr cr n b W q cs) (hl : cs.length ≤ q) (hk : k ≤ q) (hk4 : k < 400) (A1 : Ag (RdZ R cr) M M1)
    (hfail : ∀ e M', pEv (th W n b) (nx9 n b) 400 atm q = .inl e → gI M' R 9 = nN e → Ag (RdZ R cr) M M' → Q (.inl (some (.int (nN 0)))) M')
    (hok : ∀ s' k' M' x2, pEv (th W n b) (nx9 n b) 400 atm q = .inr s' → TpS M' R tr br tb sr cr n b W s'.1 (cs ++ s'.2.1) → k' < s'.1 → Ag (RdZ R cr) M M' → bw (d + 1) 209 5 ([some (.ref R), some (.int dp), x2, some (.int y), some (.int (nN k'))], [.int (nN 0)], M') Q) :
    bw (d + 1) 209 1 ([some (.ref R), some (.int dp), some (.int (nN 0)), some (.int y), some (.int (nN k))], [], M1) Q := by
  have hk8 := h.2.1.1
  have hqn := h.1.le
  have e400 : ¬ 400 ≤ k := by omega
  rw [e_209_1]
  simp (disch := omega) only [q_iconst, q_istore2, q_istore3, q_istore4, q_nop, q_iload4, q_sipush, q_ic_ge, q_aload0, q_aload0N, q_iload1, q_invv1, inv_1, q_if_ne, q_zret, q_iload2, q_if_eq, q_get_i, pTag_1, pRf_s, q_ic_ne, q_goto, q_iload3, q_invv0, q_iinc4, e_209_0, L_0, L_1, L_400, L_1013, L_1014, k_some, k_none, pRm_i, pRm_r, pRm_0, pF_1, pF_2, inv_s, hk8, e400, nN_le, nN_lt, nN_eq, nN_add, nN_mul, nN_lt0, nN_ge0, nN_gt0, nN_le0, nN_eq0, nN_eq1, nN_neN, pIn_n, pIx_n, eq_self, Nat.reduceLT, Bool.false_eq_true, Nat.add_zero, Nat.zero_add, Nat.reduceAdd, Nat.reduceMul, Nat.reduceSub, Nat.zero_le, Nat.reduceLeDiff, Nat.reduceEqDiff, Nat.le_refl, not_false_eq_true, not_true_eq_false, false_implies, true_implies, forall_const, true_and, and_true, if_true, if_false, implies_true, and_self, ne_eq, false_and, and_false, or_false, false_or, true_or, or_true]
  refine mw_mono (ha M1 q cs h hl) ?_
  rintro o M2 ⟨h7, A2⟩
  have G2 := hg q hqn h.1.at9
  unfold pEv pThen at hfail hok
  cases hs2 : atm q with
  | inl e =>
    rw [hs2] at h7 hfail
    obtain ⟨rfl, h8⟩ := h7
    simp (disch := omega) only [q_iconst, q_istore2, q_istore3, q_istore4, q_nop, q_iload4, q_sipush, q_ic_ge, q_aload0, q_aload0N, q_iload1, q_invv1, inv_1, q_if_ne, q_zret, q_iload2, q_if_eq, q_get_i, pTag_1, pRf_s, q_ic_ne, q_goto, q_iload3, q_invv0, q_iinc4, e_209_0, L_0, L_1, L_400, L_1013, L_1014, k_some, k_none, pRm_i, pRm_r, pRm_0, pF_1, pF_2, inv_s, zb_0, nN_le, nN_lt, nN_eq, nN_add, nN_mul, nN_lt0, nN_ge0, nN_gt0, nN_le0, nN_eq0, nN_eq1, nN_neN, pIn_n, pIx_n, eq_self, Nat.reduceLT, Bool.false_eq_true, Nat.add_zero, Nat.zero_add, Nat.reduceAdd, Nat.reduceMul, Nat.reduceSub, Nat.zero_le, Nat.reduceLeDiff, Nat.reduceEqDiff, Nat.le_refl, not_false_eq_true, not_true_eq_false, false_implies, true_implies, forall_const, true_and, and_true, if_true, if_false, implies_true, and_self, ne_eq, false_and, and_false, or_false, false_or, true_or, or_true]
    exact hfail e M2 rfl h8 (A1.trans A2)
  | inr s =>
    rw [hs2] at h7 hfail hok G2
    obtain ⟨rfl, h8⟩ := h7
    obtain ⟨a1, ⟨a2, a3⟩, -⟩ := G2
    simp (disch := omega) only [q_iconst, q_istore2, q_istore3, q_istore4, q_nop, q_iload4, q_sipush, q_ic_ge, q_aload0, q_aload0N, q_iload1, q_invv1, inv_1, q_if_ne, q_zret, q_iload2, q_if_eq, q_get_i, pTag_1, pRf_s, q_ic_ne, q_goto, q_iload3, q_invv0, q_iinc4, e_209_0, e_209_2, L_0, L_1, L_400, L_1013, L_1014, k_some, k_none, pRm_i, pRm_r, pRm_0, pF_1, pF_2, inv_s, nN_le, nN_lt, nN_eq, nN_add, nN_mul, nN_lt0, nN_ge0, nN_gt0, nN_le0, nN_eq0, nN_eq1, nN_neN, pIn_n, pIx_n, eq_self, Nat.reduceLT, Bool.false_eq_true, Nat.add_zero, Nat.zero_add, Nat.reduceAdd, Nat.reduceMul, Nat.reduceSub, Nat.zero_le, Nat.reduceLeDiff, Nat.reduceEqDiff, Nat.le_refl, not_false_eq_true, not_true_eq_false, false_implies, true_implies, forall_const, true_and, and_true, if_true, if_false, implies_true, and_self, ne_eq, false_and, and_false, or_false, false_or, true_or, or_true]
    exact w_chAnd ha hg 400 k s M2 _ (by omega) (by omega) a1.2.1 h8 (by rw [List.length_append]; omega) (A1.trans A2) hfail hok
theorem w_condC (ha : ∀ (M : pMem) (q : Nat) (cs : List Nat), TpS M R tr br tb sr cr n b W q cs → cs.length ≤ q → mw (d + 1) 210 [.ref R, .int dp] M (fun o M' => TpE R tr br tb sr cr n b W cs (atm q) o M' ∧ Ag (RdZ R cr) M M'))
    (hg : ∀ q, q ≤ n → (q = n ∨ (q < n ∧ isB b q = true)) → Gd n b K q (atm q)) (h : TpS M R tr br tb sr cr n b W q cs) (hl : cs.length ≤ q) :
    mw (d + 2) 209 [.ref R, .int dp] M (fun o M' => TpE R tr br tb sr cr n b W cs (pSo (th W n b) (nx9 n b) 400 atm q) o M' ∧ Ag (RdZ R cr) M M') := by
  have hqn := h.1.le
  have hn := h.1.n9
  have hge : ∀ q, q ≤ n → (q = n ∨ (q < n ∧ isB b q = true)) → Gd n b (K + 1) q (pEv (th W n b) (nx9 n b) 400 atm q) := fun q h1 h2 => Gd_ev hg h1 h2
  have key : ∀ (j k : Nat) (s : pY) (M1 : pMem) (x3 : Option Value), 400 < j + s.1 → k < s.1 → s.1 ≤ n → TpS M1 R tr br tb sr cr n b W s.1 (cs ++ s.2.1) → (cs ++ s.2.1).length ≤ s.1 → Ag (RdZ R cr) M M1 →
      bw (d + 1) 209 6 ([some (.ref R), some (.int dp), some (.int (nN 0)), x3, some (.int (nN k))], [], M1) (fun o M' => TpE R tr br tb sr cr n b W cs (pCh (th W n b) (nx9 n b) (pEv (th W n b) (nx9 n b) 400 atm) 1014 j s) o M' ∧ Ag (RdZ R cr) M M') := by
    intro j
    induction j with
    | zero => intro k s M1 x3 h1 h2 h3; omega
    | succ j ih =>
      intro k s M1 x3 h1 h2 h3 h4 h5 A1
      have hk8 := h4.2.1.1
      have htl := h4.1.tl s.1
      rw [show pCh (th W n b) (nx9 n b) (pEv (th W n b) (nx9 n b) 400 atm) 1014 (j + 1) s = if th W n b s.1 = 1014 then (match pEv (th W n b) (nx9 n b) 400 atm (nx9 n b s.1) with | .inl e => .inl e | .inr s2 => pCh (th W n b) (nx9 n b) (pEv (th W n b) (nx9 n b) 400 atm) 1014 j (s2.1, s.2.1 ++ s2.2.1 ++ [1014], fun fv => sJoin 1014 (s.2.2 fv) (s2.2.2 fv))) else .inr s from rfl]
      rw [e_209_6]
      by_cases c1 : th W n b s.1 = 1014
      · rw [if_pos c1]
        have hp := (h4.1.lt (by omega)).1
        have hx := At_nx (b := b) hp
        simp (disch := omega) only [q_iconst, q_istore2, q_istore3, q_istore4, q_nop, q_iload4, q_sipush, q_ic_ge, q_aload0, q_aload0N, q_iload1, q_invv1, inv_1, q_if_ne, q_zret, q_iload2, q_if_eq, q_get_i, pTag_1, pRf_s, q_ic_ne, q_goto, q_iload3, q_invv0, q_iinc4, e_209_0, e_209_8, e_209_9, L_0, L_1, L_400, L_1013, L_1014, k_some, k_none, pRm_i, pRm_r, pRm_0, pF_1, pF_2, inv_s, hk8, h4.1.tg, c1, nN_le, nN_lt, nN_eq, nN_add, nN_mul, nN_lt0, nN_ge0, nN_gt0, nN_le0, nN_eq0, nN_eq1, nN_neN, pIn_n, pIx_n, eq_self, Nat.reduceLT, Bool.false_eq_true, Nat.add_zero, Nat.zero_add, Nat.reduceAdd, Nat.reduceMul, Nat.reduceSub, Nat.zero_le, Nat.reduceLeDiff, Nat.reduceEqDiff, Nat.le_refl, not_false_eq_true, not_true_eq_false, false_implies, true_implies, forall_const, true_and, and_true, if_true, if_false, implies_true, and_self, ne_eq, false_and, and_false, or_false, false_or, true_or, or_true]
        rw [e_209_10]
        simp (disch := omega) only [q_iconst, q_istore2, q_istore3, q_istore4, q_nop, q_iload4, q_sipush, q_ic_ge, q_aload0, q_aload0N, q_iload1, q_invv1, inv_1, q_if_ne, q_zret, q_iload2, q_if_eq, q_get_i, pTag_1, pRf_s, q_ic_ne, q_goto, q_iload3, q_invv0, q_iinc4, e_209_0, L_0, L_1, L_400, L_1013, L_1014, k_some, k_none, pRm_i, pRm_r, pRm_0, pF_1, pF_2, inv_s, hk8, nN_le, nN_lt, nN_eq, nN_add, nN_mul, nN_lt0, nN_ge0, nN_gt0, nN_le0, nN_eq0, nN_eq1, nN_neN, pIn_n, pIx_n, eq_self, Nat.reduceLT, Bool.false_eq_true, Nat.add_zero, Nat.zero_add, Nat.reduceAdd, Nat.reduceMul, Nat.reduceSub, Nat.zero_le, Nat.reduceLeDiff, Nat.reduceEqDiff, Nat.le_refl, not_false_eq_true, not_true_eq_false, false_implies, true_implies, forall_const, true_and, and_true, if_true, if_false, implies_true, and_self, ne_eq, false_and, and_false, or_false, false_or, true_or, or_true]
        refine mw_mono (w_stepT h4 hp) ?_
        rintro _ M2 ⟨rfl, h6, A2⟩
        simp (disch := omega) only [q_iconst, q_istore2, q_istore3, q_istore4, q_nop, q_iload4, q_sipush, q_ic_ge, q_aload0, q_aload0N, q_iload1, q_invv1, inv_1, q_if_ne, q_zret, q_iload2, q_if_eq, q_get_i, pTag_1, pRf_s, q_ic_ne, q_goto, q_iload3, q_invv0, q_iinc4, e_209_0, L_0, L_1, L_400, L_1013, L_1014, k_some, k_none, pRm_i, pRm_r, pRm_0, pF_1, pF_2, inv_s, nN_le, nN_lt, nN_eq, nN_add, nN_mul, nN_lt0, nN_ge0, nN_gt0, nN_le0, nN_eq0, nN_eq1, nN_neN, pIn_n, pIx_n, eq_self, Nat.reduceLT, Bool.false_eq_true, Nat.add_zero, Nat.zero_add, Nat.reduceAdd, Nat.reduceMul, Nat.reduceSub, Nat.zero_le, Nat.reduceLeDiff, Nat.reduceEqDiff, Nat.le_refl, not_false_eq_true, not_true_eq_false, false_implies, true_implies, forall_const, true_and, and_true, if_true, if_false, implies_true, and_self, ne_eq, false_and, and_false, or_false, false_or, true_or, or_true]
        refine w_evHead ha hg h6 (by omega) (by omega) (by omega) (A1.trans A2) ?_ ?_
        · intro e M' he h7 A7
          rw [he]
          exact ⟨⟨rfl, h7⟩, A7⟩
        · intro s' k' M' x2 he h7 hk7 A7
          have G2 := hge _ hx.2.1 hx.2.2
          rw [he] at G2 ⊢
          obtain ⟨a1, ⟨a2, a3⟩, -⟩ := G2
          have hk87 := h7.2.1.1
          rw [e_209_5]
          simp (disch := omega) only [q_iconst, q_istore2, q_istore3, q_istore4, q_nop, q_iload4, q_sipush, q_ic_ge, q_aload0, q_aload0N, q_iload1, q_invv1, inv_1, q_if_ne, q_zret, q_iload2, q_if_eq, q_get_i, pTag_1, pRf_s, q_ic_ne, q_goto, q_iload3, q_invv0, q_iinc4, e_209_0, L_0, L_1, L_400, L_1013, L_1014, k_some, k_none, pRm_i, pRm_r, pRm_0, pF_1, pF_2, inv_s, hk87, nN_le, nN_lt, nN_eq, nN_add, nN_mul, nN_lt0, nN_ge0, nN_gt0, nN_le0, nN_eq0, nN_eq1, nN_neN, pIn_n, pIx_n, eq_self, Nat.reduceLT, Bool.false_eq_true, Nat.add_zero, Nat.zero_add, Nat.reduceAdd, Nat.reduceMul, Nat.reduceSub, Nat.zero_le, Nat.reduceLeDiff, Nat.reduceEqDiff, Nat.le_refl, not_false_eq_true, not_true_eq_false, false_implies, true_implies, forall_const, true_and, and_true, if_true, if_false, implies_true, and_self, ne_eq, false_and, and_false, or_false, false_or, true_or, or_true]
          refine mw_mono (w_emit h7 (by simp only [List.length_append] at h5 ⊢; omega)) ?_
          rintro _ M4 ⟨rfl, h9, A4⟩
          simp (disch := omega) only [q_iconst, q_istore2, q_istore3, q_istore4, q_nop, q_iload4, q_sipush, q_ic_ge, q_aload0, q_aload0N, q_iload1, q_invv1, inv_1, q_if_ne, q_zret, q_iload2, q_if_eq, q_get_i, pTag_1, pRf_s, q_ic_ne, q_goto, q_iload3, q_invv0, q_iinc4, e_209_0, L_0, L_1, L_400, L_1013, L_1014, k_some, k_none, pRm_i, pRm_r, pRm_0, pF_1, pF_2, inv_s, nN_le, nN_lt, nN_eq, nN_add, nN_mul, nN_lt0, nN_ge0, nN_gt0, nN_le0, nN_eq0, nN_eq1, nN_neN, pIn_n, pIx_n, eq_self, Nat.reduceLT, Bool.false_eq_true, Nat.add_zero, Nat.zero_add, Nat.reduceAdd, Nat.reduceMul, Nat.reduceSub, Nat.zero_le, Nat.reduceLeDiff, Nat.reduceEqDiff, Nat.le_refl, not_false_eq_true, not_true_eq_false, false_implies, true_implies, forall_const, true_and, and_true, if_true, if_false, implies_true, and_self, ne_eq, false_and, and_false, or_false, false_or, true_or, or_true]
          refine ih k' (s'.1, s.2.1 ++ s'.2.1 ++ [1014], fun fv => sJoin 1014 (s.2.2 fv) (s'.2.2 fv)) M4 _ (by show 400 < j + s'.1; omega) hk7 a1.2.1 ?_ ?_ (A7.trans A4)
          · show TpS M4 R tr br tb sr cr n b W s'.1 (cs ++ (s.2.1 ++ s'.2.1 ++ [1014]))
            rw [← List.append_assoc, ← List.append_assoc]
            exact h9
          · show (cs ++ (s.2.1 ++ s'.2.1 ++ [1014])).length ≤ s'.1
            simp only [List.length_append, List.length_singleton] at h5 ⊢
            omega
      · rw [if_neg c1]
        simp (disch := omega) only [q_iconst, q_istore2, q_istore3, q_istore4, q_nop, q_iload4, q_sipush, q_ic_ge, q_aload0, q_aload0N, q_iload1, q_invv1, inv_1, q_if_ne, q_zret, q_iload2, q_if_eq, q_get_i, pTag_1, pRf_s, q_ic_ne, q_goto, q_iload3, q_invv0, q_iinc4, e_209_0, e_209_7, e_209_8, e_209_9, L_0, L_1, L_400, L_1013, L_1014, k_some, k_none, pRm_i, pRm_r, pRm_0, pF_1, pF_2, inv_s, hk8, h4.1.tg, c1, zb_1, nN_le, nN_lt, nN_eq, nN_add, nN_mul, nN_lt0, nN_ge0, nN_gt0, nN_le0, nN_eq0, nN_eq1, nN_neN, pIn_n, pIx_n, eq_self, Nat.reduceLT, Bool.false_eq_true, Nat.add_zero, Nat.zero_add, Nat.reduceAdd, Nat.reduceMul, Nat.reduceSub, Nat.zero_le, Nat.reduceLeDiff, Nat.reduceEqDiff, Nat.le_refl, not_false_eq_true, not_true_eq_false, false_implies, true_implies, forall_const, true_and, and_true, if_true, if_false, implies_true, and_self, ne_eq, false_and, and_false, or_false, false_or, true_or, or_true]
        exact ⟨⟨rfl, h4⟩, A1⟩
  simp (disch := omega) only [m_209, q_iconst, q_istore2, q_istore3, q_istore4, q_nop, q_iload4, q_sipush, q_ic_ge, q_aload0, q_aload0N, q_iload1, q_invv1, inv_1, q_if_ne, q_zret, q_iload2, q_if_eq, q_get_i, pTag_1, pRf_s, q_ic_ne, q_goto, q_iload3, q_invv0, q_iinc4, e_209_0, L_0, L_1, L_400, L_1013, L_1014, k_some, k_none, pRm_i, pRm_r, pRm_0, pF_1, pF_2, inv_s, eq_self, Nat.reduceLT, Bool.false_eq_true, Nat.add_zero, Nat.zero_add, Nat.reduceAdd, Nat.reduceMul, Nat.reduceSub, Nat.zero_le, Nat.reduceLeDiff, Nat.reduceEqDiff, Nat.le_refl, not_false_eq_true, not_true_eq_false, false_implies, true_implies, forall_const, true_and, and_true, if_true, if_false, implies_true, and_self, ne_eq, false_and, and_false, or_false, false_or, true_or, or_true]
  unfold pSo pThen
  refine w_evHead ha hg h hl (by omega) (by omega) Ag.rfl ?_ ?_
  · intro e M' he h7 A7
    rw [he]
    exact ⟨⟨rfl, h7⟩, A7⟩
  · intro s' k' M' x2 he h7 hk7 A7
    have G2 := hge _ hqn h.1.at9
    rw [he] at G2 ⊢
    obtain ⟨a1, ⟨a2, a3⟩, -⟩ := G2
    rw [e_209_5]
    simp (disch := omega) only [q_iconst, q_istore2, q_istore3, q_istore4, q_nop, q_iload4, q_sipush, q_ic_ge, q_aload0, q_aload0N, q_iload1, q_invv1, inv_1, q_if_ne, q_zret, q_iload2, q_if_eq, q_get_i, pTag_1, pRf_s, q_ic_ne, q_goto, q_iload3, q_invv0, q_iinc4, e_209_0, L_0, L_1, L_400, L_1013, L_1014, k_some, k_none, pRm_i, pRm_r, pRm_0, pF_1, pF_2, inv_s, nN_le, nN_lt, nN_eq, nN_add, nN_mul, nN_lt0, nN_ge0, nN_gt0, nN_le0, nN_eq0, nN_eq1, nN_neN, pIn_n, pIx_n, eq_self, Nat.reduceLT, Bool.false_eq_true, Nat.add_zero, Nat.zero_add, Nat.reduceAdd, Nat.reduceMul, Nat.reduceSub, Nat.zero_le, Nat.reduceLeDiff, Nat.reduceEqDiff, Nat.le_refl, not_false_eq_true, not_true_eq_false, false_implies, true_implies, forall_const, true_and, and_true, if_true, if_false, implies_true, and_self, ne_eq, false_and, and_false, or_false, false_or, true_or, or_true]
    exact key 400 k' s' M' _ (by omega) hk7 a1.2.1 h7 (by rw [List.length_append]; omega) A7
end TC9
