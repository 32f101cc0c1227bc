/-! THE CLASS READS A TEMPER'S TEXT -/
/-- a verdict is a word of two letters at least -/
def W2 (n : Nat) (b : Nat → Nat) (W : List (List Nat)) : Prop := ∀ p, p < n → th W n b p = 1009 ∨ th W n b p = 1010 → p + 2 ≤ te n b p
section TE9
variable {d n R tr br tb sr cr p q k m c K : Nat} {b : Nat → Nat} {W : List (List Nat)} {cs : List Nat} {M M1 M' : pMem} {Q : pOut → pMem → Prop} {x dp : Int32}
theorem w_lineC (h : TpS M R tr br tb sr cr n b W q cs) (hl : cs.length ≤ q) (hW : W2 n b W) : mw (d + 30) 208 [.ref R] M (fun o M' => TpE R tr br tb sr cr n b W cs (pLine (th W n b) (nx9 n b) 400 q) o M' ∧ Ag (RdZ R cr) M M') := by
  have hk8 := h.2.1.1
  have htl := h.1.tl q
  have hn := h.1.n9
  unfold pLine
  by_cases c : th W n b q = 1009 ∨ th W n b q = 1010
  · rw [if_pos c]
    have hp := (h.1.lt (by omega)).1
    have hx := At_nx (b := b) hp
    have hw2 := hW q hp c
    have hnb := (nb_spec (n := n) (b := b) (k := te n b q) (te_spec (b := b) hp).2.1).1
    have hnx : q + 2 ≤ nx9 n b q := by unfold nx9; omega
    have go : bw (d + 29) 208 1 ([some (.ref R), some (.int (nN (th W n b q)))], [], M) (fun o M' => TpE R tr br tb sr cr n b W cs (if th W n b (nx9 n b q) = 1011 then pThen (pSo (th W n b) (nx9 n b) 400 (pAtom (th W n b) (nx9 n b) 400 6) (nx9 n b (nx9 n b q))) (fun s => .inr (s.1, s.2.1 ++ [th W n b q], s.2.2)) else .inr (nx9 n b q, [1, th W n b q], fun _ => nN 1)) o M' ∧ Ag (RdZ R cr) M M') := by
      rw [e_208_1]
      simp (disch := omega) only [q_aload0, q_aload0N, q_get_i, pTag_1, pRf_s, q_istore1, q_iload1, q_sipush, q_ic_eq, q_invv0, inv_1, q_zret, q_ic_ne, q_iconst, q_invv1, q_if_ne, q_nop, e_208_0, L_0, L_1, L_1009, L_1010, L_1011, k_some, k_none, pRm_i, pRm_r, pRm_0, pF_1, pF_2, inv_s, hk8, nN_le, nN_lt, nN_eq, nN_add, nN_mul, nN_lt0, nN_ge0, nN_gt0, nN_le0, nN_eq0, nN_eq1, nN_neN, pIn_n, pIx_n, eq_self, Nat.reduceLT, Bool.false_eq_true, Nat.add_zero, Nat.zero_add, Nat.reduceAdd, Nat.reduceMul, Nat.reduceSub, Nat.zero_le, Nat.reduceLeDiff, Nat.reduceEqDiff, Nat.le_refl, not_false_eq_true, not_true_eq_false, false_implies, true_implies, forall_const, true_and, and_true, if_true, if_false, implies_true, and_self, ne_eq, false_and, and_false, or_false, false_or, true_or, or_true]
      refine mw_mono (w_stepT h hp) ?_
      rintro _ M1 ⟨rfl, h1, A1⟩
      have hk81 := h1.2.1.1
      have htl1 := h1.1.tl (nx9 n b q)
      by_cases c2 : th W n b (nx9 n b q) = 1011
      · rw [if_pos c2]
        have hp1 := (h1.1.lt (by omega)).1
        have hx1 := At_nx (b := b) hp1
        simp (disch := omega) only [q_aload0, q_aload0N, q_get_i, pTag_1, pRf_s, q_istore1, q_iload1, q_sipush, q_ic_eq, q_invv0, inv_1, q_zret, q_ic_ne, q_iconst, q_invv1, q_if_ne, q_nop, e_208_0, L_0, L_1, L_1009, L_1010, L_1011, k_some, k_none, pRm_i, pRm_r, pRm_0, pF_1, pF_2, inv_s, hk81, h1.1.tg, c2, nN_le, nN_lt, nN_eq, nN_add, nN_mul, nN_lt0, nN_ge0, nN_gt0, nN_le0, nN_eq0, nN_eq1, nN_neN, pIn_n, pIx_n, eq_self, Nat.reduceLT, Bool.false_eq_true, Nat.add_zero, Nat.zero_add, Nat.reduceAdd, Nat.reduceMul, Nat.reduceSub, Nat.zero_le, Nat.reduceLeDiff, Nat.reduceEqDiff, Nat.le_refl, not_false_eq_true, not_true_eq_false, false_implies, true_implies, forall_const, true_and, and_true, if_true, if_false, implies_true, and_self, ne_eq, false_and, and_false, or_false, false_or, true_or, or_true]
        refine mw_mono (w_stepT h1 hp1) ?_
        rintro _ M2 ⟨rfl, h2, A2⟩
        have hk82 := h2.2.1.1
        simp (disch := omega) only [q_aload0, q_aload0N, q_get_i, pTag_1, pRf_s, q_istore1, q_iload1, q_sipush, q_ic_eq, q_invv0, inv_1, q_zret, q_ic_ne, q_iconst, q_invv1, q_if_ne, q_nop, e_208_0, L_0, L_1, L_1009, L_1010, L_1011, k_some, k_none, pRm_i, pRm_r, pRm_0, pF_1, pF_2, inv_s, hk82, nN_le, nN_lt, nN_eq, nN_add, nN_mul, nN_lt0, nN_ge0, nN_gt0, nN_le0, nN_eq0, nN_eq1, nN_neN, pIn_n, pIx_n, eq_self, Nat.reduceLT, Bool.false_eq_true, Nat.add_zero, Nat.zero_add, Nat.reduceAdd, Nat.reduceMul, Nat.reduceSub, Nat.zero_le, Nat.reduceLeDiff, Nat.reduceEqDiff, Nat.le_refl, not_false_eq_true, not_true_eq_false, false_implies, true_implies, forall_const, true_and, and_true, if_true, if_false, implies_true, and_self, ne_eq, false_and, and_false, or_false, false_or, true_or, or_true]
        refine mw_mono (w_condC (d := d + 27) (dp := nN 0) (atm := pAtom (th W n b) (nx9 n b) 400 6) (K := 3 + 2 * 6) (fun M q cs h hl => by
          have := w_atomC 6 (d + 3) q M cs (by omega) h hl
          exact this) (fun q h1 h2 => Gd_atom 6 q h1 h2) h2 (by omega)) ?_
        rintro o M3 ⟨h3, A3⟩
        have G2 := Gd_so (F := 400) (W := W) (k := 3 + 2 * 6) (atm := pAtom (th W n b) (nx9 n b) 400 6) (fun q h1 h2 => Gd_atom 6 q h1 h2) hx1.2.1 hx1.2.2
        cases hs : pSo (th W n b) (nx9 n b) 400 (pAtom (th W n b) (nx9 n b) 400 6) (nx9 n b (nx9 n b q)) with
        | inl e =>
          rw [hs] at h3
          obtain ⟨rfl, h4⟩ := h3
          simp (disch := omega) only [q_aload0, q_aload0N, q_get_i, pTag_1, pRf_s, q_istore1, q_iload1, q_sipush, q_ic_eq, q_invv0, inv_1, q_zret, q_ic_ne, q_iconst, q_invv1, q_if_ne, q_nop, e_208_0, L_0, L_1, L_1009, L_1010, L_1011, k_some, k_none, pRm_i, pRm_r, pRm_0, pF_1, pF_2, inv_s, zb_0, nN_le, nN_lt, nN_eq, nN_add, nN_mul, nN_lt0, nN_ge0, nN_gt0, nN_le0, nN_eq0, nN_eq1, nN_neN, pIn_n, pIx_n, eq_self, Nat.reduceLT, Bool.false_eq_true, Nat.add_zero, Nat.zero_add, Nat.reduceAdd, Nat.reduceMul, Nat.reduceSub, Nat.zero_le, Nat.reduceLeDiff, Nat.reduceEqDiff, Nat.le_refl, not_false_eq_true, not_true_eq_false, false_implies, true_implies, forall_const, true_and, and_true, if_true, if_false, implies_true, and_self, ne_eq, false_and, and_false, or_false, false_or, true_or, or_true]
          exact ⟨⟨rfl, h4⟩, (A1.trans A2).trans A3⟩
        | inr s =>
          rw [hs] at h3 G2
          obtain ⟨rfl, h4⟩ := h3
          obtain ⟨a1, ⟨a2, a3⟩, -⟩ := G2
          have hk83 := h4.2.1.1
          simp (disch := omega) only [q_aload0, q_aload0N, q_get_i, pTag_1, pRf_s, q_istore1, q_iload1, q_sipush, q_ic_eq, q_invv0, inv_1, q_zret, q_ic_ne, q_iconst, q_invv1, q_if_ne, q_nop, e_208_0, e_208_3, L_0, L_1, L_1009, L_1010, L_1011, k_some, k_none, pRm_i, pRm_r, pRm_0, pF_1, pF_2, inv_s, hk83, nN_le, nN_lt, nN_eq, nN_add, nN_mul, nN_lt0, nN_ge0, nN_gt0, nN_le0, nN_eq0, nN_eq1, nN_neN, pIn_n, pIx_n, eq_self, Nat.reduceLT, Bool.false_eq_true, Nat.add_zero, Nat.zero_add, Nat.reduceAdd, Nat.reduceMul, Nat.reduceSub, Nat.zero_le, Nat.reduceLeDiff, Nat.reduceEqDiff, Nat.le_refl, not_false_eq_true, not_true_eq_false, false_implies, true_implies, forall_const, true_and, and_true, if_true, if_false, implies_true, and_self, ne_eq, false_and, and_false, or_false, false_or, true_or, or_true]
          refine mw_mono (w_emit h4 (by rw [List.length_append]; omega)) ?_
          rintro _ M4 ⟨rfl, h5, A4⟩
          simp (disch := omega) only [q_aload0, q_aload0N, q_get_i, pTag_1, pRf_s, q_istore1, q_iload1, q_sipush, q_ic_eq, q_invv0, inv_1, q_zret, q_ic_ne, q_iconst, q_invv1, q_if_ne, q_nop, e_208_0, L_0, L_1, L_1009, L_1010, L_1011, k_some, k_none, pRm_i, pRm_r, pRm_0, pF_1, pF_2, inv_s, zb_1, nN_le, nN_lt, nN_eq, nN_add, nN_mul, nN_lt0, nN_ge0, nN_gt0, nN_le0, nN_eq0, nN_eq1, nN_neN, pIn_n, pIx_n, eq_self, Nat.reduceLT, Bool.false_eq_true, Nat.add_zero, Nat.zero_add, Nat.reduceAdd, Nat.reduceMul, Nat.reduceSub, Nat.zero_le, Nat.reduceLeDiff, Nat.reduceEqDiff, Nat.le_refl, not_false_eq_true, not_true_eq_false, false_implies, true_implies, forall_const, true_and, and_true, if_true, if_false, implies_true, and_self, ne_eq, false_and, and_false, or_false, false_or, true_or, or_true]
          refine ⟨⟨rfl, ?_⟩, ((A1.trans A2).trans A3).trans A4⟩
          show TpS M4 R tr br tb sr cr n b W s.1 (cs ++ (s.2.1 ++ [th W n b q]))
          rw [← List.append_assoc]
          exact h5
      · rw [if_neg c2]
        simp (disch := omega) only [q_aload0, q_aload0N, q_get_i, pTag_1, pRf_s, q_istore1, q_iload1, q_sipush, q_ic_eq, q_invv0, inv_1, q_zret, q_ic_ne, q_iconst, q_invv1, q_if_ne, q_nop, e_208_0, e_208_2, L_0, L_1, L_1009, L_1010, L_1011, k_some, k_none, pRm_i, pRm_r, pRm_0, pF_1, pF_2, inv_s, hk81, h1.1.tg, c2, nN_le, nN_lt, nN_eq, nN_add, nN_mul, nN_lt0, nN_ge0, nN_gt0, nN_le0, nN_eq0, nN_eq1, nN_neN, pIn_n, pIx_n, eq_self, Nat.reduceLT, Bool.false_eq_true, Nat.add_zero, Nat.zero_add, Nat.reduceAdd, Nat.reduceMul, Nat.reduceSub, Nat.zero_le, Nat.reduceLeDiff, Nat.reduceEqDiff, Nat.le_refl, not_false_eq_true, not_true_eq_false, false_implies, true_implies, forall_const, true_and, and_true, if_true, if_false, implies_true, and_self, ne_eq, false_and, and_false, or_false, false_or, true_or, or_true]
        refine mw_mono (w_emit h1 (by omega)) ?_
        rintro _ M2 ⟨rfl, h2, A2⟩
        have hk82 := h2.2.1.1
        simp (disch := omega) only [q_aload0, q_aload0N, q_get_i, pTag_1, pRf_s, q_istore1, q_iload1, q_sipush, q_ic_eq, q_invv0, inv_1, q_zret, q_ic_ne, q_iconst, q_invv1, q_if_ne, q_nop, e_208_0, e_208_3, L_0, L_1, L_1009, L_1010, L_1011, k_some, k_none, pRm_i, pRm_r, pRm_0, pF_1, pF_2, inv_s, hk82, nN_le, nN_lt, nN_eq, nN_add, nN_mul, nN_lt0, nN_ge0, nN_gt0, nN_le0, nN_eq0, nN_eq1, nN_neN, pIn_n, pIx_n, eq_self, Nat.reduceLT, Bool.false_eq_true, Nat.add_zero, Nat.zero_add, Nat.reduceAdd, Nat.reduceMul, Nat.reduceSub, Nat.zero_le, Nat.reduceLeDiff, Nat.reduceEqDiff, Nat.le_refl, not_false_eq_true, not_true_eq_false, false_implies, true_implies, forall_const, true_and, and_true, if_true, if_false, implies_true, and_self, ne_eq, false_and, and_false, or_false, false_or, true_or, or_true]
        refine mw_mono (w_emit h2 (by rw [List.length_append, List.length_singleton]; omega)) ?_
        rintro _ M3 ⟨rfl, h3, A3⟩
        simp (disch := omega) only [q_aload0, q_aload0N, q_get_i, pTag_1, pRf_s, q_istore1, q_iload1, q_sipush, q_ic_eq, q_invv0, inv_1, q_zret, q_ic_ne, q_iconst, q_invv1, q_if_ne, q_nop, e_208_0, L_0, L_1, L_1009, L_1010, L_1011, k_some, k_none, pRm_i, pRm_r, pRm_0, pF_1, pF_2, inv_s, zb_1, nN_le, nN_lt, nN_eq, nN_add, nN_mul, nN_lt0, nN_ge0, nN_gt0, nN_le0, nN_eq0, nN_eq1, nN_neN, pIn_n, pIx_n, eq_self, Nat.reduceLT, Bool.false_eq_true, Nat.add_zero, Nat.zero_add, Nat.reduceAdd, Nat.reduceMul, Nat.reduceSub, Nat.zero_le, Nat.reduceLeDiff, Nat.reduceEqDiff, Nat.le_refl, not_false_eq_true, not_true_eq_false, false_implies, true_implies, forall_const, true_and, and_true, if_true, if_false, implies_true, and_self, ne_eq, false_and, and_false, or_false, false_or, true_or, or_true]
        refine ⟨⟨rfl, ?_⟩, (A1.trans A2).trans A3⟩
        show TpS M3 R tr br tb sr cr n b W (nx9 n b q) (cs ++ ([1] ++ [th W n b q]))
        rw [← List.append_assoc]
        exact h3
    rcases c with c | c
    · rw [c] at go ⊢
      simp (disch := omega) only [m_208, q_aload0, q_aload0N, q_get_i, pTag_1, pRf_s, q_istore1, q_iload1, q_sipush, q_ic_eq, q_invv0, inv_1, q_zret, q_ic_ne, q_iconst, q_invv1, q_if_ne, q_nop, e_208_0, L_0, L_1, L_1009, L_1010, L_1011, k_some, k_none, pRm_i, pRm_r, pRm_0, pF_1, pF_2, inv_s, hk8, h.1.tg, c, nN_le, nN_lt, nN_eq, nN_add, nN_mul, nN_lt0, nN_ge0, nN_gt0, nN_le0, nN_eq0, nN_eq1, nN_neN, pIn_n, pIx_n, eq_self, Nat.reduceLT, Bool.false_eq_true, Nat.add_zero, Nat.zero_add, Nat.reduceAdd, Nat.reduceMul, Nat.reduceSub, Nat.zero_le, Nat.reduceLeDiff, Nat.reduceEqDiff, Nat.le_refl, not_false_eq_true, not_true_eq_false, false_implies, true_implies, forall_const, true_and, and_true, if_true, if_false, implies_true, and_self, ne_eq, false_and, and_false, or_false, false_or, true_or, or_true]
      exact go
    · rw [c] at go ⊢
      simp (disch := omega) only [m_208, q_aload0, q_aload0N, q_get_i, pTag_1, pRf_s, q_istore1, q_iload1, q_sipush, q_ic_eq, q_invv0, inv_1, q_zret, q_ic_ne, q_iconst, q_invv1, q_if_ne, q_nop, e_208_0, L_0, L_1, L_1009, L_1010, L_1011, k_some, k_none, pRm_i, pRm_r, pRm_0, pF_1, pF_2, inv_s, hk8, h.1.tg, c, nN_le, nN_lt, nN_eq, nN_add, nN_mul, nN_lt0, nN_ge0, nN_gt0, nN_le0, nN_eq0, nN_eq1, nN_neN, pIn_n, pIx_n, eq_self, Nat.reduceLT, Bool.false_eq_true, Nat.add_zero, Nat.zero_add, Nat.reduceAdd, Nat.reduceMul, Nat.reduceSub, Nat.zero_le, Nat.reduceLeDiff, Nat.reduceEqDiff, Nat.le_refl, not_false_eq_true, not_true_eq_false, false_implies, true_implies, forall_const, true_and, and_true, if_true, if_false, implies_true, and_self, ne_eq, false_and, and_false, or_false, false_or, true_or, or_true]
      exact go
  · rw [if_neg c]
    have c1 : ¬ th W n b q = 1009 := fun z => c (Or.inl z)
    have c2 : ¬ th W n b q = 1010 := fun z => c (Or.inr z)
    simp (disch := omega) only [m_208, q_aload0, q_aload0N, q_get_i, pTag_1, pRf_s, q_istore1, q_iload1, q_sipush, q_ic_eq, q_invv0, inv_1, q_zret, q_ic_ne, q_iconst, q_invv1, q_if_ne, q_nop, e_208_0, L_0, L_1, L_1009, L_1010, L_1011, k_some, k_none, pRm_i, pRm_r, pRm_0, pF_1, pF_2, inv_s, hk8, h.1.tg, c1, c2, nN_le, nN_lt, nN_eq, nN_add, nN_mul, nN_lt0, nN_ge0, nN_gt0, nN_le0, nN_eq0, nN_eq1, nN_neN, pIn_n, pIx_n, eq_self, Nat.reduceLT, Bool.false_eq_true, Nat.add_zero, Nat.zero_add, Nat.reduceAdd, Nat.reduceMul, Nat.reduceSub, Nat.zero_le, Nat.reduceLeDiff, Nat.reduceEqDiff, Nat.le_refl, not_false_eq_true, not_true_eq_false, false_implies, true_implies, forall_const, true_and, and_true, if_true, if_false, implies_true, and_self, ne_eq, false_and, and_false, or_false, false_or, true_or, or_true]
    refine mw_mono (w_wrongT h) ?_
    rintro _ M2 ⟨⟨rfl, h3⟩, A2⟩
    simp (disch := omega) only [q_aload0, q_aload0N, q_get_i, pTag_1, pRf_s, q_istore1, q_iload1, q_sipush, q_ic_eq, q_invv0, inv_1, q_zret, q_ic_ne, q_iconst, q_invv1, q_if_ne, q_nop, e_208_0, L_0, L_1, L_1009, L_1010, L_1011, k_some, k_none, pRm_i, pRm_r, pRm_0, pF_1, pF_2, inv_s, zb_0, nN_le, nN_lt, nN_eq, nN_add, nN_mul, nN_lt0, nN_ge0, nN_gt0, nN_le0, nN_eq0, nN_eq1, nN_neN, pIn_n, pIx_n, eq_self, Nat.reduceLT, Bool.false_eq_true, Nat.add_zero, Nat.zero_add, Nat.reduceAdd, Nat.reduceMul, Nat.reduceSub, Nat.zero_le, Nat.reduceLeDiff, Nat.reduceEqDiff, Nat.le_refl, not_false_eq_true, not_true_eq_false, false_implies, true_implies, forall_const, true_and, and_true, if_true, if_false, implies_true, and_self, ne_eq, false_and, and_false, or_false, false_or, true_or, or_true]
    exact ⟨⟨rfl, h3⟩, A2⟩
theorem pF_8 {z w : Nat} : pFind 8 [8, z, 10, w] = some z := by simp [pFind]
/-- how a temper's text ends -/
def TxE (R tr br tb sr cr n : Nat) (b : Nat → Nat) (W : List (List Nat)) (cs : List Nat) (r : Nat ⊕ (List Nat × ((Nat → Int32) → Bool))) (o : pOut) (M' : pMem) : Prop := match r with
  | .inl e => o = .inl (some (.int (nN 0))) ∧ gI M' R 9 = nN e
  | .inr s => o = .inl (some (.int (nN 1))) ∧ ∃ p, TpS M' R tr br tb sr cr n b W p (cs ++ s.1) ∧ (cs ++ s.1).length ≤ 400
theorem Gd_line (hq : q ≤ n) (hq2 : q = n ∨ (q < n ∧ isB b q = true)) (hW : W2 n b W) : match pLine (th W n b) (nx9 n b) 400 q with | .inl _ => True | .inr s => (q < s.1 ∧ s.1 ≤ n ∧ (s.1 = n ∨ (s.1 < n ∧ isB b s.1 = true))) ∧ (s.2.1.length + q ≤ s.1 ∧ ∀ x ∈ s.2.1, x < 4000) ∧ ∀ fv r, runC fv (s.2.1 ++ r) [] = if s.2.2 fv = nN 1 then decide (th W n b q = 1009) else runC fv r [] := by
  unfold pLine
  by_cases c : th W n b q = 1009 ∨ th W n b q = 1010
  · rw [if_pos c]
    have hp : q < n := by
      rcases hq2 with z | z
      · rw [z, th_n] at c; omega
      · exact z.1
    have hx := At_nx (b := b) hp
    have hw2 := hW q hp c
    have hnb := (nb_spec (n := n) (b := b) (k := te n b q) (te_spec (b := b) hp).2.1).1
    have hnx : q + 2 ≤ nx9 n b q := by unfold nx9; omega
    have hv : ∀ (fv : Nat → Int32) (r : List Nat) (x : Int32), runC fv (th W n b q :: r) [x] = if x = nN 1 then decide (th W n b q = 1009) else runC fv r [] := by
      intro fv r x
      rw [runC_c, if_neg (by omega), if_neg (by omega), if_neg (by omega), if_pos c]
      rfl
    by_cases c2 : th W n b (nx9 n b q) = 1011
    · rw [if_pos c2]
      have hp1 : nx9 n b q < n := by
        rcases hx.2.2 with z | z
        · rw [z, th_n] at c2; omega
        · exact z.1
      have hx1 := At_nx (b := b) hp1
      have G2 := Gd_so (F := 400) (W := W) (k := 3 + 2 * 6) (atm := pAtom (th W n b) (nx9 n b) 400 6) (fun q h1 h2 => Gd_atom 6 q h1 h2) hx1.2.1 hx1.2.2
      cases hs : pSo (th W n b) (nx9 n b) 400 (pAtom (th W n b) (nx9 n b) 400 6) (nx9 n b (nx9 n b q)) with
      | inl e => trivial
      | inr s =>
        rw [hs] at G2
        obtain ⟨a1, ⟨a2, a3⟩, a4⟩ := G2
        refine ⟨⟨by show q < s.1; omega, a1.2⟩, ⟨?_, ?_⟩, ?_⟩
        · show (s.2.1 ++ [th W n b q]).length + q ≤ s.1
          rw [List.length_append, List.length_singleton]; omega
        · intro x hx
          have hx : x ∈ s.2.1 ++ [th W n b q] := hx
          simp only [List.mem_append, List.mem_singleton] at hx
          rcases hx with hx | hx
          · exact a3 x hx
          · omega
        · intro fv r
          show runC fv (s.2.1 ++ [th W n b q] ++ r) [] = _
          rw [List.append_assoc, a4 fv _ [] (by show 0 + _ ≤ 20; omega)]
          exact hv fv r _
    · rw [if_neg c2]
      refine ⟨hx, ⟨?_, ?_⟩, ?_⟩
      · show 2 + q ≤ nx9 n b q; omega
      · intro x hx
        have hx : x ∈ [1, th W n b q] := hx
        simp only [List.mem_cons, List.not_mem_nil, or_false] at hx
        omega
      · intro fv r
        show runC fv (1 :: th W n b q :: r) [] = _
        rw [runC_c, if_pos (by omega)]
        exact hv fv r (nN 1)
  · rw [if_neg c]; trivial
theorem run_txt (hW : W2 n b W) : ∀ (j q : Nat), q ≤ n → (q = n ∨ (q < n ∧ isB b q = true)) → ∀ s, pTxt (th W n b) (nx9 n b) 400 j q = .inr s → s.1.length + q ≤ n ∧ (∀ x ∈ s.1, x < 4000) ∧ ∀ fv, runC fv s.1 [] = s.2 fv := by
  intro j
  induction j with
  | zero => intro q _ _ s h; cases h
  | succ j ih =>
    intro q hq hq2 s h
    have G := Gd_line hq hq2 hW
    unfold pTxt at h
    cases hl : pLine (th W n b) (nx9 n b) 400 q with
    | inl e => rw [hl] at h; cases h
    | inr s1 =>
      rw [hl] at h G
      obtain ⟨a1, ⟨a2, a3⟩, a4⟩ := G
      dsimp only at h
      split at h
      · cases h
        refine ⟨by show s1.2.1.length + q ≤ n; omega, a3, fun fv => ?_⟩
        have := a4 fv []
        rw [List.append_nil] at this
        exact this
      · split at h
        · rename_i hne h2059
          obtain ⟨g1, g2, g3, g4⟩ := Gd_nx (W := W) a1 (by rw [h2059]; omega)
          cases ht : pTxt (th W n b) (nx9 n b) 400 j (nx9 n b s1.1) with
          | inl e => rw [ht] at h; cases h
          | inr s2 =>
            rw [ht] at h
            cases h
            obtain ⟨b1, b2, b3⟩ := ih _ g3 g4 s2 ht
            refine ⟨?_, ?_, fun fv => ?_⟩
            · show (s1.2.1 ++ s2.1).length + q ≤ n
              rw [List.length_append]; omega
            · intro x hx
              have hx : x ∈ s1.2.1 ++ s2.1 := hx
              rcases List.mem_append.mp hx with hx | hx
              · exact a3 x hx
              · exact b2 x hx
            · show runC fv (s1.2.1 ++ s2.1) [] = _
              rw [a4 fv s2.1, b3 fv]
        · cases h
end TE9
