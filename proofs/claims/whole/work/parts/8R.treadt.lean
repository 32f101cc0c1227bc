/-! THE CLASS READS A TEXT OF THE TOWN; town() -/
def TnT (t n : Nat) (b : Nat → Nat) (r : Nat ⊕ (Nat → Int32)) (o : pOut) (M' : pMem) : Prop := match r with
  | .inl e => o = .inl (some (.int (nN 0))) ∧ gI M' 69 9 = nN e
  | .inr a' => o = .inl (some (.int (nN 1))) ∧ ∃ p, TnS M' t n b p a'
/-- what the reading of a text may change -/
def XK (S : Nat → Nat × Nat) (P : Nat → Nat → Option Nat) (h k : Nat) : Prop := (70 ≤ h ∧ h ≤ 71) ∨ (h = 69 ∧ 5 ≤ k) ∨ XTw S P 3 h k
section RT9
variable {d t n u q m c s p x y v k K lo f : Nat} {a a' ak : Nat → Int32} {img : Bool} {b b' : Nat → Nat} {fl fl' : Int32} {M M1 M2 M3 M' : pMem} {Q : pOut → pMem → Prop}
theorem XK_L {S : Nat → Nat × Nat} {P : Nat → Nat → Option Nat} : ∀ h k, XK S P h k → XL S P h k := by
  rintro h k (z | z | z)
  · exact Or.inl (Or.inr (Or.inr (Or.inl z)))
  · exact Or.inl (Or.inr (Or.inr (Or.inr (Or.inr ⟨Or.inl z.1, z.2⟩))))
  · exact Or.inr z
theorem XN_K {S : Nat → Nat × Nat} {P : Nat → Nat → Option Nat} : ∀ h k, XN S P h k → XK S P h k := by
  rintro h k (z | z)
  · exact Or.inr (Or.inl ⟨z.1, by have := z.2; omega⟩)
  · exact Or.inr (Or.inr z)
theorem pTT_ok : ∀ (j p : Nat) (a : Nat → Int32) (K : Nat), Wt a K → K + 99 * j < 2000000 → PosO n b p → ∀ a', pTT (th uW n b) (nx9 n b) j p a = .inr a' → Wt a' (K + 99 * j) ∧ Gk a a' := by
  intro j
  induction j with
  | zero => intro p a K _ _ _ a' h; cases h
  | succ j ih =>
    intro p a K hw hK hp a' h
    unfold pTT at h
    cases hl : pTL (th uW n b) (nx9 n b) a p with
    | inl e => rw [hl] at h; cases h
    | inr s =>
      rw [hl] at h
      obtain ⟨⟨w1, G1⟩, p1, -⟩ := pTL_ok hw (by omega) hp hl
      dsimp only at h
      split at h
      · cases h
        exact ⟨w1.mono (by omega), G1⟩
      · split at h
        · rename_i hne h2059
          have g := p1.nx (W := uW) (by omega)
          obtain ⟨w2, G2⟩ := ih _ _ (K + 99) w1 (by omega) g.1 a' h
          exact ⟨w2.mono (by omega), G1.trans G2⟩
        · cases h
theorem pTown_ok (hw : Wt a K) (hK : K + 1386 < 2000000) {a' : Nat → Int32} (h : pTown (th uW n b) (nx9 n b) (nb n b 0) a = .inr a') : Wt a' (K + 1386) ∧ Gk a a' := by
  unfold pTown at h
  split at h
  · cases h; exact ⟨hw.mono (by omega), Gk.rfl⟩
  · obtain ⟨h1, h2, h3, h4⟩ := nb_spec (n := n) (b := b) (k := 0) (by omega)
    have h5 : PosO n b (nb n b 0) := by
      refine ⟨h2, ?_⟩
      by_cases c : nb n b 0 = n
      · exact Or.inl c
      · exact Or.inr ⟨by omega, h3 (by omega)⟩
    exact pTT_ok 14 _ a K hw (by omega) h5 a' h
theorem t_read (sh : ShF (gS M) (gP M)) (hr : Rep M t a) (hT : TmR M t a) (ht : t = 3) (hw : Wt a K) (hK : K + 1386 < 2000000) (hb : ∀ k, k < n → gI M 2 k = nN (b k)) (hb2 : ∀ k, b k < 256) (hn : n ≤ 400) (h2 : gI M 69 2 = nN 14) :
    mw (d + 13) 180 [.ref 69, .int (nN n)] M (fun o M' => TnT t n b (pTown (th uW n b) (nx9 n b) (nb n b 0) a) o M' ∧ Ag (XK (gS M) (gP M)) M M') := by
  have m1 : (if 400 < n then nN 400 else nN n) = nN n := if_neg (by omega)
  have m2 : (if 0 < n then nN n else nN 0) = nN n := by
    by_cases c : 0 < n
    · rw [if_pos c]
    · rw [if_neg c, show n = 0 from by omega]
  have k69 : (gS M 69).1 = 10 := by rw [sh.k69]
  have lo : ∀ k, 5 ≤ k → XK (gS M) (gP M) 69 k := fun k hk => Or.inr (Or.inl ⟨rfl, hk⟩)
  have A0 : Ag (XK (gS M) (gP M)) M (sI (sI M 69 5 (nN n)) 69 9 (iN (-1))) := Ag.put (Ag.one (lo 5 (by omega))) (lo 9 (by omega))
  have Al : Ag (fun h k => h = 69 ∧ 5 ≤ k) M (sI (sI M 69 5 (nN n)) 69 9 (iN (-1))) := Ag.put (Ag.one ⟨rfl, by omega⟩) ⟨rfl, by omega⟩
  have hr0 : RdS (sI (sI M 69 5 (nN n)) 69 9 (iN (-1))) 69 70 71 2 900001 := RdS.mk (Or.inr k69) sh.q69a sh.q69b sh.q69c sh.q69d sh.k70 sh.k71 sh.k2 sh.s1 (by omega) (by omega) (by omega) (by omega) (by omega) (by omega)
  simp (disch := omega) only [m_180, q_aload0, q_aload0N, q_iconst, q_iload1, q_sipush, q_min, q_max, q_put_i, pTag_2, q_invv0, inv_2, q_get_i, pRf_s, q_ic_ne, q_zret, q_istore2, q_nop, q_iload2, q_ic_ge, q_if_ne, q_invv1, q_iinc2, q_goto, e_180_0, L_0, L_1, L_400, L_2059, L_3000, k_some, k_none, pRm_i, pRm_r, pRm_0, pF_1, pF_2, inv_s, k69, m1, m2, gS_sI, pF_2, nN_le, nN_lt, nN_eq, nN_add, nN_mul, nN_lt0, nN_ge0, nN_gt0, nN_le0, nN_eq0, nN_eq1, nN_neN, pIn_n, pIx_n, eq_self, Nat.reduceLT, Bool.false_eq_true, Nat.add_zero, Nat.zero_add, Nat.reduceAdd, Nat.reduceMul, Nat.reduceSub, Nat.zero_le, Nat.reduceLeDiff, Nat.reduceEqDiff, Nat.le_refl, not_false_eq_true, not_true_eq_false, false_implies, true_implies, forall_const, true_and, and_true, if_true, if_false, implies_true, and_self, ne_eq, false_and, and_false, or_false, false_or, true_or, or_true]
  generalize hM0 : sI (sI M 69 5 (nN n)) 69 9 (iN (-1)) = M0 at A0 Al hr0 ⊢
  have y0 : ∀ k, k < n → gI M0 2 k = nN (b k) := fun k hk => by rw [Al.I (by omega)]; exact hb k hk
  have l0 : gI M0 69 5 = nN n := by rw [← hM0, gI_sI, if_neg (by omega), gI_sI, if_pos ⟨rfl, rfl⟩]
  have f0 : gI M0 69 9 = iN (-1) := by rw [← hM0, gI_sI, if_pos ⟨rfl, rfl⟩]
  have c0 : gI M0 69 2 = nN 14 := by rw [Al.I (by omega)]; exact h2
  refine mw_mono (w_cutUp hr0 WdO_u y0 hb2 hn l0 f0) ?_
  rintro _ M1 ⟨rfl, h1, A1⟩
  have hx1 : ∀ h k, RdX 69 70 71 h k → XK (gS M) (gP M) h k := by
    rintro h k (z | z | ⟨z, z2⟩)
    · exact Or.inl (by omega)
    · exact Or.inl (by omega)
    · rw [z]; exact lo k (by omega)
  have A01 : Ag (XK (gS M) (gP M)) M M1 := A0.trans (A1.mono hx1)
  have nt : ∀ h k, t ≤ h → h < t + 22 → ¬ RdX 69 70 71 h k := by
    rintro h k z1 z2 (z | z | ⟨z, -⟩) <;> omega
  have T1 : TnS M1 t n b (nb n b 0) a := by
    refine TnS.mk ht h1 (by rw [A01.S]; exact k69) (by rw [A01.P, ht]; exact sh.q69e) ?_ ?_
    · exact (hr.ag Al (fun h k z1 z2 z3 => by omega)).ag A1 (fun h k z1 z2 z3 => nt h k z1 z2)
    · exact (hT.agA (Al.mono fun h k z => Or.inl (by omega))).agA (A1.mono fun h k z => Or.inl (by rcases z with z | z | ⟨z, -⟩ <;> omega))
  have e2 : gI M1 69 2 = nN 14 := by
    rw [A1.I (by rintro (z | z | ⟨-, z⟩) <;> omega)]; exact c0
  have hk81 := T1.k
  have htl := h1.tl (nb n b 0)
  unfold pTown
  by_cases c3 : th uW n b (nb n b 0) = 3000
  · rw [if_pos c3]
    simp (disch := omega) only [q_aload0, q_aload0N, q_iconst, q_iload1, q_sipush, q_min, q_max, q_put_i, pTag_2, q_invv0, inv_2, q_get_i, pRf_s, q_ic_ne, q_zret, q_istore2, q_nop, q_iload2, q_ic_ge, q_if_ne, q_invv1, q_iinc2, q_goto, e_180_0, L_0, L_1, L_400, L_2059, L_3000, k_some, k_none, pRm_i, pRm_r, pRm_0, pF_1, pF_2, inv_s, hk81, h1.tg, c3, zb_1, nN_le, nN_lt, nN_eq, nN_add, nN_mul, nN_lt0, nN_ge0, nN_gt0, nN_le0, nN_eq0, nN_eq1, nN_neN, pIn_n, pIx_n, eq_self, Nat.reduceLT, Bool.false_eq_true, Nat.add_zero, Nat.zero_add, Nat.reduceAdd, Nat.reduceMul, Nat.reduceSub, Nat.zero_le, Nat.reduceLeDiff, Nat.reduceEqDiff, Nat.le_refl, not_false_eq_true, not_true_eq_false, false_implies, true_implies, forall_const, true_and, and_true, if_true, if_false, implies_true, and_self, ne_eq, false_and, and_false, or_false, false_or, true_or, or_true]
    exact ⟨⟨rfl, nb n b 0, T1⟩, A01⟩
  · rw [if_neg c3]
    have ne2 : ∀ k, k < 5 → ¬ XN (gS M) (gP M) 69 k := by
      rintro k hk (z | z | ⟨q, ⟨z, -⟩, z2 | ⟨z2, -⟩⟩)
      · have := z.2; omega
      · omega
      · omega
      · omega
    have key : ∀ (j l q : Nat) (a2 : Nat → Int32) (M2 : pMem), l + j = 14 → TnS M2 t n b q a2 → Wt a2 (K + 99 * l) → gI M2 69 2 = nN 14 → Ag (XK (gS M) (gP M)) M M2 →
        bw (d + 12) 180 2 ([some (.ref 69), some (.int (nN n)), some (.int (nN l))], [], M2) (fun o M' => TnT t n b (pTT (th uW n b) (nx9 n b) j q a2) o M' ∧ Ag (XK (gS M) (gP M)) M M') := by
      intro j
      induction j with
      | zero =>
        intro l q a2 M2 hl h3 h4 h5 A2
        have hk82 := h3.k
        have el : 14 ≤ l := by omega
        rw [e_180_2]
        simp (disch := omega) only [q_aload0, q_aload0N, q_iconst, q_iload1, q_sipush, q_min, q_max, q_put_i, pTag_2, q_invv0, inv_2, q_get_i, pRf_s, q_ic_ne, q_zret, q_istore2, q_nop, q_iload2, q_ic_ge, q_if_ne, q_invv1, q_iinc2, q_goto, e_180_0, e_180_6, L_0, L_1, L_400, L_2059, L_3000, k_some, k_none, pRm_i, pRm_r, pRm_0, pF_1, pF_2, inv_s, hk82, h5, el, pF_2, nN_le, nN_lt, nN_eq, nN_add, nN_mul, nN_lt0, nN_ge0, nN_gt0, nN_le0, nN_eq0, nN_eq1, nN_neN, pIn_n, pIx_n, eq_self, Nat.reduceLT, Bool.false_eq_true, Nat.add_zero, Nat.zero_add, Nat.reduceAdd, Nat.reduceMul, Nat.reduceSub, Nat.zero_le, Nat.reduceLeDiff, Nat.reduceEqDiff, Nat.le_refl, not_false_eq_true, not_true_eq_false, false_implies, true_implies, forall_const, true_and, and_true, if_true, if_false, implies_true, and_self, ne_eq, false_and, and_false, or_false, false_or, true_or, or_true]
        refine mw_mono (t_wrong h3) ?_
        rintro _ M3 ⟨⟨rfl, h6⟩, A3⟩
        simp (disch := omega) only [q_aload0, q_aload0N, q_iconst, q_iload1, q_sipush, q_min, q_max, q_put_i, pTag_2, q_invv0, inv_2, q_get_i, pRf_s, q_ic_ne, q_zret, q_istore2, q_nop, q_iload2, q_ic_ge, q_if_ne, q_invv1, q_iinc2, q_goto, e_180_0, L_0, L_1, L_400, L_2059, L_3000, k_some, k_none, pRm_i, pRm_r, pRm_0, pF_1, pF_2, inv_s, zb_0, nN_le, nN_lt, nN_eq, nN_add, nN_mul, nN_lt0, nN_ge0, nN_gt0, nN_le0, nN_eq0, nN_eq1, nN_neN, pIn_n, pIx_n, eq_self, Nat.reduceLT, Bool.false_eq_true, Nat.add_zero, Nat.zero_add, Nat.reduceAdd, Nat.reduceMul, Nat.reduceSub, Nat.zero_le, Nat.reduceLeDiff, Nat.reduceEqDiff, Nat.le_refl, not_false_eq_true, not_true_eq_false, false_implies, true_implies, forall_const, true_and, and_true, if_true, if_false, implies_true, and_self, ne_eq, false_and, and_false, or_false, false_or, true_or, or_true]
        exact ⟨⟨rfl, h6⟩, A2.trans (A3.mono fun h k z => by rw [z.1]; exact lo k (by have := z.2; omega))⟩
      | succ j ih =>
        intro l q a2 M2 hl h3 h4 h5 A2
        have hk82 := h3.k
        have el : ¬ 14 ≤ l := by omega
        have hpo : PosO n b q := ⟨h3.rc.le, h3.rc.at9⟩
        rw [e_180_2]
        simp (disch := omega) only [q_aload0, q_aload0N, q_iconst, q_iload1, q_sipush, q_min, q_max, q_put_i, pTag_2, q_invv0, inv_2, q_get_i, pRf_s, q_ic_ne, q_zret, q_istore2, q_nop, q_iload2, q_ic_ge, q_if_ne, q_invv1, q_iinc2, q_goto, e_180_0, L_0, L_1, L_400, L_2059, L_3000, k_some, k_none, pRm_i, pRm_r, pRm_0, pF_1, pF_2, inv_s, hk82, h5, el, pF_2, nN_le, nN_lt, nN_eq, nN_add, nN_mul, nN_lt0, nN_ge0, nN_gt0, nN_le0, nN_eq0, nN_eq1, nN_neN, pIn_n, pIx_n, eq_self, Nat.reduceLT, Bool.false_eq_true, Nat.add_zero, Nat.zero_add, Nat.reduceAdd, Nat.reduceMul, Nat.reduceSub, Nat.zero_le, Nat.reduceLeDiff, Nat.reduceEqDiff, Nat.le_refl, not_false_eq_true, not_true_eq_false, false_implies, true_implies, forall_const, true_and, and_true, if_true, if_false, implies_true, and_self, ne_eq, false_and, and_false, or_false, false_or, true_or, or_true]
        refine mw_mono (t_line (d := d + 1) h3 h4 (by omega)) ?_
        rintro o M3 ⟨h6, A3⟩
        rw [A2.S, A2.P] at A3
        have A03 := A2.trans (A3.mono XN_K)
        have e3 : gI M3 69 2 = nN 14 := by rw [A3.I (ne2 2 (by omega))]; exact h5
        unfold pTT
        cases hs : pTL (th uW n b) (nx9 n b) a2 q with
        | inl e =>
          rw [hs] at h6
          obtain ⟨rfl, h7⟩ := h6
          simp (disch := omega) only [q_aload0, q_aload0N, q_iconst, q_iload1, q_sipush, q_min, q_max, q_put_i, pTag_2, q_invv0, inv_2, q_get_i, pRf_s, q_ic_ne, q_zret, q_istore2, q_nop, q_iload2, q_ic_ge, q_if_ne, q_invv1, q_iinc2, q_goto, e_180_0, L_0, L_1, L_400, L_2059, L_3000, k_some, k_none, pRm_i, pRm_r, pRm_0, pF_1, pF_2, inv_s, zb_0, nN_le, nN_lt, nN_eq, nN_add, nN_mul, nN_lt0, nN_ge0, nN_gt0, nN_le0, nN_eq0, nN_eq1, nN_neN, pIn_n, pIx_n, eq_self, Nat.reduceLT, Bool.false_eq_true, Nat.add_zero, Nat.zero_add, Nat.reduceAdd, Nat.reduceMul, Nat.reduceSub, Nat.zero_le, Nat.reduceLeDiff, Nat.reduceEqDiff, Nat.le_refl, not_false_eq_true, not_true_eq_false, false_implies, true_implies, forall_const, true_and, and_true, if_true, if_false, implies_true, and_self, ne_eq, false_and, and_false, or_false, false_or, true_or, or_true]
          exact ⟨⟨rfl, h7⟩, A03⟩
        | inr s =>
          rw [hs] at h6
          obtain ⟨rfl, h7⟩ := h6
          obtain ⟨⟨w1, -⟩, p1, -⟩ := pTL_ok h4 (by omega) hpo hs
          have hk83 := h7.k
          have htl3 := h7.rc.tl s.1
          dsimp only
          by_cases c4 : th uW n b s.1 = 3000
          · rw [if_pos c4]
            simp (disch := omega) only [q_aload0, q_aload0N, q_iconst, q_iload1, q_sipush, q_min, q_max, q_put_i, pTag_2, q_invv0, inv_2, q_get_i, pRf_s, q_ic_ne, q_zret, q_istore2, q_nop, q_iload2, q_ic_ge, q_if_ne, q_invv1, q_iinc2, q_goto, e_180_0, e_180_3, L_0, L_1, L_400, L_2059, L_3000, k_some, k_none, pRm_i, pRm_r, pRm_0, pF_1, pF_2, inv_s, hk83, h7.rc.tg, c4, zb_1, nN_le, nN_lt, nN_eq, nN_add, nN_mul, nN_lt0, nN_ge0, nN_gt0, nN_le0, nN_eq0, nN_eq1, nN_neN, pIn_n, pIx_n, eq_self, Nat.reduceLT, Bool.false_eq_true, Nat.add_zero, Nat.zero_add, Nat.reduceAdd, Nat.reduceMul, Nat.reduceSub, Nat.zero_le, Nat.reduceLeDiff, Nat.reduceEqDiff, Nat.le_refl, not_false_eq_true, not_true_eq_false, false_implies, true_implies, forall_const, true_and, and_true, if_true, if_false, implies_true, and_self, ne_eq, false_and, and_false, or_false, false_or, true_or, or_true]
            exact ⟨⟨rfl, s.1, h7⟩, A03⟩
          · rw [if_neg c4]
            simp (disch := omega) only [q_aload0, q_aload0N, q_iconst, q_iload1, q_sipush, q_min, q_max, q_put_i, pTag_2, q_invv0, inv_2, q_get_i, pRf_s, q_ic_ne, q_zret, q_istore2, q_nop, q_iload2, q_ic_ge, q_if_ne, q_invv1, q_iinc2, q_goto, e_180_0, e_180_3, e_180_4, L_0, L_1, L_400, L_2059, L_3000, k_some, k_none, pRm_i, pRm_r, pRm_0, pF_1, pF_2, inv_s, hk83, h7.rc.tg, c4, pF_2, nN_le, nN_lt, nN_eq, nN_add, nN_mul, nN_lt0, nN_ge0, nN_gt0, nN_le0, nN_eq0, nN_eq1, nN_neN, pIn_n, pIx_n, eq_self, Nat.reduceLT, Bool.false_eq_true, Nat.add_zero, Nat.zero_add, Nat.reduceAdd, Nat.reduceMul, Nat.reduceSub, Nat.zero_le, Nat.reduceLeDiff, Nat.reduceEqDiff, Nat.le_refl, not_false_eq_true, not_true_eq_false, false_implies, true_implies, forall_const, true_and, and_true, if_true, if_false, implies_true, and_self, ne_eq, false_and, and_false, or_false, false_or, true_or, or_true]
            refine mw_mono (t_follows (c := 2059) h7 (by omega)) ?_
            rintro o M4 ⟨h8, A4⟩
            have A04 := A03.trans (A4.mono (Y := XK (gS M) (gP M)) fun h k z => by rw [z.1]; exact lo k (by have := z.2; omega))
            by_cases c5 : th uW n b s.1 = 2059
            · rw [if_pos c5] at h8 ⊢
              obtain ⟨rfl, h9⟩ := h8
              simp (disch := omega) only [q_aload0, q_aload0N, q_iconst, q_iload1, q_sipush, q_min, q_max, q_put_i, pTag_2, q_invv0, inv_2, q_get_i, pRf_s, q_ic_ne, q_zret, q_istore2, q_nop, q_iload2, q_ic_ge, q_if_ne, q_invv1, q_iinc2, q_goto, e_180_0, e_180_5, L_0, L_1, L_400, L_2059, L_3000, k_some, k_none, pRm_i, pRm_r, pRm_0, pF_1, pF_2, inv_s, nN_le, nN_lt, nN_eq, nN_add, nN_mul, nN_lt0, nN_ge0, nN_gt0, nN_le0, nN_eq0, nN_eq1, nN_neN, pIn_n, pIx_n, eq_self, Nat.reduceLT, Bool.false_eq_true, Nat.add_zero, Nat.zero_add, Nat.reduceAdd, Nat.reduceMul, Nat.reduceSub, Nat.zero_le, Nat.reduceLeDiff, Nat.reduceEqDiff, Nat.le_refl, not_false_eq_true, not_true_eq_false, false_implies, true_implies, forall_const, true_and, and_true, if_true, if_false, implies_true, and_self, ne_eq, false_and, and_false, or_false, false_or, true_or, or_true]
              exact ih (l + 1) (nx9 n b s.1) s.2 M4 (by omega) h9 (w1.mono (by omega)) (by rw [A4.I (by rintro ⟨-, z⟩; omega)]; exact e3) A04
            · rw [if_neg c5] at h8 ⊢
              obtain ⟨rfl, h9⟩ := h8
              simp (disch := omega) only [q_aload0, q_aload0N, q_iconst, q_iload1, q_sipush, q_min, q_max, q_put_i, pTag_2, q_invv0, inv_2, q_get_i, pRf_s, q_ic_ne, q_zret, q_istore2, q_nop, q_iload2, q_ic_ge, q_if_ne, q_invv1, q_iinc2, q_goto, e_180_0, L_0, L_1, L_400, L_2059, L_3000, k_some, k_none, pRm_i, pRm_r, pRm_0, pF_1, pF_2, inv_s, zb_0, nN_le, nN_lt, nN_eq, nN_add, nN_mul, nN_lt0, nN_ge0, nN_gt0, nN_le0, nN_eq0, nN_eq1, nN_neN, pIn_n, pIx_n, eq_self, Nat.reduceLT, Bool.false_eq_true, Nat.add_zero, Nat.zero_add, Nat.reduceAdd, Nat.reduceMul, Nat.reduceSub, Nat.zero_le, Nat.reduceLeDiff, Nat.reduceEqDiff, Nat.le_refl, not_false_eq_true, not_true_eq_false, false_implies, true_implies, forall_const, true_and, and_true, if_true, if_false, implies_true, and_self, ne_eq, false_and, and_false, or_false, false_or, true_or, or_true]
              exact ⟨⟨rfl, h9⟩, A04⟩
    simp (disch := omega) only [q_aload0, q_aload0N, q_iconst, q_iload1, q_sipush, q_min, q_max, q_put_i, pTag_2, q_invv0, inv_2, q_get_i, pRf_s, q_ic_ne, q_zret, q_istore2, q_nop, q_iload2, q_ic_ge, q_if_ne, q_invv1, q_iinc2, q_goto, e_180_0, e_180_1, L_0, L_1, L_400, L_2059, L_3000, k_some, k_none, pRm_i, pRm_r, pRm_0, pF_1, pF_2, inv_s, hk81, h1.tg, c3, nN_le, nN_lt, nN_eq, nN_add, nN_mul, nN_lt0, nN_ge0, nN_gt0, nN_le0, nN_eq0, nN_eq1, nN_neN, pIn_n, pIx_n, eq_self, Nat.reduceLT, Bool.false_eq_true, Nat.add_zero, Nat.zero_add, Nat.reduceAdd, Nat.reduceMul, Nat.reduceSub, Nat.zero_le, Nat.reduceLeDiff, Nat.reduceEqDiff, Nat.le_refl, not_false_eq_true, not_true_eq_false, false_implies, true_implies, forall_const, true_and, and_true, if_true, if_false, implies_true, and_self, ne_eq, false_and, and_false, or_false, false_or, true_or, or_true]
    exact key 14 0 (nb n b 0) a M1 (by omega) T1 (hw.mono (by omega)) e2 A01
end RT9
