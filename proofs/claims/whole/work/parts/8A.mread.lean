/-! THE LAW'S MODEL READS A TEMPER'S TEXT: the whole -/
def MdW (u h k : Nat) : Prop := h = u ∧ (k = 9 ∨ k = 10 ∨ k = 11 ∨ k = 12 ∨ k = 17)
def RdM (w : Int32) (M' : pMem) (u : Nat) (fv : Nat → Int32) (r : Nat ⊕ (List Nat × ((Nat → Int32) → Bool))) : Prop := match r with
  | .inl e => gI M' u 10 = nN e ∧ e < 1000
  | .inr s => gI M' u 10 = iN (-1) ∧ (w = iN (-1) → (gI M' u 17 = nN 1 ↔ s.2 fv = true)) ∧ (¬ w = iN (-1) → gI M' u 17 = w)
section RM
variable {d n u p q k m c sr i dp K : Nat} {b : Nat → Nat} {fv : Nat → Int32} {M M1 M' : pMem} {Q : pOut → pMem → Prop} {x y : Int32} {W : List (List Nat)}
theorem MdW_V : ∀ h k, MdV u h k → MdW u h k := by
  rintro h k (⟨z, z2⟩ | ⟨z, z2⟩)
  · exact ⟨z, by omega⟩
  · exact ⟨z, by omega⟩
theorem MdW_9 : ∀ h k, (h = u ∧ k = 9) → MdW u h k := fun h k z => ⟨z.1, Or.inl z.2⟩
theorem MdW_10 : ∀ h k, (h = u ∧ k = 10) → MdW u h k := fun h k z => ⟨z.1, Or.inr (Or.inl z.2)⟩
theorem MdT.keep {X : Nat → Nat → Prop} (h : MdT M u n b dp fv q p) (A : Ag X M M') (n1 : ∀ k, 7 ≤ k → k ≤ 11 → ¬ X u k) (n2 : ∀ k, ¬ X (u + 4) k) (n3 : ∀ k, ¬ X (u + 1) k) (n4 : ∀ k, ¬ X (u + 5) k) (n5 : ∀ k, 14 ≤ k → k ≤ 16 → ¬ X u k) : MdT M' u n b dp fv q p :=
  MdT.mk (h.sd.keep A (fun k h1 h2 => n1 k h1 (by omega)) n2 n3) (by rw [A.I (n1 11 (by omega) (by omega))]; exact h.de) ⟨fun i hi => by rw [A.I (n4 i)]; exact h.fs.1 i hi, by rw [A.I (n5 14 (by omega) (by omega))]; exact h.fs.2.1, by rw [A.I (n5 15 (by omega) (by omega))]; exact h.fs.2.2.1, by rw [A.I (n5 16 (by omega) (by omega))]; exact h.fs.2.2.2⟩
theorem th_end9 (hW : W.length < 100) (h9 : ∀ k, b k < 256) : th W n b p = 3000 ↔ n ≤ p := by
  constructor
  · intro h
    by_cases c : n ≤ p
    · exact c
    · have h9 := h9 p
      rcases th_kinds (b := b) hW (show p < n by omega) with ⟨h1, h2⟩ | ⟨h1, h2⟩ | ⟨h1, h2, h3, h4⟩ <;> omega
  · intro h; exact th_3000 h
/-- blanks are skipped behind a fault, too -/
theorem w_skipF (hs : ShM (gS M) (gP M) u) (hl : LtM M u n b) (h9 : ∀ k, b k < 256) (hn : n ≤ 400) (he : gI M u 8 = nN n) (hq : gI M u 9 = nN q) (hq9 : q < 1000) : mw (d + 2) 61 [.ref u] M (fun o M' => o = .inl none ∧ Ag (fun h k => h = u ∧ k = 9) M M') := by
  have key : ∀ (j q : Nat) (M : pMem), q + j = n ∨ n ≤ q → q < 1000 → ShM (gS M) (gP M) u → LtM M u n b → gI M u 8 = nN n → gI M u 9 = nN q → bw (d + 1) 61 0 ([some (.ref u)], [], M) (fun o M' => o = .inl none ∧ Ag (fun h k => h = u ∧ k = 9) M M') := by
    intro j
    induction j with
    | zero =>
      intro q M hj hq9 hs hl he hq
      have e : n ≤ q := by omega
      rw [e_61_0]
      simp (disch := omega) only [q_aload0, q_aload0N, q_get_i, pTag_1, pRf_s, q_ic_ge, q_invv1, inv_1, q_bipush, q_ic_ne, q_dup_i, q_dup_r, q_iconst, q_iadd, q_put_i, q_goto, q_vret, e_61_1, L_1, L_32, k_some, k_none, pRm_i, pRm_r, pRm_0, pF_1, pF_2, inv_s, hs.k0, hq, he, e, nN_le, nN_lt, nN_eq, nN_add, nN_mul, nN_lt0, nN_ge0, nN_gt0, nN_le0, nN_eq0, nN_eq1, nN_neN, pIn_n, pIx_n, eq_self, Nat.reduceLT, Bool.false_eq_true, Nat.add_zero, Nat.zero_add, Nat.reduceAdd, Nat.reduceMul, Nat.reduceSub, Nat.zero_le, Nat.reduceLeDiff, Nat.reduceEqDiff, Nat.le_refl, not_false_eq_true, not_true_eq_false, false_implies, true_implies, forall_const, true_and, and_true, if_true, if_false, implies_true, and_self, ne_eq, false_and, and_false, or_false, false_or, true_or, or_true]
      exact Ag.rfl
    | succ j ih =>
      intro q M hj hq9 hs hl he hq
      by_cases e : n ≤ q
      · rw [e_61_0]
        simp (disch := omega) only [q_aload0, q_aload0N, q_get_i, pTag_1, pRf_s, q_ic_ge, q_invv1, inv_1, q_bipush, q_ic_ne, q_dup_i, q_dup_r, q_iconst, q_iadd, q_put_i, q_goto, q_vret, e_61_1, L_1, L_32, k_some, k_none, pRm_i, pRm_r, pRm_0, pF_1, pF_2, inv_s, hs.k0, hq, he, e, nN_le, nN_lt, nN_eq, nN_add, nN_mul, nN_lt0, nN_ge0, nN_gt0, nN_le0, nN_eq0, nN_eq1, nN_neN, pIn_n, pIx_n, eq_self, Nat.reduceLT, Bool.false_eq_true, Nat.add_zero, Nat.zero_add, Nat.reduceAdd, Nat.reduceMul, Nat.reduceSub, Nat.zero_le, Nat.reduceLeDiff, Nat.reduceEqDiff, Nat.le_refl, not_false_eq_true, not_true_eq_false, false_implies, true_implies, forall_const, true_and, and_true, if_true, if_false, implies_true, and_self, ne_eq, false_and, and_false, or_false, false_or, true_or, or_true]
        exact Ag.rfl
      · have hb9 := h9 q
        rw [e_61_0]
        by_cases c : b q = 32
        · simp (disch := omega) only [q_aload0, q_aload0N, q_get_i, pTag_1, pRf_s, q_ic_ge, q_invv1, inv_1, q_bipush, q_ic_ne, q_dup_i, q_dup_r, q_iconst, q_iadd, q_put_i, q_goto, q_vret, e_61_1, L_1, L_32, k_some, k_none, pRm_i, pRm_r, pRm_0, pF_1, pF_2, inv_s, hs.k0, hq, he, w_letter hs hl, e, c, nN_le, nN_lt, nN_eq, nN_add, nN_mul, nN_lt0, nN_ge0, nN_gt0, nN_le0, nN_eq0, nN_eq1, nN_neN, pIn_n, pIx_n, eq_self, Nat.reduceLT, Bool.false_eq_true, Nat.add_zero, Nat.zero_add, Nat.reduceAdd, Nat.reduceMul, Nat.reduceSub, Nat.zero_le, Nat.reduceLeDiff, Nat.reduceEqDiff, Nat.le_refl, not_false_eq_true, not_true_eq_false, false_implies, true_implies, forall_const, true_and, and_true, if_true, if_false, implies_true, and_self, ne_eq, false_and, and_false, or_false, false_or, true_or, or_true]
          have A : Ag (fun h k => h = u ∧ k = 9) M (sI M u 9 (nN (q + 1))) := Ag.one ⟨rfl, rfl⟩
          refine bw_mono (ih (q + 1) _ (by omega) (by omega) hs (hl.ag A (by omega) (by omega) (by omega)) (by rw [gI_sI, if_neg (by omega)]; exact he) (by rw [gI_sI, if_pos ⟨rfl, rfl⟩])) ?_
          rintro _ M3 ⟨rfl, A3⟩
          exact ⟨rfl, A.trans A3⟩
        · simp (disch := omega) only [q_aload0, q_aload0N, q_get_i, pTag_1, pRf_s, q_ic_ge, q_invv1, inv_1, q_bipush, q_ic_ne, q_dup_i, q_dup_r, q_iconst, q_iadd, q_put_i, q_goto, q_vret, e_61_1, L_1, L_32, k_some, k_none, pRm_i, pRm_r, pRm_0, pF_1, pF_2, inv_s, hs.k0, hq, he, w_letter hs hl, e, c, nN_le, nN_lt, nN_eq, nN_add, nN_mul, nN_lt0, nN_ge0, nN_gt0, nN_le0, nN_eq0, nN_eq1, nN_neN, pIn_n, pIx_n, eq_self, Nat.reduceLT, Bool.false_eq_true, Nat.add_zero, Nat.zero_add, Nat.reduceAdd, Nat.reduceMul, Nat.reduceSub, Nat.zero_le, Nat.reduceLeDiff, Nat.reduceEqDiff, Nat.le_refl, not_false_eq_true, not_true_eq_false, false_implies, true_implies, forall_const, true_and, and_true, if_true, if_false, implies_true, and_self, ne_eq, false_and, and_false, or_false, false_or, true_or, or_true]
          exact Ag.rfl
  simp (disch := omega) only [m_61]
  exact key (n - q) q M (by omega) hq9 hs hl he hq
theorem w_readLoopM (hb : Bl fv) : ∀ (j l q p : Nat) (M2 : pMem), l + j = 12 → MdT M2 u n b 0 fv q p → gI M2 u 12 = nN l → Ag (MdW u) M M2 →
    bw (d + 33) 69 3 ([some (.ref u), some (.int (nN 1)), some (.int (nN 1))], [], M2) (fun o M' => (o = .inl none ∧ RdM (gI M2 u 17) M' u fv (pTxt (th tW n b) (nx9 n b) 400 j p)) ∧ Ag (MdW u) M M') := by
  -- behind a fault
  have outF : ∀ (M3 : pMem) (l3 e : Nat), ShM (gS M3) (gP M3) u → LtM M3 u n b → (∀ k, b k < 256) → n ≤ 400 → gI M3 u 8 = nN n → gI M3 u 10 = nN e → e < 1000 → AtB M3 u (n + 7) → gI M3 u 12 = nN l3 → Ag (MdW u) M M3 →
      bw (d + 33) 69 8 ([some (.ref u), some (.int (nN 1)), some (.int (nN 1))], [], M3) (fun o M' => (o = .inl none ∧ gI M' u 10 = nN e ∧ e < 1000) ∧ Ag (MdW u) M M') := by
    intro M3 l3 e s3 t3 h9 hn n3 f3 he ⟨q9, z1, z2⟩ i3 A3
    have A4 : Ag (fun h k => h = u ∧ k = 12) M3 (sI M3 u 12 (nN (l3 + 1))) := Ag.one ⟨rfl, rfl⟩
    have i4 : gI M3 u 12 + nN 1 = nN (l3 + 1) := by rw [i3, nN_add]
    rw [e_69_8]
    simp (disch := omega) only [q_aload0, q_aload0N, q_iconst, q_put_i, pTag_1, q_invv0, inv_1, q_get_i, pRf_s, q_ic_ge, q_goto, q_nop, q_istore2, q_iload2, q_if_eq, q_ic_ne, q_iload1, q_bipush, q_invv1, q_dup_i, q_dup_r, q_iadd, q_vret, L_0, L_1, L_12, L_14, L_59, k_some, k_none, pRm_i, pRm_r, pRm_0, pF_1, pF_2, inv_s, s3.k0, i4, gS_sI, nN_le, nN_lt, nN_eq, nN_add, nN_mul, nN_lt0, nN_ge0, nN_gt0, nN_le0, nN_eq0, nN_eq1, nN_neN, pIn_n, pIx_n, eq_self, Nat.reduceLT, Bool.false_eq_true, Nat.add_zero, Nat.zero_add, Nat.reduceAdd, Nat.reduceMul, Nat.reduceSub, Nat.zero_le, Nat.reduceLeDiff, Nat.reduceEqDiff, Nat.le_refl, not_false_eq_true, not_true_eq_false, false_implies, true_implies, forall_const, true_and, and_true, if_true, if_false, implies_true, and_self, ne_eq, false_and, and_false, or_false, false_or, true_or, or_true]
    refine mw_mono (w_skipF (M := sI M3 u 12 (nN (l3 + 1))) (q := q9) s3 (t3.ag A4 (by omega) (by omega) (by omega)) h9 hn (by rw [gI_sI, if_neg (by omega)]; exact n3) (by rw [gI_sI, if_neg (by omega)]; exact z2) (by omega)) ?_
    rintro _ M5 ⟨rfl, A5⟩
    have s5 : ShM (gS M5) (gP M5) u := by rw [A5.S, A5.P]; exact s3
    have f5 : gI M5 u 10 = nN e := by rw [A5.I (by omega), gI_sI, if_neg (by omega)]; exact f3
    have f6 := nN_ft he
    simp (disch := omega) only [q_aload0, q_aload0N, q_iconst, q_put_i, pTag_1, q_invv0, inv_1, q_get_i, pRf_s, q_ic_ge, q_goto, q_nop, q_istore2, q_iload2, q_if_eq, q_ic_ne, q_iload1, q_bipush, q_invv1, q_dup_i, q_dup_r, q_iadd, q_vret, e_69_3, e_69_9, e_69_12, L_0, L_1, L_12, L_14, L_59, k_some, k_none, pRm_i, pRm_r, pRm_0, pF_1, pF_2, inv_s, s5.k0, f5, f6, nN_le, nN_lt, nN_eq, nN_add, nN_mul, nN_lt0, nN_ge0, nN_gt0, nN_le0, nN_eq0, nN_eq1, nN_neN, pIn_n, pIx_n, eq_self, Nat.reduceLT, Bool.false_eq_true, Nat.add_zero, Nat.zero_add, Nat.reduceAdd, Nat.reduceMul, Nat.reduceSub, Nat.zero_le, Nat.reduceLeDiff, Nat.reduceEqDiff, Nat.le_refl, not_false_eq_true, not_true_eq_false, false_implies, true_implies, forall_const, true_and, and_true, if_true, if_false, implies_true, and_self, ne_eq, false_and, and_false, or_false, false_or, true_or, or_true]
    exact ⟨he, (A3.trans (A4.mono fun h k z => ⟨z.1, by omega⟩)).trans (A5.mono MdW_9)⟩
  intro j
  induction j with
  | zero =>
    intro l q p M2 hl h h12 A
    have el : l = 12 := by omega
    subst el
    have f2 := h.sd.ft
    have hn := h.sd.n9
    have hpn := h.sd.ple.2
    rw [e_69_3]
    simp (disch := omega) only [q_aload0, q_aload0N, q_iconst, q_put_i, pTag_1, q_invv0, inv_1, q_get_i, pRf_s, q_ic_ge, q_goto, q_nop, q_istore2, q_iload2, q_if_eq, q_ic_ne, q_iload1, q_bipush, q_invv1, q_dup_i, q_dup_r, q_iadd, q_vret, L_0, L_1, L_12, L_14, L_59, k_some, k_none, pRm_i, pRm_r, pRm_0, pF_1, pF_2, inv_s, h.sd.sh.k0, f2, nN_le, nN_lt, nN_eq, nN_add, nN_mul, nN_lt0, nN_ge0, nN_gt0, nN_le0, nN_eq0, nN_eq1, nN_neN, pIn_n, pIx_n, eq_self, Nat.reduceLT, Bool.false_eq_true, Nat.add_zero, Nat.zero_add, Nat.reduceAdd, Nat.reduceMul, Nat.reduceSub, Nat.zero_le, Nat.reduceLeDiff, Nat.reduceEqDiff, Nat.le_refl, not_false_eq_true, not_true_eq_false, false_implies, true_implies, forall_const, true_and, and_true, if_true, if_false, implies_true, and_self, ne_eq, false_and, and_false, or_false, false_or, true_or, or_true]
    refine mw_mono (w_skip h.sd) ?_
    rintro _ M3 ⟨rfl, h3, A3⟩
    have i3 : gI M3 u 12 = nN 12 := by rw [A3.I (by omega)]; exact h12
    simp (disch := omega) only [q_aload0, q_aload0N, q_iconst, q_put_i, pTag_1, q_invv0, inv_1, q_get_i, pRf_s, q_ic_ge, q_goto, q_nop, q_istore2, q_iload2, q_if_eq, q_ic_ne, q_iload1, q_bipush, q_invv1, q_dup_i, q_dup_r, q_iadd, q_vret, e_69_4, e_69_5, L_0, L_1, L_12, L_14, L_59, k_some, k_none, pRm_i, pRm_r, pRm_0, pF_1, pF_2, inv_s, h3.sh.k0, i3, h3.aq, nN_le, nN_lt, nN_eq, nN_add, nN_mul, nN_lt0, nN_ge0, nN_gt0, nN_le0, nN_eq0, nN_eq1, nN_neN, pIn_n, pIx_n, eq_self, Nat.reduceLT, Bool.false_eq_true, Nat.add_zero, Nat.zero_add, Nat.reduceAdd, Nat.reduceMul, Nat.reduceSub, Nat.zero_le, Nat.reduceLeDiff, Nat.reduceEqDiff, Nat.le_refl, not_false_eq_true, not_true_eq_false, false_implies, true_implies, forall_const, true_and, and_true, if_true, if_false, implies_true, and_self, ne_eq, false_and, and_false, or_false, false_or, true_or, or_true]
    refine mw_mono (w_wrongM h3.sh h3.ft) ?_
    rintro _ M4 ⟨rfl, f4, A4⟩
    simp (disch := omega) only [q_aload0, q_aload0N, q_iconst, q_put_i, pTag_1, q_invv0, inv_1, q_get_i, pRf_s, q_ic_ge, q_goto, q_nop, q_istore2, q_iload2, q_if_eq, q_ic_ne, q_iload1, q_bipush, q_invv1, q_dup_i, q_dup_r, q_iadd, q_vret, e_69_4, e_69_5, L_0, L_1, L_12, L_14, L_59, k_some, k_none, pRm_i, pRm_r, pRm_0, pF_1, pF_2, inv_s, nN_le, nN_lt, nN_eq, nN_add, nN_mul, nN_lt0, nN_ge0, nN_gt0, nN_le0, nN_eq0, nN_eq1, nN_neN, pIn_n, pIx_n, eq_self, Nat.reduceLT, Bool.false_eq_true, Nat.add_zero, Nat.zero_add, Nat.reduceAdd, Nat.reduceMul, Nat.reduceSub, Nat.zero_le, Nat.reduceLeDiff, Nat.reduceEqDiff, Nat.le_refl, not_false_eq_true, not_true_eq_false, false_implies, true_implies, forall_const, true_and, and_true, if_true, if_false, implies_true, and_self, ne_eq, false_and, and_false, or_false, false_or, true_or, or_true]
    exact outF M4 12 p (by rw [A4.S, A4.P]; exact h3.sh) (h3.lt.ag A4 (by omega) (by omega) (by omega)) h3.b9 hn (by rw [A4.I (by omega)]; exact h3.en) f4 (by omega) ⟨p, by omega, by rw [A4.I (by omega)]; exact h3.aq⟩ (by rw [A4.I (by omega)]; exact i3) ((A.trans (A3.mono MdW_9)).trans (A4.mono MdW_10))
  | succ j ih =>
    intro l q p M2 hl h h12 A
    have f2 := h.sd.ft
    have hn := h.sd.n9
    have hpn := h.sd.ple.2
    have hW : tW.length < 100 := by decide
    have el : ¬ l = 12 := by omega
    rw [e_69_3]
    simp (disch := omega) only [q_aload0, q_aload0N, q_iconst, q_put_i, pTag_1, q_invv0, inv_1, q_get_i, pRf_s, q_ic_ge, q_goto, q_nop, q_istore2, q_iload2, q_if_eq, q_ic_ne, q_iload1, q_bipush, q_invv1, q_dup_i, q_dup_r, q_iadd, q_vret, L_0, L_1, L_12, L_14, L_59, k_some, k_none, pRm_i, pRm_r, pRm_0, pF_1, pF_2, inv_s, h.sd.sh.k0, f2, nN_le, nN_lt, nN_eq, nN_add, nN_mul, nN_lt0, nN_ge0, nN_gt0, nN_le0, nN_eq0, nN_eq1, nN_neN, pIn_n, pIx_n, eq_self, Nat.reduceLT, Bool.false_eq_true, Nat.add_zero, Nat.zero_add, Nat.reduceAdd, Nat.reduceMul, Nat.reduceSub, Nat.zero_le, Nat.reduceLeDiff, Nat.reduceEqDiff, Nat.le_refl, not_false_eq_true, not_true_eq_false, false_implies, true_implies, forall_const, true_and, and_true, if_true, if_false, implies_true, and_self, ne_eq, false_and, and_false, or_false, false_or, true_or, or_true]
    refine mw_mono (w_skip h.sd) ?_
    rintro _ M3 ⟨rfl, h3, A3⟩
    have T3 := h.st A3 X9_10 h3
    have A03 := A.trans (A3.mono MdW_9)
    have i3 : gI M3 u 12 = nN l := by rw [A3.I (by omega)]; exact h12
    have j3 : gI M3 u 17 = gI M2 u 17 := A3.I (by omega)
    simp (disch := omega) only [q_aload0, q_aload0N, q_iconst, q_put_i, pTag_1, q_invv0, inv_1, q_get_i, pRf_s, q_ic_ge, q_goto, q_nop, q_istore2, q_iload2, q_if_eq, q_ic_ne, q_iload1, q_bipush, q_invv1, q_dup_i, q_dup_r, q_iadd, q_vret, e_69_4, e_69_5, e_69_6, L_0, L_1, L_12, L_14, L_59, k_some, k_none, pRm_i, pRm_r, pRm_0, pF_1, pF_2, inv_s, h3.sh.k0, i3, el, nN_le, nN_lt, nN_eq, nN_add, nN_mul, nN_lt0, nN_ge0, nN_gt0, nN_le0, nN_eq0, nN_eq1, nN_neN, pIn_n, pIx_n, eq_self, Nat.reduceLT, Bool.false_eq_true, Nat.add_zero, Nat.zero_add, Nat.reduceAdd, Nat.reduceMul, Nat.reduceSub, Nat.zero_le, Nat.reduceLeDiff, Nat.reduceEqDiff, Nat.le_refl, not_false_eq_true, not_true_eq_false, false_implies, true_implies, forall_const, true_and, and_true, if_true, if_false, implies_true, and_self, ne_eq, false_and, and_false, or_false, false_or, true_or, or_true]
    refine mw_mono (w_lineM (d := d + 1) hb T3) ?_
    rintro o M4 ⟨⟨rfl, h4⟩, A4⟩
    have s4 : ShM (gS M4) (gP M4) u := by rw [A4.S, A4.P]; exact h3.sh
    have A04 := A03.trans (A4.mono MdW_V)
    have n12 : ¬ MdV u u 12 := by rintro (⟨-, z⟩ | ⟨-, z⟩) <;> omega
    have nV : ∀ h k, h ≠ u → ¬ MdV u h k := by rintro h k z (⟨z2, -⟩ | ⟨z2, -⟩) <;> exact z z2
    have nV2 : ∀ k, (k = 7 ∨ k = 8) → ¬ MdV u u k := by rintro k z (⟨-, z2⟩ | ⟨-, z2⟩) <;> omega
    have i4 : gI M4 u 12 = nN l := by rw [A4.I n12]; exact i3
    simp (disch := omega) only [q_aload0, q_aload0N, q_iconst, q_put_i, pTag_1, q_invv0, inv_1, q_get_i, pRf_s, q_ic_ge, q_goto, q_nop, q_istore2, q_iload2, q_if_eq, q_ic_ne, q_iload1, q_bipush, q_invv1, q_dup_i, q_dup_r, q_iadd, q_vret, e_69_4, e_69_5, L_0, L_1, L_12, L_14, L_59, k_some, k_none, pRm_i, pRm_r, pRm_0, pF_1, pF_2, inv_s, nN_le, nN_lt, nN_eq, nN_add, nN_mul, nN_lt0, nN_ge0, nN_gt0, nN_le0, nN_eq0, nN_eq1, nN_neN, pIn_n, pIx_n, eq_self, Nat.reduceLT, Bool.false_eq_true, Nat.add_zero, Nat.zero_add, Nat.reduceAdd, Nat.reduceMul, Nat.reduceSub, Nat.zero_le, Nat.reduceLeDiff, Nat.reduceEqDiff, Nat.le_refl, not_false_eq_true, not_true_eq_false, false_implies, true_implies, forall_const, true_and, and_true, if_true, if_false, implies_true, and_self, ne_eq, false_and, and_false, or_false, false_or, true_or, or_true]
    unfold pTxt
    cases hs : pLine (th tW n b) (nx9 n b) 400 p with
    | inl e =>
      rw [hs] at h4
      obtain ⟨f4, e4, z4⟩ := h4
      exact outF M4 l e s4 (h3.lt.ag A4 (nV2 7 (Or.inl rfl)) (fun k => nV _ _ (by omega)) (fun k => nV _ _ (by omega))) h3.b9 hn (by rw [A4.I (nV2 8 (Or.inr rfl))]; exact h3.en) f4 e4 z4 i4 A04
    | inr s =>
      rw [hs] at h4
      obtain ⟨⟨q4, T4⟩, g4⟩ := h4
      rw [j3] at g4
      have A5 : Ag (fun h k => h = u ∧ k = 12) M4 (sI M4 u 12 (nN (l + 1))) := Ag.one ⟨rfl, rfl⟩
      have T5 := T4.keep A5 (by omega) (by omega) (by omega) (by omega) (by omega)
      have i5 : gI M4 u 12 + nN 1 = nN (l + 1) := by rw [i4, nN_add]
      rw [e_69_8]
      simp (disch := omega) only [q_aload0, q_aload0N, q_iconst, q_put_i, pTag_1, q_invv0, inv_1, q_get_i, pRf_s, q_ic_ge, q_goto, q_nop, q_istore2, q_iload2, q_if_eq, q_ic_ne, q_iload1, q_bipush, q_invv1, q_dup_i, q_dup_r, q_iadd, q_vret, L_0, L_1, L_12, L_14, L_59, k_some, k_none, pRm_i, pRm_r, pRm_0, pF_1, pF_2, inv_s, s4.k0, i5, gS_sI, nN_le, nN_lt, nN_eq, nN_add, nN_mul, nN_lt0, nN_ge0, nN_gt0, nN_le0, nN_eq0, nN_eq1, nN_neN, pIn_n, pIx_n, eq_self, Nat.reduceLT, Bool.false_eq_true, Nat.add_zero, Nat.zero_add, Nat.reduceAdd, Nat.reduceMul, Nat.reduceSub, Nat.zero_le, Nat.reduceLeDiff, Nat.reduceEqDiff, Nat.le_refl, not_false_eq_true, not_true_eq_false, false_implies, true_implies, forall_const, true_and, and_true, if_true, if_false, implies_true, and_self, ne_eq, false_and, and_false, or_false, false_or, true_or, or_true]
      refine mw_mono (w_skip T5.sd) ?_
      rintro _ M6 ⟨rfl, h6, A6⟩
      have T6 := T5.st A6 X9_10 h6
      have A06 := (A04.trans (A5.mono fun h k z => ⟨z.1, by omega⟩)).trans (A6.mono MdW_9)
      have f6 := h6.ft
      have j6 : gI M6 u 17 = gI M4 u 17 := by rw [A6.I (by omega), gI_sI, if_neg (by omega)]
      have i6 : gI M6 u 12 = nN (l + 1) := by rw [A6.I (by omega), gI_sI, if_pos ⟨rfl, rfl⟩]
      have hs1 := h6.ple.2
      have h3000 := th_end9 (n := n) (p := s.1) hW h6.b9
      have t59 : th tW n b s.1 = 2059 ↔ (s.1 < n ∧ b s.1 = 59) := by rw [← th_sign (W := tW) (show kd 59 = 3 from rfl) (by omega) hW]
      have x10 : ¬ nN 1 = iN (-1) := by decide +kernel
      have x00 : ¬ nN 0 = iN (-1) := by decide +kernel
      have x01 : ¬ nN 0 = nN 1 := by decide +kernel
      have xm1 : ¬ iN (-1) = nN 1 := by decide +kernel
      by_cases c3 : s.1 = n
      · rw [if_pos (h3000.mpr (by omega))]
        simp (disch := omega) only [q_aload0, q_aload0N, q_iconst, q_put_i, pTag_1, q_invv0, inv_1, q_get_i, pRf_s, q_ic_ge, q_goto, q_nop, q_istore2, q_iload2, q_if_eq, q_ic_ne, q_iload1, q_bipush, q_invv1, q_dup_i, q_dup_r, q_iadd, q_vret, e_69_3, e_69_9, e_69_12, L_0, L_1, L_12, L_14, L_59, k_some, k_none, pRm_i, pRm_r, pRm_0, pF_1, pF_2, inv_s, h6.sh.k0, h6.en, h6.aq, f6, c3, nN_le, nN_lt, nN_eq, nN_add, nN_mul, nN_lt0, nN_ge0, nN_gt0, nN_le0, nN_eq0, nN_eq1, nN_neN, pIn_n, pIx_n, eq_self, Nat.reduceLT, Bool.false_eq_true, Nat.add_zero, Nat.zero_add, Nat.reduceAdd, Nat.reduceMul, Nat.reduceSub, Nat.zero_le, Nat.reduceLeDiff, Nat.reduceEqDiff, Nat.le_refl, not_false_eq_true, not_true_eq_false, false_implies, true_implies, forall_const, true_and, and_true, if_true, if_false, implies_true, and_self, ne_eq, false_and, and_false, or_false, false_or, true_or, or_true]
        refine ⟨⟨f6, fun hw => ?_, fun hw => ?_⟩, A06⟩
        · rw [j6, g4, hw]
          dsimp only
          by_cases cv : s.2.2 fv = nN 1
          · rw [if_pos cv, if_pos ⟨rfl, cv⟩]
            by_cases ct : th tW n b p = 1009
            · simp [ct]
            · simp [ct, x01]
          · rw [if_neg cv, if_neg (fun z => cv z.2)]
            simp [xm1]
        · rw [j6, g4, if_neg (fun z => hw z.1)]
      · rw [if_neg (fun z => c3 (by have := h3000.mp z; omega))]
        simp (disch := omega) only [q_aload0, q_aload0N, q_iconst, q_put_i, pTag_1, q_invv0, inv_1, q_get_i, pRf_s, q_ic_ge, q_goto, q_nop, q_istore2, q_iload2, q_if_eq, q_ic_ne, q_iload1, q_bipush, q_invv1, q_dup_i, q_dup_r, q_iadd, q_vret, e_69_10, L_0, L_1, L_12, L_14, L_59, k_some, k_none, pRm_i, pRm_r, pRm_0, pF_1, pF_2, inv_s, h6.sh.k0, h6.en, h6.aq, f6, c3, nN_le, nN_lt, nN_eq, nN_add, nN_mul, nN_lt0, nN_ge0, nN_gt0, nN_le0, nN_eq0, nN_eq1, nN_neN, pIn_n, pIx_n, eq_self, Nat.reduceLT, Bool.false_eq_true, Nat.add_zero, Nat.zero_add, Nat.reduceAdd, Nat.reduceMul, Nat.reduceSub, Nat.zero_le, Nat.reduceLeDiff, Nat.reduceEqDiff, Nat.le_refl, not_false_eq_true, not_true_eq_false, false_implies, true_implies, forall_const, true_and, and_true, if_true, if_false, implies_true, and_self, ne_eq, false_and, and_false, or_false, false_or, true_or, or_true]
        refine mw_mono (w_isSign (c := 59) h6 (by omega)) ?_
        rintro _ M7 ⟨rfl, h7, A7⟩
        have T7 := T6.st A7 X9_10 h7
        have A07 := A06.trans (A7.mono MdW_9)
        by_cases c : s.1 < n ∧ b s.1 = 59
        · rw [if_pos (t59.mpr c)]
          have T8 := T7.sign rfl c.1 (by rw [c.2]; rfl)
          have A8 : Ag (MdW u) M7 (sI M7 u 9 (nN (s.1 + 1))) := Ag.one ⟨rfl, Or.inl rfl⟩
          have j8 : gI (sI M7 u 9 (nN (s.1 + 1))) u 17 = gI M4 u 17 := by rw [gI_sI, if_neg (by omega), A7.I (by omega), j6]
          simp (disch := omega) only [q_aload0, q_aload0N, q_iconst, q_put_i, pTag_1, q_invv0, inv_1, q_get_i, pRf_s, q_ic_ge, q_goto, q_nop, q_istore2, q_iload2, q_if_eq, q_ic_ne, q_iload1, q_bipush, q_invv1, q_dup_i, q_dup_r, q_iadd, q_vret, L_0, L_1, L_12, L_14, L_59, k_some, k_none, pRm_i, pRm_r, pRm_0, pF_1, pF_2, inv_s, c, bI_T, h7.sh.k0, h7.aq, nN_le, nN_lt, nN_eq, nN_add, nN_mul, nN_lt0, nN_ge0, nN_gt0, nN_le0, nN_eq0, nN_eq1, nN_neN, pIn_n, pIx_n, eq_self, Nat.reduceLT, Bool.false_eq_true, Nat.add_zero, Nat.zero_add, Nat.reduceAdd, Nat.reduceMul, Nat.reduceSub, Nat.zero_le, Nat.reduceLeDiff, Nat.reduceEqDiff, Nat.le_refl, not_false_eq_true, not_true_eq_false, false_implies, true_implies, forall_const, true_and, and_true, if_true, if_false, implies_true, and_self, ne_eq, false_and, and_false, or_false, false_or, true_or, or_true]
          refine bw_mono (ih (l + 1) _ _ _ (by omega) T8 (by rw [gI_sI, if_neg (by omega), A7.I (by omega)]; exact i6) (A07.trans A8)) ?_
          rintro o M9 ⟨⟨rfl, h9⟩, A9⟩
          rw [j8, g4] at h9
          refine ⟨⟨rfl, ?_⟩, A9⟩
          cases ht : pTxt (th tW n b) (nx9 n b) 400 j (nx9 n b s.1) with
          | inl e => rw [ht] at h9; exact h9
          | inr s2 =>
            rw [ht] at h9
            obtain ⟨h9, h10, h11⟩ := h9
            refine ⟨h9, fun hw => ?_, fun hw => ?_⟩
            · dsimp only
              rw [hw] at h10 h11
              by_cases cv : s.2.2 fv = nN 1
              · rw [if_pos ⟨rfl, cv⟩] at h11
                rw [if_pos cv]
                by_cases ct : th tW n b p = 1009
                · rw [if_pos ct] at h11
                  rw [h11 x10]
                  simp [ct]
                · rw [if_neg ct] at h11
                  rw [h11 x00]
                  simp [ct, x01]
              · rw [if_neg (fun z => cv z.2)] at h10
                rw [if_neg cv]
                exact h10 rfl
            · rw [if_neg (fun z => hw z.1)] at h11
              exact h11 hw
        · rw [if_neg (fun z => c (t59.mp z))]
          simp (disch := omega) only [q_aload0, q_aload0N, q_iconst, q_put_i, pTag_1, q_invv0, inv_1, q_get_i, pRf_s, q_ic_ge, q_goto, q_nop, q_istore2, q_iload2, q_if_eq, q_ic_ne, q_iload1, q_bipush, q_invv1, q_dup_i, q_dup_r, q_iadd, q_vret, e_69_11, L_0, L_1, L_12, L_14, L_59, k_some, k_none, pRm_i, pRm_r, pRm_0, pF_1, pF_2, inv_s, c, bI_F, h7.sh.k0, h7.aq, nN_le, nN_lt, nN_eq, nN_add, nN_mul, nN_lt0, nN_ge0, nN_gt0, nN_le0, nN_eq0, nN_eq1, nN_neN, pIn_n, pIx_n, eq_self, Nat.reduceLT, Bool.false_eq_true, Nat.add_zero, Nat.zero_add, Nat.reduceAdd, Nat.reduceMul, Nat.reduceSub, Nat.zero_le, Nat.reduceLeDiff, Nat.reduceEqDiff, Nat.le_refl, not_false_eq_true, not_true_eq_false, false_implies, true_implies, forall_const, true_and, and_true, if_true, if_false, implies_true, and_self, ne_eq, false_and, and_false, or_false, false_or, true_or, or_true]
          refine mw_mono (w_wrongM h7.sh h7.ft) ?_
          rintro _ M8 ⟨rfl, f8, A8⟩
          have s8 : ShM (gS M8) (gP M8) u := by rw [A8.S, A8.P]; exact h7.sh
          have f9 := nN_ft (e := s.1) (by omega)
          simp (disch := omega) only [q_aload0, q_aload0N, q_iconst, q_put_i, pTag_1, q_invv0, inv_1, q_get_i, pRf_s, q_ic_ge, q_goto, q_nop, q_istore2, q_iload2, q_if_eq, q_ic_ne, q_iload1, q_bipush, q_invv1, q_dup_i, q_dup_r, q_iadd, q_vret, e_69_3, e_69_12, L_0, L_1, L_12, L_14, L_59, k_some, k_none, pRm_i, pRm_r, pRm_0, pF_1, pF_2, inv_s, s8.k0, f8, f9, nN_le, nN_lt, nN_eq, nN_add, nN_mul, nN_lt0, nN_ge0, nN_gt0, nN_le0, nN_eq0, nN_eq1, nN_neN, pIn_n, pIx_n, eq_self, Nat.reduceLT, Bool.false_eq_true, Nat.add_zero, Nat.zero_add, Nat.reduceAdd, Nat.reduceMul, Nat.reduceSub, Nat.zero_le, Nat.reduceLeDiff, Nat.reduceEqDiff, Nat.le_refl, not_false_eq_true, not_true_eq_false, false_implies, true_implies, forall_const, true_and, and_true, if_true, if_false, implies_true, and_self, ne_eq, false_and, and_false, or_false, false_or, true_or, or_true]
          exact ⟨⟨f8, by omega⟩, A07.trans (A8.mono MdW_10)⟩
/-- read(true), with the text laid ready -/
theorem w_readM (hs : ShM (gS M) (gP M) u) (hl : LtM M u n b) (hn : n ≤ 400) (h9 : ∀ k, b k < 256) (he : gI M u 8 = nN n) (hf : gI M u 10 = iN (-1)) (hF : FvM M u fv) (hb : Bl fv) :
    mw (d + 34) 69 [.ref u, .int (nN 1)] M (fun o M' => (o = .inl none ∧ RdM (gI M u 17) M' u fv (pTemper (th tW n b) (nx9 n b) 400 (nb n b 0))) ∧ Ag (MdW u) M M') := by
  have hW : tW.length < 100 := by decide
  have A0 : Ag (fun h k => h = u ∧ (k = 9 ∨ k = 11 ∨ k = 12)) M (sI (sI (sI M u 9 (nN 0)) u 11 (nN 0)) u 12 (nN 0)) := Ag.put (Ag.put (Ag.one ⟨rfl, by omega⟩) ⟨rfl, by omega⟩) ⟨rfl, by omega⟩
  have S0 : MdS (sI (sI (sI M u 9 (nN 0)) u 11 (nN 0)) u 12 (nN 0)) u n b 0 (nb n b 0) := by
    refine MdS.mk hs (hl.ag A0 (by omega) (by omega) (by omega)) hn h9 ?_ ?_ ?_ Cl_0 rfl
    · rw [A0.I (by omega)]; exact he
    · rw [A0.I (by omega)]; exact hf
    · rw [gI_sI, if_neg (by omega), gI_sI, if_neg (by omega), gI_sI, if_pos ⟨rfl, rfl⟩]
  have T0 : MdT (sI (sI (sI M u 9 (nN 0)) u 11 (nN 0)) u 12 (nN 0)) u n b 0 fv 0 (nb n b 0) := by
    refine MdT.mk S0 ?_ (hF.ag A0 (by omega) (by omega))
    rw [gI_sI, if_neg (by omega), gI_sI, if_pos ⟨rfl, rfl⟩]
  simp (disch := omega) only [m_69, q_aload0, q_aload0N, q_iconst, q_put_i, pTag_1, q_invv0, inv_1, q_get_i, pRf_s, q_ic_ge, q_goto, q_nop, q_istore2, q_iload2, q_if_eq, q_ic_ne, q_iload1, q_bipush, q_invv1, q_dup_i, q_dup_r, q_iadd, q_vret, e_69_0, L_0, L_1, L_12, L_14, L_59, k_some, k_none, pRm_i, pRm_r, pRm_0, pF_1, pF_2, inv_s, hs.k0, gS_sI, nN_le, nN_lt, nN_eq, nN_add, nN_mul, nN_lt0, nN_ge0, nN_gt0, nN_le0, nN_eq0, nN_eq1, nN_neN, pIn_n, pIx_n, eq_self, Nat.reduceLT, Bool.false_eq_true, Nat.add_zero, Nat.zero_add, Nat.reduceAdd, Nat.reduceMul, Nat.reduceSub, Nat.zero_le, Nat.reduceLeDiff, Nat.reduceEqDiff, Nat.le_refl, not_false_eq_true, not_true_eq_false, false_implies, true_implies, forall_const, true_and, and_true, if_true, if_false, implies_true, and_self, ne_eq, false_and, and_false, or_false, false_or, true_or, or_true]
  refine mw_mono (w_skip S0) ?_
  rintro _ M1 ⟨rfl, h1, A1⟩
  have T1 := T0.st A1 X9_10 h1
  have A01 : Ag (MdW u) M M1 := (A0.mono fun h k z => ⟨z.1, by omega⟩).trans (A1.mono MdW_9)
  have hpn := h1.ple.2
  have j1 : gI M1 u 17 = gI M u 17 := by rw [A1.I (by omega), A0.I (by omega)]
  have i1 : gI M1 u 12 = nN 0 := by rw [A1.I (by omega), gI_sI, if_pos ⟨rfl, rfl⟩]
  have h3000 := th_end9 (n := n) (p := nb n b 0) hW h9
  unfold pTemper
  by_cases c : n ≤ nb n b 0
  · rw [if_pos (h3000.mpr c)]
    have f1 := h1.ft
    have xm1 : ¬ iN (-1) = nN 1 := by decide +kernel
    simp (disch := omega) only [q_aload0, q_aload0N, q_iconst, q_put_i, pTag_1, q_invv0, inv_1, q_get_i, pRf_s, q_ic_ge, q_goto, q_nop, q_istore2, q_iload2, q_if_eq, q_ic_ne, q_iload1, q_bipush, q_invv1, q_dup_i, q_dup_r, q_iadd, q_vret, e_69_1, e_69_2, e_69_3, e_69_12, L_0, L_1, L_12, L_14, L_59, k_some, k_none, pRm_i, pRm_r, pRm_0, pF_1, pF_2, inv_s, h1.sh.k0, h1.aq, h1.en, c, nN_le, nN_lt, nN_eq, nN_add, nN_mul, nN_lt0, nN_ge0, nN_gt0, nN_le0, nN_eq0, nN_eq1, nN_neN, pIn_n, pIx_n, eq_self, Nat.reduceLT, Bool.false_eq_true, Nat.add_zero, Nat.zero_add, Nat.reduceAdd, Nat.reduceMul, Nat.reduceSub, Nat.zero_le, Nat.reduceLeDiff, Nat.reduceEqDiff, Nat.le_refl, not_false_eq_true, not_true_eq_false, false_implies, true_implies, forall_const, true_and, and_true, if_true, if_false, implies_true, and_self, ne_eq, false_and, and_false, or_false, false_or, true_or, or_true]
    refine ⟨⟨f1, fun hw => ?_, fun hw => j1⟩, A01⟩
    rw [j1, hw]
    simp [xm1]
  · rw [if_neg (fun z => c (h3000.mp z))]
    simp (disch := omega) only [q_aload0, q_aload0N, q_iconst, q_put_i, pTag_1, q_invv0, inv_1, q_get_i, pRf_s, q_ic_ge, q_goto, q_nop, q_istore2, q_iload2, q_if_eq, q_ic_ne, q_iload1, q_bipush, q_invv1, q_dup_i, q_dup_r, q_iadd, q_vret, e_69_2, L_0, L_1, L_12, L_14, L_59, k_some, k_none, pRm_i, pRm_r, pRm_0, pF_1, pF_2, inv_s, h1.sh.k0, h1.aq, h1.en, c, nN_le, nN_lt, nN_eq, nN_add, nN_mul, nN_lt0, nN_ge0, nN_gt0, nN_le0, nN_eq0, nN_eq1, nN_neN, pIn_n, pIx_n, eq_self, Nat.reduceLT, Bool.false_eq_true, Nat.add_zero, Nat.zero_add, Nat.reduceAdd, Nat.reduceMul, Nat.reduceSub, Nat.zero_le, Nat.reduceLeDiff, Nat.reduceEqDiff, Nat.le_refl, not_false_eq_true, not_true_eq_false, false_implies, true_implies, forall_const, true_and, and_true, if_true, if_false, implies_true, and_self, ne_eq, false_and, and_false, or_false, false_or, true_or, or_true]
    have g := w_readLoopM (d := d) (M := M) hb 12 0 _ _ M1 (by omega) T1 i1 A01
    rw [j1] at g
    exact g
end RM
