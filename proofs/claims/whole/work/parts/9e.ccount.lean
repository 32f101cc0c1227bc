/-! chain: the class counts -/
def XS (h _k : Nat) : Prop := h = 78 ∨ h = 80
def SmC (s : tL) (M1 : pMem) : Prop := (∀ k, k < 12 → gI M1 80 k = s.1 k) ∧ ∀ k, k < s.2.2 → gI M1 78 k = nN (s.2.1 k)
section CS
variable {d t u n p q f g m e K k dd c j bl x y i h L : Nat} {cp : Nat → Int32} {s s0 : tL} {M M1 M' : pMem} {Q : pOut → pMem → Prop} {w v : Int32}
theorem XS_cp : ∀ h k, (h = 76 ∧ k = 4) ∨ h = 77 → ¬ XS h k := by rintro h k z (z2 | z2) <;> omega
theorem w_fill (hs : gS M h = (100, n)) (hn : n < 1000) : mw (d + 1) 277 [.ref h, .int v] M (fun o M' => o = .inl none ∧ (∀ k, k < n → gI M' h k = v) ∧ Ag (fun h' _ => h' = h) M M') := by
  have eL : iN (n : Int) = nN n := rfl
  simp (disch := omega) only [m_277, q_iconst, q_istore2, q_aload0, q_aload0N, q_alen, q_istore3, q_nop, q_iload2, q_iload3, q_ic_ge, q_iload1, q_iast, q_iinc2, q_goto, q_vret, e_277_0, e_277_2, L_0, L_1, hs, eL, nN_le, nN_lt, nN_eq, nN_add, nN_mul, nN_lt0, nN_ge0, nN_gt0, nN_le0, nN_eq0, nN_eq1, nN_neN, pIn_n, pIx_n, eq_self, Nat.reduceLT, Bool.false_eq_true, Nat.add_zero, Nat.zero_add, Nat.reduceAdd, Nat.reduceMul, Nat.reduceSub, Nat.zero_le, Nat.reduceLeDiff, Nat.reduceEqDiff, Nat.le_refl, not_false_eq_true, not_true_eq_false, false_implies, true_implies, forall_const, true_and, and_true, if_true, if_false, implies_true, and_self, ne_eq, false_and, and_false, or_false, false_or, true_or, or_true]
  refine loopR (n := n) (J := Unit) (C := fun j _ _ M => ([some (.ref h), some (.int v), some (.int (nN j)), some (.int (nN n))], [], M)) (f := fun _ (_ : Unit) => ()) (R := fun j _ M1 => (∀ k, k < j → gI M1 h k = v) ∧ Ag (fun h' _ => h' = h) M M1) ?_ n 0 () () M (by omega) ⟨fun k hk => absurd hk (by omega), Ag.rfl⟩ ?_
  · rintro j _ _ M1 hj ⟨e1, A1⟩ go
    have k1 : gS M1 h = (100, n) := by rw [A1.S]; exact hs
    have h3 : ¬ n ≤ j := by omega
    rw [e_277_1]
    simp (disch := omega) only [q_iconst, q_istore2, q_aload0, q_aload0N, q_alen, q_istore3, q_nop, q_iload2, q_iload3, q_ic_ge, q_iload1, q_iast, q_iinc2, q_goto, q_vret, e_277_0, e_277_2, L_0, L_1, k1, h3, hj, pIn_n, pIx_n, gS_sI, gP_sI, gI_sI, Nat.add_left_cancel_iff, Nat.add_eq_left, Nat.left_eq_add, nN_le, nN_lt, nN_eq, nN_add, nN_mul, nN_lt0, nN_ge0, nN_gt0, nN_le0, nN_eq0, nN_eq1, nN_neN, pIn_n, pIx_n, eq_self, Nat.reduceLT, Bool.false_eq_true, Nat.add_zero, Nat.zero_add, Nat.reduceAdd, Nat.reduceMul, Nat.reduceSub, Nat.zero_le, Nat.reduceLeDiff, Nat.reduceEqDiff, Nat.le_refl, not_false_eq_true, not_true_eq_false, false_implies, true_implies, forall_const, true_and, and_true, if_true, if_false, implies_true, and_self, ne_eq, false_and, and_false, or_false, false_or, true_or, or_true]
    refine go _ () ⟨fun k hk => ?_, Ag.put A1 rfl⟩
    rw [gI_sI]
    by_cases e : k = j
    · rw [if_pos ⟨rfl, e⟩]
    · rw [if_neg (fun z => e z.2)]; exact e1 k (by omega)
  · rintro M1 _ ⟨e1, A1⟩
    rw [e_277_1]
    simp (disch := omega) only [q_iconst, q_istore2, q_aload0, q_aload0N, q_alen, q_istore3, q_nop, q_iload2, q_iload3, q_ic_ge, q_iload1, q_iast, q_iinc2, q_goto, q_vret, e_277_0, e_277_2, L_0, L_1, nN_le, nN_lt, nN_eq, nN_add, nN_mul, nN_lt0, nN_ge0, nN_gt0, nN_le0, nN_eq0, nN_eq1, nN_neN, pIn_n, pIx_n, eq_self, Nat.reduceLT, Bool.false_eq_true, Nat.add_zero, Nat.zero_add, Nat.reduceAdd, Nat.reduceMul, Nat.reduceSub, Nat.zero_le, Nat.reduceLeDiff, Nat.reduceEqDiff, Nat.le_refl, not_false_eq_true, not_true_eq_false, false_implies, true_implies, forall_const, true_and, and_true, if_true, if_false, implies_true, and_self, ne_eq, false_and, and_false, or_false, false_or, true_or, or_true]
    exact ⟨e1, A1⟩
theorem cs_j (sh : ShP (gS M) (gP M)) (hc : CpO M n cp) (hn : n ≤ 12) (hj : j < n) (hm : m < s0.2.2) (w9 : ClJ cp n w y m j s0 s) (hb : SmC s M1) (A : Ag XS M M1) {l1 l4 : Option Value}
    (go : ∀ M', SmC (clJ cp w (s0.2.1 m) j s) M' → Ag XS M M' → bw (d + 2) 175 2 ([some (.ref 76), l1, some (.int w), some (.int (nN (clJ cp w (s0.2.1 m) j s).2.2)), l4, some (.int (nN (s0.2.1 m))), some (.int (nN (j + 1)))], [], M') Q) :
    bw (d + 2) 175 2 ([some (.ref 76), l1, some (.int w), some (.int (nN s.2.2)), l4, some (.int (nN (s0.2.1 m))), some (.int (nN j))], [], M1) Q := by
  have k76 : gS M1 76 = (4, 0) := by rw [A.S]; exact sh.k76
  have k77 : gS M1 77 = (100, 144) := by rw [A.S]; exact sh.k77
  have k78 : gS M1 78 = (100, 12) := by rw [A.S]; exact sh.k78
  have k80 : gS M1 80 = (100, 12) := by rw [A.S]; exact sh.k80
  have pa : gP M1 76 0 = some 77 := by rw [A.P]; exact sh.a
  have pb : gP M1 76 1 = some 78 := by rw [A.P]; exact sh.b
  have pd : gP M1 76 3 = some 80 := by rw [A.P]; exact sh.d
  obtain ⟨n1, c1⟩ := hc.ag A XS_cp
  have w2 := clj_s w9 hn hj
  have cnt := clw_cnt w9.1
  have cnt2 := clw_cnt w2.1
  have em := w9.2.2.1 m hm
  have hv := (w9.1.qn m (by have := w9.2.1.2; omega)).1
  rw [em] at hv
  generalize s0.2.1 m = v at *
  have g1 := c1 j v hj hv
  obtain ⟨st, que, ct⟩ := s
  obtain ⟨b1, b2⟩ := hb
  dsimp only at b1 b2 cnt ⊢
  have h3 : ¬ n ≤ j := by omega
  have i9 : j * 12 + v = 12 * j + v := by omega
  have gj := b1 j (by omega)
  have gv := b1 v (by omega)
  rw [e_175_2]
  by_cases e1 : st j = iN (-1)
  · by_cases e2 : w ≤ cp (12 * j + v)
    · have eb : clJ cp w v j (st, que, ct) = (fun k => if k = j then st v + nN 1 else st k, fun k => if k = ct then j else que k, ct + 1) := if_pos ⟨e1, e2⟩
      rw [eb] at go cnt2
      dsimp only at go cnt2
      have e3 : ¬ cp (12 * j + v) < w := Int32.not_lt.mpr e2
      simp (disch := first | omega | rfl | (repeat' (first | exact gS_sI | exact gP_sI | refine Eq.trans gS_sI ?_ | refine Eq.trans gP_sI ?_))) only [q_aload0, q_aload0N, q_get_r, pTag_1, pRf_s, q_iconst, q_invs2_20, q_iload1, q_invs3_21, q_istore3, q_istore4, q_nop, q_iload4, q_iload3, q_ic_ge, q_get_i, q_invs2_21, q_istore5, q_istore6, q_iload6, q_ic_ne, q_iload5, q_iload2, q_ic_lt, q_iadd, q_iinc3, q_iinc6, q_goto, q_iinc4, q_vret, e_175_0, e_175_3, e_175_4, e_175_5, L_0, L_1, k_some, k_none, pRm_i, pRm_r, pRm_0, pF_1, pF_2, inv_s, k76, k77, k78, k80, pa, pb, pd, gS_sI, gP_sI, n1, h3, e1, e3, gj, gv, w_atN k80, m_171, q_iload0, q_bipush, q_imul, q_iload1, q_iadd, q_iret, e_171_0, L_12, i9, w_atN k77, g1, w_putS k78, w_putS k80, gS_sI, gP_sI, gI_sI, Nat.add_left_cancel_iff, Nat.add_eq_left, Nat.left_eq_add, nN_le, nN_lt, nN_eq, nN_add, nN_mul, nN_lt0, nN_ge0, nN_gt0, nN_le0, nN_eq0, nN_eq1, nN_neN, pIn_n, pIx_n, eq_self, Nat.reduceLT, Bool.false_eq_true, Nat.add_zero, Nat.zero_add, Nat.reduceAdd, Nat.reduceMul, Nat.reduceSub, Nat.zero_le, Nat.reduceLeDiff, Nat.reduceEqDiff, Nat.le_refl, not_false_eq_true, not_true_eq_false, false_implies, true_implies, forall_const, true_and, and_true, if_true, if_false, implies_true, and_self, ne_eq, false_and, and_false, or_false, false_or, true_or, or_true]
      refine go _ ⟨fun k hk => ?_, fun k hk => ?_⟩ (Ag.put (Ag.put A (Or.inr rfl)) (Or.inl rfl))
      · dsimp only
        rw [gI_sI, if_neg (by omega), gI_sI]
        by_cases e : k = j
        · rw [if_pos ⟨rfl, e⟩, if_pos e]
        · rw [if_neg (fun z => e z.2), if_neg e]; exact b1 k hk
      · dsimp only at hk ⊢
        rw [gI_sI]
        by_cases e : k = ct
        · rw [if_pos ⟨rfl, e⟩, if_pos e]
        · rw [if_neg (fun z => e z.2), if_neg e, gI_sI, if_neg (by omega)]
          exact b2 k (by omega)
    · have eb : clJ cp w v j (st, que, ct) = (st, que, ct) := if_neg (fun z => e2 z.2)
      rw [eb] at go
      have e3 : cp (12 * j + v) < w := Int32.not_le.mp e2
      simp (disch := omega) only [q_aload0, q_aload0N, q_get_r, pTag_1, pRf_s, q_iconst, q_invs2_20, q_iload1, q_invs3_21, q_istore3, q_istore4, q_nop, q_iload4, q_iload3, q_ic_ge, q_get_i, q_invs2_21, q_istore5, q_istore6, q_iload6, q_ic_ne, q_iload5, q_iload2, q_ic_lt, q_iadd, q_iinc3, q_iinc6, q_goto, q_iinc4, q_vret, e_175_0, e_175_3, e_175_4, e_175_5, L_0, L_1, k_some, k_none, pRm_i, pRm_r, pRm_0, pF_1, pF_2, inv_s, k76, k77, k80, pa, pd, n1, h3, e1, e3, gj, gv, w_atN k80, m_171, q_iload0, q_bipush, q_imul, q_iload1, q_iadd, q_iret, e_171_0, L_12, i9, w_atN k77, g1, gS_sI, gP_sI, gI_sI, Nat.add_left_cancel_iff, Nat.add_eq_left, Nat.left_eq_add, nN_le, nN_lt, nN_eq, nN_add, nN_mul, nN_lt0, nN_ge0, nN_gt0, nN_le0, nN_eq0, nN_eq1, nN_neN, pIn_n, pIx_n, eq_self, Nat.reduceLT, Bool.false_eq_true, Nat.add_zero, Nat.zero_add, Nat.reduceAdd, Nat.reduceMul, Nat.reduceSub, Nat.zero_le, Nat.reduceLeDiff, Nat.reduceEqDiff, Nat.le_refl, not_false_eq_true, not_true_eq_false, false_implies, true_implies, forall_const, true_and, and_true, if_true, if_false, implies_true, and_self, ne_eq, false_and, and_false, or_false, false_or, true_or, or_true]
      exact go M1 ⟨b1, b2⟩ A
  · have eb : clJ cp w v j (st, que, ct) = (st, que, ct) := if_neg (fun z => e1 z.1)
    rw [eb] at go
    simp (disch := omega) only [q_aload0, q_aload0N, q_get_r, pTag_1, pRf_s, q_iconst, q_invs2_20, q_iload1, q_invs3_21, q_istore3, q_istore4, q_nop, q_iload4, q_iload3, q_ic_ge, q_get_i, q_invs2_21, q_istore5, q_istore6, q_iload6, q_ic_ne, q_iload5, q_iload2, q_ic_lt, q_iadd, q_iinc3, q_iinc6, q_goto, q_iinc4, q_vret, e_175_0, e_175_3, e_175_4, e_175_5, L_0, L_1, k_some, k_none, pRm_i, pRm_r, pRm_0, pF_1, pF_2, inv_s, k76, k77, k80, pa, pd, n1, h3, e1, gj, gv, w_atN k80, gS_sI, gP_sI, gI_sI, Nat.add_left_cancel_iff, Nat.add_eq_left, Nat.left_eq_add, nN_le, nN_lt, nN_eq, nN_add, nN_mul, nN_lt0, nN_ge0, nN_gt0, nN_le0, nN_eq0, nN_eq1, nN_neN, pIn_n, pIx_n, eq_self, Nat.reduceLT, Bool.false_eq_true, Nat.add_zero, Nat.zero_add, Nat.reduceAdd, Nat.reduceMul, Nat.reduceSub, Nat.zero_le, Nat.reduceLeDiff, Nat.reduceEqDiff, Nat.le_refl, not_false_eq_true, not_true_eq_false, false_implies, true_implies, forall_const, true_and, and_true, if_true, if_false, implies_true, and_self, ne_eq, false_and, and_false, or_false, false_or, true_or, or_true]
    exact go M1 ⟨b1, b2⟩ A
theorem w_countSteps (sh : ShP (gS M) (gP M)) (hc : CpO M n cp) (hn : n ≤ 12) (hy : y < n) : mw (d + 3) 175 [.ref 76, .int (nN y), .int w] M (fun o M' => o = .inl none ∧ SmC (clF cp n w y) M' ∧ Ag XS M M') := by
  have k76 := sh.k76
  have k77 := sh.k77
  have k78 := sh.k78
  have k80 := sh.k80
  have pa := sh.a
  have pb := sh.b
  have pd := sh.d
  have key : ∀ (f h : Nat) (s : tL) (z5 z6 : Option Value) (M1 : pMem), h + f = n → ClW cp n w y h s → SmC s M1 → Ag XS M M1 → bw (d + 2) 175 1 ([some (.ref 76), some (.int (nN y)), some (.int w), some (.int (nN s.2.2)), some (.int (nN h)), z5, z6], [], M1) (fun o M' => o = .inl none ∧ SmC (clO cp n w f h s) M' ∧ Ag XS M M') := by
    intro f
    have stop : ∀ (h : Nat) (s : tL) (z5 z6 : Option Value) (M1 : pMem), h ≤ n → ¬ h < s.2.2 → ClW cp n w y h s → SmC s M1 → Ag XS M M1 → bw (d + 2) 175 1 ([some (.ref 76), some (.int (nN y)), some (.int w), some (.int (nN s.2.2)), some (.int (nN h)), z5, z6], [], M1) (fun o M' => o = .inl none ∧ SmC s M' ∧ Ag XS M M') := by
      intro h s z5 z6 M1 hhn hh w9 hb A
      have cnt := clw_cnt w9
      have hle : s.2.2 ≤ h := by omega
      rw [e_175_1]
      simp (disch := omega) only [q_aload0, q_aload0N, q_get_r, pTag_1, pRf_s, q_iconst, q_invs2_20, q_iload1, q_invs3_21, q_istore3, q_istore4, q_nop, q_iload4, q_iload3, q_ic_ge, q_get_i, q_invs2_21, q_istore5, q_istore6, q_iload6, q_ic_ne, q_iload5, q_iload2, q_ic_lt, q_iadd, q_iinc3, q_iinc6, q_goto, q_iinc4, q_vret, e_175_0, e_175_3, e_175_4, e_175_5, L_0, L_1, k_some, k_none, pRm_i, pRm_r, pRm_0, pF_1, pF_2, inv_s, hle, gS_sI, gP_sI, gI_sI, Nat.add_left_cancel_iff, Nat.add_eq_left, Nat.left_eq_add, nN_le, nN_lt, nN_eq, nN_add, nN_mul, nN_lt0, nN_ge0, nN_gt0, nN_le0, nN_eq0, nN_eq1, nN_neN, pIn_n, pIx_n, eq_self, Nat.reduceLT, Bool.false_eq_true, Nat.add_zero, Nat.zero_add, Nat.reduceAdd, Nat.reduceMul, Nat.reduceSub, Nat.zero_le, Nat.reduceLeDiff, Nat.reduceEqDiff, Nat.le_refl, not_false_eq_true, not_true_eq_false, false_implies, true_implies, forall_const, true_and, and_true, if_true, if_false, implies_true, and_self, ne_eq, false_and, and_false, or_false, false_or, true_or, or_true]
      exact ⟨hb, A⟩
    induction f with
    | zero =>
      intro h s z5 z6 M1 hf w9 hb A
      have := clw_cnt w9
      exact stop h s z5 z6 M1 (by omega) (by omega) w9 hb A
    | succ f ih =>
      intro h s z5 z6 M1 hf w9 hb A
      by_cases hh : h < s.2.2
      · have e : clO cp n w (f + 1) h s = clO cp n w f (h + 1) (clI cp n w h s) := if_pos hh
        rw [e]
        have cnt := clw_cnt w9
        have kk : (gS M1 76).1 = 4 := by rw [A.S, k76]
        have k78' : gS M1 78 = (100, 12) := by rw [A.S]; exact k78
        have pb' : gP M1 76 1 = some 78 := by rw [A.P]; exact pb
        have g1 := hb.2 h hh
        have n1 := (hc.ag A XS_cp).1
        have h3 : ¬ s.2.2 ≤ h := by omega
        have h4 : ¬ n ≤ h := by omega
        have hI := clw_i w9 hn hh
        rw [e_175_1]
        simp (disch := omega) only [q_aload0, q_aload0N, q_get_r, pTag_1, pRf_s, q_iconst, q_invs2_20, q_iload1, q_invs3_21, q_istore3, q_istore4, q_nop, q_iload4, q_iload3, q_ic_ge, q_get_i, q_invs2_21, q_istore5, q_istore6, q_iload6, q_ic_ne, q_iload5, q_iload2, q_ic_lt, q_iadd, q_iinc3, q_iinc6, q_goto, q_iinc4, q_vret, e_175_0, e_175_3, e_175_4, e_175_5, L_0, L_1, k_some, k_none, pRm_i, pRm_r, pRm_0, pF_1, pF_2, inv_s, h3, h4, kk, n1, pb', w_atN k78', g1, gS_sI, gP_sI, gI_sI, Nat.add_left_cancel_iff, Nat.add_eq_left, Nat.left_eq_add, nN_le, nN_lt, nN_eq, nN_add, nN_mul, nN_lt0, nN_ge0, nN_gt0, nN_le0, nN_eq0, nN_eq1, nN_neN, pIn_n, pIx_n, eq_self, Nat.reduceLT, Bool.false_eq_true, Nat.add_zero, Nat.zero_add, Nat.reduceAdd, Nat.reduceMul, Nat.reduceSub, Nat.zero_le, Nat.reduceLeDiff, Nat.reduceEqDiff, Nat.le_refl, not_false_eq_true, not_true_eq_false, false_implies, true_implies, forall_const, true_and, and_true, if_true, if_false, implies_true, and_self, ne_eq, false_and, and_false, or_false, false_or, true_or, or_true]
        have ei : clI cp n w h s = lp n 0 s (clJ cp w (s.2.1 h)) := rfl
        rw [ei] at hI ⊢
        refine loopR (n := n) (J := Unit) (C := fun j s1 _ M => ([some (.ref 76), some (.int (nN y)), some (.int w), some (.int (nN s1.2.2)), some (.int (nN h)), some (.int (nN (s.2.1 h))), some (.int (nN j))], [], M)) (f := clJ cp w (s.2.1 h)) (R := fun j s1 M1 => ClJ cp n w y h j s s1 ∧ SmC s1 M1 ∧ Ag XS M M1) ?_ n 0 s () M1 (by omega) ⟨clj_0 w9 hh, hb, A⟩ ?_
        · rintro j s1 _ M2 hj ⟨w1, b1, A1⟩ go
          exact cs_j (d := d) sh hc hn hj hh w1 b1 A1 (fun M' b2 A2 => go M' () ⟨clj_s w1 hn hj, b2, A2⟩)
        · rintro M2 _ ⟨w1, b1, A1⟩
          have kk2 : (gS M2 76).1 = 4 := by rw [A1.S, k76]
          have n2 := (hc.ag A1 XS_cp).1
          rw [e_175_2]
          simp (disch := omega) only [q_aload0, q_aload0N, q_get_r, pTag_1, pRf_s, q_iconst, q_invs2_20, q_iload1, q_invs3_21, q_istore3, q_istore4, q_nop, q_iload4, q_iload3, q_ic_ge, q_get_i, q_invs2_21, q_istore5, q_istore6, q_iload6, q_ic_ne, q_iload5, q_iload2, q_ic_lt, q_iadd, q_iinc3, q_iinc6, q_goto, q_iinc4, q_vret, e_175_0, e_175_3, e_175_4, e_175_5, L_0, L_1, k_some, k_none, pRm_i, pRm_r, pRm_0, pF_1, pF_2, inv_s, kk2, n2, gS_sI, gP_sI, gI_sI, Nat.add_left_cancel_iff, Nat.add_eq_left, Nat.left_eq_add, nN_le, nN_lt, nN_eq, nN_add, nN_mul, nN_lt0, nN_ge0, nN_gt0, nN_le0, nN_eq0, nN_eq1, nN_neN, pIn_n, pIx_n, eq_self, Nat.reduceLT, Bool.false_eq_true, Nat.add_zero, Nat.zero_add, Nat.reduceAdd, Nat.reduceMul, Nat.reduceSub, Nat.zero_le, Nat.reduceLeDiff, Nat.reduceEqDiff, Nat.le_refl, not_false_eq_true, not_true_eq_false, false_implies, true_implies, forall_const, true_and, and_true, if_true, if_false, implies_true, and_self, ne_eq, false_and, and_false, or_false, false_or, true_or, or_true]
          exact ih (h + 1) _ _ _ M2 (by omega) hI b1 A1
      · have e : clO cp n w (f + 1) h s = s := if_neg hh
        rw [e]
        exact stop h s z5 z6 M1 (by omega) hh w9 hb A
  simp (disch := first | omega | rfl | (repeat' (first | exact gS_sI | exact gP_sI | refine Eq.trans gS_sI ?_ | refine Eq.trans gP_sI ?_))) only [m_175, q_aload0, q_aload0N, q_get_r, pTag_1, pRf_s, q_iconst, q_invs2_20, q_iload1, q_invs3_21, q_istore3, q_istore4, q_nop, q_iload4, q_iload3, q_ic_ge, q_get_i, q_invs2_21, q_istore5, q_istore6, q_iload6, q_ic_ne, q_iload5, q_iload2, q_ic_lt, q_iadd, q_iinc3, q_iinc6, q_goto, q_iinc4, q_vret, e_175_0, e_175_3, e_175_4, e_175_5, L_0, L_1, k_some, k_none, pRm_i, pRm_r, pRm_0, pF_1, pF_2, inv_s, k76, pd, gS_sI, gP_sI, gI_sI, Nat.add_left_cancel_iff, Nat.add_eq_left, Nat.left_eq_add, nN_le, nN_lt, nN_eq, nN_add, nN_mul, nN_lt0, nN_ge0, nN_gt0, nN_le0, nN_eq0, nN_eq1, nN_neN, pIn_n, pIx_n, eq_self, Nat.reduceLT, Bool.false_eq_true, Nat.add_zero, Nat.zero_add, Nat.reduceAdd, Nat.reduceMul, Nat.reduceSub, Nat.zero_le, Nat.reduceLeDiff, Nat.reduceEqDiff, Nat.le_refl, not_false_eq_true, not_true_eq_false, false_implies, true_implies, forall_const, true_and, and_true, if_true, if_false, implies_true, and_self, ne_eq, false_and, and_false, or_false, false_or, true_or, or_true]
  refine mw_mono (w_fill (d := d + 1) k80 (by omega)) ?_
  rintro _ M1 ⟨rfl, e1, A1⟩
  have k761 : (gS M1 76).1 = 4 := by rw [A1.S, k76]
  have k781 : gS M1 78 = (100, 12) := by rw [A1.S]; exact k78
  have k801 : gS M1 80 = (100, 12) := by rw [A1.S]; exact k80
  have pb1 : gP M1 76 1 = some 78 := by rw [A1.P]; exact pb
  have pd1 : gP M1 76 3 = some 80 := by rw [A1.P]; exact pd
  have y12 : y < 12 := by omega
  simp (disch := first | omega | rfl | (repeat' (first | exact gS_sI | exact gP_sI | refine Eq.trans gS_sI ?_ | refine Eq.trans gP_sI ?_))) only [q_aload0, q_aload0N, q_get_r, pTag_1, pRf_s, q_iconst, q_invs2_20, q_iload1, q_invs3_21, q_istore3, q_istore4, q_nop, q_iload4, q_iload3, q_ic_ge, q_get_i, q_invs2_21, q_istore5, q_istore6, q_iload6, q_ic_ne, q_iload5, q_iload2, q_ic_lt, q_iadd, q_iinc3, q_iinc6, q_goto, q_iinc4, q_vret, e_175_0, e_175_3, e_175_4, e_175_5, L_0, L_1, k_some, k_none, pRm_i, pRm_r, pRm_0, pF_1, pF_2, inv_s, k761, pb1, pd1, gS_sI, gP_sI, w_putS k781, w_putS k801, gS_sI, gP_sI, gI_sI, Nat.add_left_cancel_iff, Nat.add_eq_left, Nat.left_eq_add, nN_le, nN_lt, nN_eq, nN_add, nN_mul, nN_lt0, nN_ge0, nN_gt0, nN_le0, nN_eq0, nN_eq1, nN_neN, pIn_n, pIx_n, eq_self, Nat.reduceLT, Bool.false_eq_true, Nat.add_zero, Nat.zero_add, Nat.reduceAdd, Nat.reduceMul, Nat.reduceSub, Nat.zero_le, Nat.reduceLeDiff, Nat.reduceEqDiff, Nat.le_refl, not_false_eq_true, not_true_eq_false, false_implies, true_implies, forall_const, true_and, and_true, if_true, if_false, implies_true, and_self, ne_eq, false_and, and_false, or_false, false_or, true_or, or_true]
  refine key n 0 (cl0 y) none none _ (by omega) (clw_0 hy) ⟨?_, ?_⟩ (Ag.put (Ag.put (A1.mono fun h k z => Or.inr z) (Or.inr rfl)) (Or.inl rfl))
  · intro k hk
    show _ = lv0 y k
    rw [gI_sI, if_neg (by omega), gI_sI]
    unfold lv0
    by_cases e : k = y
    · rw [if_pos ⟨rfl, e⟩, if_pos e]
    · rw [if_neg (fun z => e z.2), if_neg e]; exact e1 k hk
  · intro k hk
    have hk : k < 1 := hk
    rw [gI_sI, if_pos ⟨rfl, by omega⟩]; rfl
end CS
