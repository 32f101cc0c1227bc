/-! the search for a way: the model -/
def XBm (u h _k : Nat) : Prop := h = u + 7 ∨ h = u + 8
def CpM (M : pMem) (u n : Nat) (cp : Nat → Int32) : Prop := ∀ i j, i < n → j < n → gI M (u + 6) (12 * i + j) = cp (12 * i + j)
def BmM (u x : Nat) (s : tB) (M1 : pMem) : Prop := (∀ k, k < s.2.2.2 → gI M1 (u + 8) k = nN (s.2.2.1 k)) ∧ ∀ j, s.1.testBit j = true → j ≠ x → gI M1 (u + 7) j = nN (s.2.1 j)
section MB
variable {d t u n p q f g m e K k dd c j bl x y i h : Nat} {cp : Nat → Int32} {s : tB} {a : Nat → Int32} {M M1 M' : pMem} {Q : pOut → pMem → Prop}
theorem CpM.ag {X : Nat → Nat → Prop} (h : CpM M u n cp) (A : Ag X M M') (hX : ∀ k, ¬ X (u + 6) k) : CpM M' u n cp := fun i j h1 h2 => by rw [A.I (hX _)]; exact h i j h1 h2
theorem XBm_6 (k : Nat) : ¬ XBm u (u + 6) k := by rintro (z | z) <;> omega
theorem XBm_1 (k : Nat) : ¬ XBm u (u + 1) k := by rintro (z | z) <;> omega
theorem fm_j (hr : MR M u a) (hw : Wf a) (hc : CpM M u (nP a) cp) (hj : j < nP a) (hi : i < nP a) (w : BfW cp (nP a) x s) (hb : BmM u x s M1) (A : Ag (XBm u) M M1) (w2 : BfW cp (nP a) x (bfJ cp i j s)) {l1 l4 : Option Value}
    (go : ∀ M', BmM u x (bfJ cp i j s) M' → Ag (XBm u) M M' → bw (d + 2) 122 2 ([some (.ref u), l1, some (.int (nN (bfJ cp i j s).1)), some (.int (nN (bfJ cp i j s).2.2.2)), l4, some (.int (nN i)), some (.int (nN (j + 1)))], [], M') Q) :
    bw (d + 2) 122 2 ([some (.ref u), l1, some (.int (nN s.1)), some (.int (nN s.2.2.2)), l4, some (.int (nN i)), some (.int (nN j))], [], M1) Q := by
  have hn := hw.p'
  have r1 := hr.ag A XBm_1
  have s9 := r1.1
  have g1 := hc.ag A XBm_6 i j hi hj
  have cnt := bfw_cnt w hn
  have cnt2 := bfw_cnt w2 hn
  obtain ⟨s1, par, que, ct⟩ := s
  obtain ⟨b2, b3⟩ := hb
  dsimp only at b2 b3 cnt ⊢
  have sn : s1 < 2 ^ nP a := w.sn
  have sn2 := pow12 hn
  have h3 : ¬ nP a ≤ j := by omega
  have i9 : 12 * i + j < 144 := by omega
  have bt := bit_nN (s := s1) (h := j) (by omega) (by omega)
  rw [e_122_2]
  by_cases e2 : cp (12 * i + j) = 0
  · have eb : bfJ cp i j (s1, par, que, ct) = (s1, par, que, ct) := if_neg (fun z => z.1 e2)
    rw [eb] at go
    simp (disch := first | omega | rfl | (repeat' (first | exact gS_sI | exact gP_sI | refine Eq.trans gS_sI ?_ | refine Eq.trans gP_sI ?_ | refine Eq.trans (gIr_sI (by omega)) ?_ | rfl))) only [q_iconst, q_iload1, q_ishl, q_istore2, q_istore3, q_aload0, q_aload0N, q_get_r, pTag_1, pRf_s, q_iast, q_istore4, q_nop, q_iload4, q_iload3, q_ic_ge, q_iald, q_istore5, q_istore6, q_iload6, q_bipush, q_iload5, q_imul, q_iadd, q_if_eq, q_iload2, q_ishr, q_iand, q_ic_ne, q_goto, q_ior, q_iinc3, q_iinc6, q_iinc4, q_iret, e_122_0, e_122_3, e_122_4, e_122_5, e_122_6, L_0, L_1, L_12, r1.1.k0, r1.1.k1, r1.1.k2, r1.1.k3, r1.1.k4, r1.1.k5, r1.1.k6, r1.1.k7, r1.1.k8, r1.1.k9, r1.1.k10, r1.1.k11, r1.1.k12, r1.1.k13, r1.1.p1, r1.1.p2, r1.1.p4, r1.1.p5, r1.1.p13, r1.1.p18, r1.1.p19, r1.1.p20, r1.1.p21, r1.1.p22, r1.1.p23, r1.1.p24, r1.1.p27, r1.2, hw.p, h3, i9, s9.k6, s9.p18, pIn_n, pIx_n, g1, e2, gS_sI, gP_sI, gI_sI, Nat.add_left_cancel_iff, Nat.add_eq_left, Nat.left_eq_add, nN_le, nN_lt, nN_eq, nN_add, nN_mul, nN_lt0, nN_ge0, nN_gt0, nN_le0, nN_eq0, nN_eq1, nN_neN, pIn_n, pIx_n, eq_self, Nat.reduceLT, Bool.false_eq_true, Nat.add_zero, Nat.zero_add, Nat.reduceAdd, Nat.reduceMul, Nat.reduceSub, Nat.zero_le, Nat.reduceLeDiff, Nat.reduceEqDiff, Nat.le_refl, not_false_eq_true, not_true_eq_false, false_implies, true_implies, forall_const, true_and, and_true, if_true, if_false, implies_true, and_self, ne_eq, false_and, and_false, or_false, false_or, true_or, or_true]
    exact go M1 ⟨b2, b3⟩ A
  · by_cases e1 : s1.testBit j = true
    · have eb : bfJ cp i j (s1, par, que, ct) = (s1, par, que, ct) := if_neg (fun z => z.2 e1)
      rw [eb] at go
      have bt2 : ((nN s1 >>> (nN j &&& 31)) &&& nN 1 = nN 1) = True := by rw [bt]; exact eq_true e1
      simp (disch := first | omega | rfl | (repeat' (first | exact gS_sI | exact gP_sI | refine Eq.trans gS_sI ?_ | refine Eq.trans gP_sI ?_ | refine Eq.trans (gIr_sI (by omega)) ?_ | rfl))) only [q_iconst, q_iload1, q_ishl, q_istore2, q_istore3, q_aload0, q_aload0N, q_get_r, pTag_1, pRf_s, q_iast, q_istore4, q_nop, q_iload4, q_iload3, q_ic_ge, q_iald, q_istore5, q_istore6, q_iload6, q_bipush, q_iload5, q_imul, q_iadd, q_if_eq, q_iload2, q_ishr, q_iand, q_ic_ne, q_goto, q_ior, q_iinc3, q_iinc6, q_iinc4, q_iret, e_122_0, e_122_3, e_122_4, e_122_5, e_122_6, L_0, L_1, L_12, r1.1.k0, r1.1.k1, r1.1.k2, r1.1.k3, r1.1.k4, r1.1.k5, r1.1.k6, r1.1.k7, r1.1.k8, r1.1.k9, r1.1.k10, r1.1.k11, r1.1.k12, r1.1.k13, r1.1.p1, r1.1.p2, r1.1.p4, r1.1.p5, r1.1.p13, r1.1.p18, r1.1.p19, r1.1.p20, r1.1.p21, r1.1.p22, r1.1.p23, r1.1.p24, r1.1.p27, r1.2, hw.p, h3, i9, s9.k6, s9.p18, pIn_n, pIx_n, g1, e2, bt2, gS_sI, gP_sI, gI_sI, Nat.add_left_cancel_iff, Nat.add_eq_left, Nat.left_eq_add, nN_le, nN_lt, nN_eq, nN_add, nN_mul, nN_lt0, nN_ge0, nN_gt0, nN_le0, nN_eq0, nN_eq1, nN_neN, pIn_n, pIx_n, eq_self, Nat.reduceLT, Bool.false_eq_true, Nat.add_zero, Nat.zero_add, Nat.reduceAdd, Nat.reduceMul, Nat.reduceSub, Nat.zero_le, Nat.reduceLeDiff, Nat.reduceEqDiff, Nat.le_refl, not_false_eq_true, not_true_eq_false, false_implies, true_implies, forall_const, true_and, and_true, if_true, if_false, implies_true, and_self, ne_eq, false_and, and_false, or_false, false_or, true_or, or_true]
      exact go M1 ⟨b2, b3⟩ A
    · have eb : bfJ cp i j (s1, par, que, ct) = (s1 ||| 1 <<< j, fun k => if k = j then i else par k, fun k => if k = ct then j else que k, ct + 1) := if_pos ⟨e2, e1⟩
      rw [eb] at go cnt2
      dsimp only at go cnt2
      have bt2 : ((nN s1 >>> (nN j &&& 31)) &&& nN 1 = nN 1) = False := by rw [bt]; exact eq_false e1
      have e4 : nN s1 ||| nN 1 <<< (nN j &&& 31) = nN (s1 ||| 1 <<< j) := by rw [nN_shl (by omega), nN_or]
      have j12 : j < 12 := by omega
      have c12 : ct < 12 := by omega
      simp (disch := first | omega | rfl | (repeat' (first | exact gS_sI | exact gP_sI | refine Eq.trans gS_sI ?_ | refine Eq.trans gP_sI ?_ | refine Eq.trans (gIr_sI (by omega)) ?_ | rfl))) only [q_iconst, q_iload1, q_ishl, q_istore2, q_istore3, q_aload0, q_aload0N, q_get_r, pTag_1, pRf_s, q_iast, q_istore4, q_nop, q_iload4, q_iload3, q_ic_ge, q_iald, q_istore5, q_istore6, q_iload6, q_bipush, q_iload5, q_imul, q_iadd, q_if_eq, q_iload2, q_ishr, q_iand, q_ic_ne, q_goto, q_ior, q_iinc3, q_iinc6, q_iinc4, q_iret, e_122_0, e_122_3, e_122_4, e_122_5, e_122_6, L_0, L_1, L_12, r1.1.k0, r1.1.k1, r1.1.k2, r1.1.k3, r1.1.k4, r1.1.k5, r1.1.k6, r1.1.k7, r1.1.k8, r1.1.k9, r1.1.k10, r1.1.k11, r1.1.k12, r1.1.k13, r1.1.p1, r1.1.p2, r1.1.p4, r1.1.p5, r1.1.p13, r1.1.p18, r1.1.p19, r1.1.p20, r1.1.p21, r1.1.p22, r1.1.p23, r1.1.p24, r1.1.p27, r1.2, hw.p, h3, i9, s9.k0, s9.k6, s9.k7, s9.k8, s9.p18, s9.p19, s9.p20, gS_sI, gP_sI, pIn_n, pIx_n, g1, e2, bt2, e4, j12, c12, gS_sI, gP_sI, gI_sI, Nat.add_left_cancel_iff, Nat.add_eq_left, Nat.left_eq_add, nN_le, nN_lt, nN_eq, nN_add, nN_mul, nN_lt0, nN_ge0, nN_gt0, nN_le0, nN_eq0, nN_eq1, nN_neN, pIn_n, pIx_n, eq_self, Nat.reduceLT, Bool.false_eq_true, Nat.add_zero, Nat.zero_add, Nat.reduceAdd, Nat.reduceMul, Nat.reduceSub, Nat.zero_le, Nat.reduceLeDiff, Nat.reduceEqDiff, Nat.le_refl, not_false_eq_true, not_true_eq_false, false_implies, true_implies, forall_const, true_and, and_true, if_true, if_false, implies_true, and_self, ne_eq, false_and, and_false, or_false, false_or, true_or, or_true]
      refine go _ ⟨fun k hk => ?_, fun l hl hne => ?_⟩ (Ag.put (Ag.put A (Or.inl rfl)) (Or.inr rfl))
      · dsimp only at hk ⊢
        rw [gI_sI]
        by_cases e : k = ct
        · rw [if_pos ⟨rfl, e⟩, if_pos e]
        · rw [if_neg (fun z => e z.2), if_neg e, gI_sI, if_neg (by omega)]
          exact b2 k (by omega)
      · dsimp only at hl ⊢
        rw [gI_sI, if_neg (by omega), gI_sI]
        by_cases e : l = j
        · rw [if_pos ⟨rfl, e⟩, if_pos e]
        · rw [if_neg (fun z => e z.2), if_neg e]
          rw [tb_or, Bool.or_eq_true, decide_eq_true_iff] at hl
          rcases hl with h1 | h1
          · exact b3 l h1 hne
          · exact absurd h1.symm e
theorem w_reaches (hr : MR M u a) (hw : Wf a) (hc : CpM M u (nP a) cp) (hx : x < nP a) : mw (d + 3) 122 [.ref u, .int (nN x)] M (fun o M' => o = .inl (some (.int (nN (bfs cp (nP a) x).1))) ∧ BmM u x (bfs cp (nP a) x) M' ∧ Ag (XBm u) M M') := by
  have hn := hw.p'
  have s9 := hr.1
  have e1 : nN 1 <<< (nN x &&& 31) = nN (1 <<< x) := nN_shl (by omega)
  simp (disch := first | omega | rfl | (repeat' (first | exact gS_sI | exact gP_sI | refine Eq.trans gS_sI ?_ | refine Eq.trans gP_sI ?_ | refine Eq.trans (gIr_sI (by omega)) ?_ | rfl))) only [m_122, q_iconst, q_iload1, q_ishl, q_istore2, q_istore3, q_aload0, q_aload0N, q_get_r, pTag_1, pRf_s, q_iast, q_istore4, q_nop, q_iload4, q_iload3, q_ic_ge, q_iald, q_istore5, q_istore6, q_iload6, q_bipush, q_iload5, q_imul, q_iadd, q_if_eq, q_iload2, q_ishr, q_iand, q_ic_ne, q_goto, q_ior, q_iinc3, q_iinc6, q_iinc4, q_iret, e_122_0, e_122_3, e_122_4, e_122_5, e_122_6, L_0, L_1, L_12, s9.k0, s9.k8, s9.p20, pIn_n, pIx_n, e1, gS_sI, gP_sI, gI_sI, Nat.add_left_cancel_iff, Nat.add_eq_left, Nat.left_eq_add, nN_le, nN_lt, nN_eq, nN_add, nN_mul, nN_lt0, nN_ge0, nN_gt0, nN_le0, nN_eq0, nN_eq1, nN_neN, pIn_n, pIx_n, eq_self, Nat.reduceLT, Bool.false_eq_true, Nat.add_zero, Nat.zero_add, Nat.reduceAdd, Nat.reduceMul, Nat.reduceSub, Nat.zero_le, Nat.reduceLeDiff, Nat.reduceEqDiff, Nat.le_refl, not_false_eq_true, not_true_eq_false, false_implies, true_implies, forall_const, true_and, and_true, if_true, if_false, implies_true, and_self, ne_eq, false_and, and_false, or_false, false_or, true_or, or_true]
  have key : ∀ (f h : Nat) (s : tB) (z5 z6 : Option Value) (M1 : pMem), h + f = nP a → BfW cp (nP a) x s → BmM u x s M1 → Ag (XBm u) M M1 → bw (d + 2) 122 1 ([some (.ref u), some (.int (nN x)), some (.int (nN s.1)), some (.int (nN s.2.2.2)), some (.int (nN h)), z5, z6], [], M1) (fun o M' => o = .inl (some (.int (nN (bfO cp (nP a) f h s).1))) ∧ BmM u x (bfO cp (nP a) f h s) M' ∧ Ag (XBm u) M M') := by
    intro f
    have stop : ∀ (h : Nat) (s : tB) (z5 z6 : Option Value) (M1 : pMem), h ≤ nP a → ¬ h < s.2.2.2 → BfW cp (nP a) x s → BmM u x s M1 → Ag (XBm u) M M1 → bw (d + 2) 122 1 ([some (.ref u), some (.int (nN x)), some (.int (nN s.1)), some (.int (nN s.2.2.2)), some (.int (nN h)), z5, z6], [], M1) (fun o M' => o = .inl (some (.int (nN s.1))) ∧ BmM u x s M' ∧ Ag (XBm u) M M') := by
      intro h s z5 z6 M1 hhn hh w hb A
      have cnt := bfw_cnt w hn
      have hle : nN s.2.2.2 ≤ nN h := by rw [nN_le (by omega) (by omega)]; omega
      rw [e_122_1]
      simp (disch := omega) only [q_iconst, q_iload1, q_ishl, q_istore2, q_istore3, q_aload0, q_aload0N, q_get_r, pTag_1, pRf_s, q_iast, q_istore4, q_nop, q_iload4, q_iload3, q_ic_ge, q_iald, q_istore5, q_istore6, q_iload6, q_bipush, q_iload5, q_imul, q_iadd, q_if_eq, q_iload2, q_ishr, q_iand, q_ic_ne, q_goto, q_ior, q_iinc3, q_iinc6, q_iinc4, q_iret, e_122_0, e_122_3, e_122_4, e_122_5, e_122_6, L_0, L_1, L_12, hle, gS_sI, gP_sI, gI_sI, Nat.add_left_cancel_iff, Nat.add_eq_left, Nat.left_eq_add, nN_le, nN_lt, nN_eq, nN_add, nN_mul, nN_lt0, nN_ge0, nN_gt0, nN_le0, nN_eq0, nN_eq1, nN_neN, pIn_n, pIx_n, eq_self, Nat.reduceLT, Bool.false_eq_true, Nat.add_zero, Nat.zero_add, Nat.reduceAdd, Nat.reduceMul, Nat.reduceSub, Nat.zero_le, Nat.reduceLeDiff, Nat.reduceEqDiff, Nat.le_refl, not_false_eq_true, not_true_eq_false, false_implies, true_implies, forall_const, true_and, and_true, if_true, if_false, implies_true, and_self, ne_eq, false_and, and_false, or_false, false_or, true_or, or_true]
      exact ⟨hb, A⟩
    induction f with
    | zero =>
      intro h s z5 z6 M1 hf w hb A
      have := bfw_cnt w hn
      exact stop h s z5 z6 M1 (by omega) (by omega) w hb A
    | succ f ih =>
      intro h s z5 z6 M1 hf w hb A
      by_cases hh : h < s.2.2.2
      · have e : bfO cp (nP a) (f + 1) h s = bfO cp (nP a) f (h + 1) (bfI cp (nP a) h s) := if_pos hh
        rw [e]
        have cnt := bfw_cnt w hn
        have r1 := hr.ag A XBm_1
        have s8 := r1.1
        have g1 := hb.1 h hh
        have hq := (w.qn h hh).1
        have h3 : ¬ s.2.2.2 ≤ h := by omega
        have h12 : h < 12 := by omega
        have hI := bfw_i w hn hh
        rw [e_122_1]
        simp (disch := first | omega | rfl | (repeat' (first | exact gS_sI | exact gP_sI | refine Eq.trans gS_sI ?_ | refine Eq.trans gP_sI ?_ | refine Eq.trans (gIr_sI (by omega)) ?_ | rfl))) only [q_iconst, q_iload1, q_ishl, q_istore2, q_istore3, q_aload0, q_aload0N, q_get_r, pTag_1, pRf_s, q_iast, q_istore4, q_nop, q_iload4, q_iload3, q_ic_ge, q_iald, q_istore5, q_istore6, q_iload6, q_bipush, q_iload5, q_imul, q_iadd, q_if_eq, q_iload2, q_ishr, q_iand, q_ic_ne, q_goto, q_ior, q_iinc3, q_iinc6, q_iinc4, q_iret, e_122_0, e_122_3, e_122_4, e_122_5, e_122_6, L_0, L_1, L_12, h3, h12, s8.k0, s8.k8, s8.p20, pIn_n, pIx_n, g1, gS_sI, gP_sI, gI_sI, Nat.add_left_cancel_iff, Nat.add_eq_left, Nat.left_eq_add, nN_le, nN_lt, nN_eq, nN_add, nN_mul, nN_lt0, nN_ge0, nN_gt0, nN_le0, nN_eq0, nN_eq1, nN_neN, pIn_n, pIx_n, eq_self, Nat.reduceLT, Bool.false_eq_true, Nat.add_zero, Nat.zero_add, Nat.reduceAdd, Nat.reduceMul, Nat.reduceSub, Nat.zero_le, Nat.reduceLeDiff, Nat.reduceEqDiff, Nat.le_refl, not_false_eq_true, not_true_eq_false, false_implies, true_implies, forall_const, true_and, and_true, if_true, if_false, implies_true, and_self, ne_eq, false_and, and_false, or_false, false_or, true_or, or_true]
        have ei : bfI cp (nP a) h s = lp (nP a) 0 s (bfJ cp (s.2.2.1 h)) := rfl
        rw [ei] at hI ⊢
        refine loopR (n := nP a) (J := Unit) (C := fun j s1 _ M => ([some (.ref u), some (.int (nN x)), some (.int (nN s1.1)), some (.int (nN s1.2.2.2)), some (.int (nN h)), some (.int (nN (s.2.2.1 h))), some (.int (nN j))], [], M)) (f := bfJ cp (s.2.2.1 h)) (R := fun j s1 M1 => (BfW cp (nP a) x s1 ∧ BfK s s1) ∧ BmM u x s1 M1 ∧ Ag (XBm u) M M1) ?_ (nP a) 0 s () M1 (by omega) ⟨⟨w, Nat.le_refl _, fun _ _ => rfl⟩, hb, A⟩ ?_
        · rintro j s1 _ M2 hj ⟨⟨w1, K1⟩, b1, A1⟩ go
          have w2 := bfw_j (j := j) w1 hn (h := h) (by have := K1.1; omega) (K1.2 h hh).symm hj
          exact fm_j (d := d) hr hw hc hj hq w1 b1 A1 w2 (fun M' b2 A2 => go M' () ⟨⟨w2, K1.trans bfk_j⟩, b2, A2⟩)
        · rintro M2 _ ⟨⟨w1, K1⟩, b1, A1⟩
          have r2 := hr.ag A1 XBm_1
          rw [e_122_2]
          simp (disch := first | omega | rfl | (repeat' (first | exact gS_sI | exact gP_sI | refine Eq.trans gS_sI ?_ | refine Eq.trans gP_sI ?_ | refine Eq.trans (gIr_sI (by omega)) ?_ | rfl))) only [q_iconst, q_iload1, q_ishl, q_istore2, q_istore3, q_aload0, q_aload0N, q_get_r, pTag_1, pRf_s, q_iast, q_istore4, q_nop, q_iload4, q_iload3, q_ic_ge, q_iald, q_istore5, q_istore6, q_iload6, q_bipush, q_iload5, q_imul, q_iadd, q_if_eq, q_iload2, q_ishr, q_iand, q_ic_ne, q_goto, q_ior, q_iinc3, q_iinc6, q_iinc4, q_iret, e_122_0, e_122_3, e_122_4, e_122_5, e_122_6, L_0, L_1, L_12, r2.1.k0, r2.1.k1, r2.1.k2, r2.1.k3, r2.1.k4, r2.1.k5, r2.1.k6, r2.1.k7, r2.1.k8, r2.1.k9, r2.1.k10, r2.1.k11, r2.1.k12, r2.1.k13, r2.1.p1, r2.1.p2, r2.1.p4, r2.1.p5, r2.1.p13, r2.1.p18, r2.1.p19, r2.1.p20, r2.1.p21, r2.1.p22, r2.1.p23, r2.1.p24, r2.1.p27, r2.2, hw.p, gS_sI, gP_sI, gI_sI, Nat.add_left_cancel_iff, Nat.add_eq_left, Nat.left_eq_add, nN_le, nN_lt, nN_eq, nN_add, nN_mul, nN_lt0, nN_ge0, nN_gt0, nN_le0, nN_eq0, nN_eq1, nN_neN, pIn_n, pIx_n, eq_self, Nat.reduceLT, Bool.false_eq_true, Nat.add_zero, Nat.zero_add, Nat.reduceAdd, Nat.reduceMul, Nat.reduceSub, Nat.zero_le, Nat.reduceLeDiff, Nat.reduceEqDiff, Nat.le_refl, not_false_eq_true, not_true_eq_false, false_implies, true_implies, forall_const, true_and, and_true, if_true, if_false, implies_true, and_self, ne_eq, false_and, and_false, or_false, false_or, true_or, or_true]
          exact ih (h + 1) _ _ _ M2 (by omega) w1 b1 A1
      · have e : bfO cp (nP a) (f + 1) h s = s := if_neg hh
        rw [e]
        exact stop h s z5 z6 M1 (by omega) hh w hb A
  refine key (nP a) 0 (bf0 x) none none _ (by omega) (bfw_0 hx hn) ⟨?_, ?_⟩ (Ag.one (Or.inr rfl))
  · intro k hk
    have hk : k < 1 := hk
    rw [gI_sI, if_pos ⟨rfl, by omega⟩]; rfl
  · intro j hj hne
    have hj : (1 <<< x).testBit j = true := hj
    rw [Nat.one_shiftLeft, Nat.testBit_two_pow, decide_eq_true_iff] at hj
    exact absurd hj.symm hne
end MB
