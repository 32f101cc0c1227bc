/-! the search for a way: the class -/
def ShP (S : Nat → Nat × Nat) (P : Nat → Nat → Option Nat) : Prop := (S 76 = (4, 0)) ∧ (S 77 = (100, 144)) ∧ (S 78 = (100, 12)) ∧ (S 79 = (100, 12)) ∧ (S 80 = (100, 12)) ∧ (P 76 0 = some 77) ∧ (P 76 1 = some 78) ∧ (P 76 2 = some 79) ∧ (P 76 3 = some 80)
theorem ShP.mk {S : Nat → Nat × Nat} {P : Nat → Nat → Option Nat} (k76 : S 76 = (4, 0)) (k77 : S 77 = (100, 144)) (k78 : S 78 = (100, 12)) (k79 : S 79 = (100, 12)) (k80 : S 80 = (100, 12)) (a : P 76 0 = some 77) (b : P 76 1 = some 78) (c : P 76 2 = some 79) (d : P 76 3 = some 80) : ShP S P := ⟨k76, k77, k78, k79, k80, a, b, c, d⟩
theorem ShP.k76 {S : Nat → Nat × Nat} {P : Nat → Nat → Option Nat} (h : ShP S P) : S 76 = (4, 0) := And.left h
theorem ShP.k77 {S : Nat → Nat × Nat} {P : Nat → Nat → Option Nat} (h : ShP S P) : S 77 = (100, 144) := And.left (And.right h)
theorem ShP.k78 {S : Nat → Nat × Nat} {P : Nat → Nat → Option Nat} (h : ShP S P) : S 78 = (100, 12) := And.left (And.right (And.right h))
theorem ShP.k79 {S : Nat → Nat × Nat} {P : Nat → Nat → Option Nat} (h : ShP S P) : S 79 = (100, 12) := And.left (And.right (And.right (And.right h)))
theorem ShP.k80 {S : Nat → Nat × Nat} {P : Nat → Nat → Option Nat} (h : ShP S P) : S 80 = (100, 12) := And.left (And.right (And.right (And.right (And.right h))))
theorem ShP.a {S : Nat → Nat × Nat} {P : Nat → Nat → Option Nat} (h : ShP S P) : P 76 0 = some 77 := And.left (And.right (And.right (And.right (And.right (And.right h)))))
theorem ShP.b {S : Nat → Nat × Nat} {P : Nat → Nat → Option Nat} (h : ShP S P) : P 76 1 = some 78 := And.left (And.right (And.right (And.right (And.right (And.right (And.right h))))))
theorem ShP.c {S : Nat → Nat × Nat} {P : Nat → Nat → Option Nat} (h : ShP S P) : P 76 2 = some 79 := And.left (And.right (And.right (And.right (And.right (And.right (And.right (And.right h)))))))
theorem ShP.d {S : Nat → Nat × Nat} {P : Nat → Nat → Option Nat} (h : ShP S P) : P 76 3 = some 80 := And.right (And.right (And.right (And.right (And.right (And.right (And.right (And.right h)))))))
def XB (h k : Nat) : Prop := (h = 76 ∧ k = 5) ∨ h = 78 ∨ h = 79
/-- the ports as laid open, from M's cells -/
def CpO (M : pMem) (n : Nat) (cp : Nat → Int32) : Prop := gI M 76 4 = nN n ∧ ∀ i j, i < n → j < n → gI M 77 (12 * i + j) = cp (12 * i + j)
def BmC (x : Nat) (s : tB) (M1 : pMem) : Prop := gI M1 76 5 = nN s.1 ∧ (∀ k, k < s.2.2.2 → gI M1 78 k = nN (s.2.2.1 k)) ∧ ∀ j, s.1.testBit j = true → j ≠ x → gI M1 79 j = nN (s.2.1 j)
section CB
variable {d t u n p q f g m e K k dd c j bl x y i h : Nat} {cp : Nat → Int32} {s : tB} {M M1 M' : pMem} {Q : pOut → pMem → Prop}
theorem ShF.shp (h : ShF (gS M) (gP M)) : ShP (gS M) (gP M) := ShP.mk h.k76 h.k77 h.k78 h.k79 h.k80 h.q76a h.q76b h.q76c h.q76d
theorem CpO.ag {X : Nat → Nat → Prop} (h : CpO M n cp) (A : Ag X M M') (hX : ∀ h k, (h = 76 ∧ k = 4) ∨ h = 77 → ¬ X h k) : CpO M' n cp := ⟨by rw [A.I (hX _ _ (Or.inl ⟨rfl, rfl⟩))]; exact h.1, fun i j h1 h2 => by rw [A.I (hX _ _ (Or.inr rfl))]; exact h.2 i j h1 h2⟩
theorem XB_cp : ∀ h k, (h = 76 ∧ k = 4) ∨ h = 77 → ¬ XB h k := by rintro h k z (z2 | z2 | z2) <;> omega
theorem cpos {v : Int32} (h : 0 ≤ v) : (v ≤ 0) = (v = 0) := propext ⟨fun z => Int32.le_antisymm z h, fun z => by rw [z]; exact Int32.le_refl _⟩
theorem fw_j (sh : ShP (gS M) (gP M)) (hc : CpO M n cp) (hn : n ≤ 12) (nn : ∀ i j, i < n → j < n → 0 ≤ cp (12 * i + j)) (hj : j < n) (hi : i < n) (w : BfW cp n x s) (hb : BmC x s M1) (A : Ag XB M M1) (w2 : BfW cp n x (bfJ cp i j s)) {l1 l2 l4 : Option Value}
    (go : ∀ M', BmC x (bfJ cp i j s) M' → Ag XB M M' → bw (d + 2) 173 2 ([some (.ref 76), l1, l2, some (.int (nN (bfJ cp i j s).2.2.2)), l4, some (.int (nN i)), some (.int (nN (j + 1)))], [], M') Q) :
    bw (d + 2) 173 2 ([some (.ref 76), l1, l2, some (.int (nN s.2.2.2)), l4, some (.int (nN i)), some (.int (nN j))], [], M1) Q := by
  have k76 : gS M1 76 = (4, 0) := by rw [A.S]; exact sh.k76
  have k77 : gS M1 77 = (100, 144) := by rw [A.S]; exact sh.k77
  have k78 : gS M1 78 = (100, 12) := by rw [A.S]; exact sh.k78
  have k79 : gS M1 79 = (100, 12) := by rw [A.S]; exact sh.k79
  have pa : gP M1 76 0 = some 77 := by rw [A.P]; exact sh.a
  have pb : gP M1 76 1 = some 78 := by rw [A.P]; exact sh.b
  have pc : gP M1 76 2 = some 79 := by rw [A.P]; exact sh.c
  obtain ⟨n1, c1⟩ := hc.ag A XB_cp
  have g1 := c1 i j hi hj
  have cnt := bfw_cnt w hn
  have cnt2 := bfw_cnt w2 hn
  obtain ⟨s1, par, que, ct⟩ := s
  obtain ⟨b1, b2, b3⟩ := hb
  dsimp only at b1 b2 b3 cnt ⊢
  have sn : s1 < 2 ^ n := w.sn
  have sn2 := pow12 hn
  have h3 : ¬ n ≤ j := by omega
  have i9 : i * 12 + j = 12 * i + j := by omega
  have bt := bit_nN (s := s1) (h := j) (by omega) (by omega)
  rw [e_173_2]
  by_cases e1 : s1.testBit j = true
  · have eb : bfJ cp i j (s1, par, que, ct) = (s1, par, que, ct) := if_neg (fun z => z.2 e1)
    rw [eb] at go
    rw [e1] at bt
    simp (disch := omega) only [q_aload0, q_aload0N, q_iconst, q_iload1, q_ishl, q_put_i, pTag_1, q_get_r, pRf_s, q_invs3_21, q_istore3, q_istore4, q_nop, q_iload4, q_iload3, q_ic_ge, q_get_i, q_invs2_21, q_istore5, q_istore6, q_iload6, q_if_ne, q_iload5, q_invs2_20, q_if_le, q_dup_i, q_dup_r, q_ior, q_iinc3, q_iinc6, q_goto, q_iinc4, q_iload2, q_zret, e_173_0, e_173_3, e_173_4, e_173_5, L_0, L_1, k_some, k_none, pRm_i, pRm_r, pRm_0, pF_1, pF_2, inv_s, k76, k77, pa, n1, h3, b1, w_hasBit, bt, bI_eq0, gS_sI, gP_sI, gI_sI, Nat.add_left_cancel_iff, Nat.add_eq_left, Nat.left_eq_add, nN_le, nN_lt, nN_eq, nN_add, nN_mul, nN_lt0, nN_ge0, nN_gt0, nN_le0, nN_eq0, nN_eq1, nN_neN, pIn_n, pIx_n, eq_self, Nat.reduceLT, Bool.false_eq_true, Nat.add_zero, Nat.zero_add, Nat.reduceAdd, Nat.reduceMul, Nat.reduceSub, Nat.zero_le, Nat.reduceLeDiff, Nat.reduceEqDiff, Nat.le_refl, not_false_eq_true, not_true_eq_false, false_implies, true_implies, forall_const, true_and, and_true, if_true, if_false, implies_true, and_self, ne_eq, false_and, and_false, or_false, false_or, true_or, or_true]
    exact go M1 ⟨b1, b2, b3⟩ A
  · by_cases e2 : cp (12 * i + j) = 0
    · have eb : bfJ cp i j (s1, par, que, ct) = (s1, par, que, ct) := if_neg (fun z => z.1 e2)
      rw [eb] at go
      have bt2 : ((nN s1 >>> (nN j &&& 31)) &&& nN 1 = nN 1) = False := by rw [bt]; exact eq_false e1
      have e3 : cp (12 * i + j) ≤ 0 := by rw [cpos (nn i j hi hj)]; exact e2
      simp (disch := omega) only [q_aload0, q_aload0N, q_iconst, q_iload1, q_ishl, q_put_i, pTag_1, q_get_r, pRf_s, q_invs3_21, q_istore3, q_istore4, q_nop, q_iload4, q_iload3, q_ic_ge, q_get_i, q_invs2_21, q_istore5, q_istore6, q_iload6, q_if_ne, q_iload5, q_invs2_20, q_if_le, q_dup_i, q_dup_r, q_ior, q_iinc3, q_iinc6, q_goto, q_iinc4, q_iload2, q_zret, e_173_0, e_173_3, e_173_4, e_173_5, L_0, L_1, k_some, k_none, pRm_i, pRm_r, pRm_0, pF_1, pF_2, inv_s, k76, k77, pa, n1, h3, b1, w_hasBit, bt2, bI_eq0, m_171, q_iload0, q_bipush, q_imul, q_iload1, q_iadd, q_iret, e_171_0, L_12, i9, w_atN k77, g1, e3, gS_sI, gP_sI, gI_sI, Nat.add_left_cancel_iff, Nat.add_eq_left, Nat.left_eq_add, nN_le, nN_lt, nN_eq, nN_add, nN_mul, nN_lt0, nN_ge0, nN_gt0, nN_le0, nN_eq0, nN_eq1, nN_neN, pIn_n, pIx_n, eq_self, Nat.reduceLT, Bool.false_eq_true, Nat.add_zero, Nat.zero_add, Nat.reduceAdd, Nat.reduceMul, Nat.reduceSub, Nat.zero_le, Nat.reduceLeDiff, Nat.reduceEqDiff, Nat.le_refl, not_false_eq_true, not_true_eq_false, false_implies, true_implies, forall_const, true_and, and_true, if_true, if_false, implies_true, and_self, ne_eq, false_and, and_false, or_false, false_or, true_or, or_true]
      exact go M1 ⟨b1, b2, b3⟩ A
    · have eb : bfJ cp i j (s1, par, que, ct) = (s1 ||| 1 <<< j, fun k => if k = j then i else par k, fun k => if k = ct then j else que k, ct + 1) := if_pos ⟨e2, e1⟩
      rw [eb] at go cnt2
      dsimp only at go cnt2
      have bt2 : ((nN s1 >>> (nN j &&& 31)) &&& nN 1 = nN 1) = False := by rw [bt]; exact eq_false e1
      have e3 : ¬ cp (12 * i + j) ≤ 0 := by rw [cpos (nn i j hi hj)]; exact e2
      have e4 : nN s1 ||| nN 1 <<< (nN j &&& 31) = nN (s1 ||| 1 <<< j) := by rw [nN_shl (by omega), nN_or]
      simp (disch := first | omega | rfl | (repeat' (first | exact gS_sI | exact gP_sI | refine Eq.trans gS_sI ?_ | refine Eq.trans gP_sI ?_))) only [q_aload0, q_aload0N, q_iconst, q_iload1, q_ishl, q_put_i, pTag_1, q_get_r, pRf_s, q_invs3_21, q_istore3, q_istore4, q_nop, q_iload4, q_iload3, q_ic_ge, q_get_i, q_invs2_21, q_istore5, q_istore6, q_iload6, q_if_ne, q_iload5, q_invs2_20, q_if_le, q_dup_i, q_dup_r, q_ior, q_iinc3, q_iinc6, q_goto, q_iinc4, q_iload2, q_zret, e_173_0, e_173_3, e_173_4, e_173_5, L_0, L_1, k_some, k_none, pRm_i, pRm_r, pRm_0, pF_1, pF_2, inv_s, k76, k77, k78, k79, pa, pb, pc, gS_sI, gP_sI, n1, h3, b1, w_hasBit, bt2, bI_eq0, m_171, q_iload0, q_bipush, q_imul, q_iload1, q_iadd, q_iret, e_171_0, L_12, i9, w_atN k77, g1, e3, e4, w_putS k78, w_putS k79, gS_sI, gP_sI, gI_sI, Nat.add_left_cancel_iff, Nat.add_eq_left, Nat.left_eq_add, nN_le, nN_lt, nN_eq, nN_add, nN_mul, nN_lt0, nN_ge0, nN_gt0, nN_le0, nN_eq0, nN_eq1, nN_neN, pIn_n, pIx_n, eq_self, Nat.reduceLT, Bool.false_eq_true, Nat.add_zero, Nat.zero_add, Nat.reduceAdd, Nat.reduceMul, Nat.reduceSub, Nat.zero_le, Nat.reduceLeDiff, Nat.reduceEqDiff, Nat.le_refl, not_false_eq_true, not_true_eq_false, false_implies, true_implies, forall_const, true_and, and_true, if_true, if_false, implies_true, and_self, ne_eq, false_and, and_false, or_false, false_or, true_or, or_true]
      refine go _ ⟨?_, fun k hk => ?_, fun l hl hne => ?_⟩ (Ag.put (Ag.put (Ag.put A (Or.inl ⟨rfl, rfl⟩)) (Or.inr (Or.inr rfl))) (Or.inr (Or.inl rfl)))
      · rw [gI_sI, if_neg (by omega), gI_sI, if_neg (by omega), gI_sI, if_pos ⟨rfl, rfl⟩]
      · dsimp only at hk ⊢
        rw [gI_sI]
        by_cases e : k = ct
        · rw [if_pos ⟨rfl, e⟩, if_pos e]
        · rw [if_neg (fun z => e z.2), if_neg e, gI_sI, if_neg (by omega), gI_sI, if_neg (by omega)]
          exact b2 k (by omega)
      · dsimp only at hl ⊢
        rw [gI_sI, if_neg (by omega), gI_sI]
        by_cases e : l = j
        · rw [if_pos ⟨rfl, e⟩, if_pos e]
        · rw [if_neg (fun z => e z.2), if_neg e, gI_sI, if_neg (by omega)]
          rw [tb_or, Bool.or_eq_true, decide_eq_true_iff] at hl
          rcases hl with h1 | h1
          · exact b3 l h1 hne
          · exact absurd h1.symm e
theorem w_findWay (sh : ShP (gS M) (gP M)) (hc : CpO M n cp) (hn : n ≤ 12) (nn : ∀ i j, i < n → j < n → 0 ≤ cp (12 * i + j)) (hx : x < n) (hy : y < n) : mw (d + 3) 173 [.ref 76, .int (nN x), .int (nN y)] M (fun o M' => o = .inl (some (.int (bI ((bfs cp n x).1.testBit y = true)))) ∧ BmC x (bfs cp n x) M' ∧ Ag XB M M') := by
  have k76 := sh.k76
  have k77 := sh.k77
  have k78 := sh.k78
  have k79 := sh.k79
  have pa := sh.a
  have pb := sh.b
  have pc := sh.c
  have e1 : nN 1 <<< (nN x &&& 31) = nN (1 <<< x) := nN_shl (by omega)
  simp (disch := first | omega | rfl | (repeat' (first | exact gS_sI | exact gP_sI | refine Eq.trans gS_sI ?_ | refine Eq.trans gP_sI ?_))) only [m_173, q_aload0, q_aload0N, q_iconst, q_iload1, q_ishl, q_put_i, pTag_1, q_get_r, pRf_s, q_invs3_21, q_istore3, q_istore4, q_nop, q_iload4, q_iload3, q_ic_ge, q_get_i, q_invs2_21, q_istore5, q_istore6, q_iload6, q_if_ne, q_iload5, q_invs2_20, q_if_le, q_dup_i, q_dup_r, q_ior, q_iinc3, q_iinc6, q_goto, q_iinc4, q_iload2, q_zret, e_173_0, e_173_3, e_173_4, e_173_5, L_0, L_1, k_some, k_none, pRm_i, pRm_r, pRm_0, pF_1, pF_2, inv_s, k76, pb, e1, w_putS k78, gS_sI, gP_sI, gI_sI, Nat.add_left_cancel_iff, Nat.add_eq_left, Nat.left_eq_add, nN_le, nN_lt, nN_eq, nN_add, nN_mul, nN_lt0, nN_ge0, nN_gt0, nN_le0, nN_eq0, nN_eq1, nN_neN, pIn_n, pIx_n, eq_self, Nat.reduceLT, Bool.false_eq_true, Nat.add_zero, Nat.zero_add, Nat.reduceAdd, Nat.reduceMul, Nat.reduceSub, Nat.zero_le, Nat.reduceLeDiff, Nat.reduceEqDiff, Nat.le_refl, not_false_eq_true, not_true_eq_false, false_implies, true_implies, forall_const, true_and, and_true, if_true, if_false, implies_true, and_self, ne_eq, false_and, and_false, or_false, false_or, true_or, or_true]
  have key : ∀ (f h : Nat) (s : tB) (z5 z6 : Option Value) (M1 : pMem), h + f = n → BfW cp n x s → BmC x s M1 → Ag XB M M1 → bw (d + 2) 173 1 ([some (.ref 76), some (.int (nN x)), some (.int (nN y)), some (.int (nN s.2.2.2)), some (.int (nN h)), z5, z6], [], M1) (fun o M' => o = .inl (some (.int (bI ((bfO cp n f h s).1.testBit y = true)))) ∧ BmC x (bfO cp n f h s) M' ∧ Ag XB M M') := by
    intro f
    have stop : ∀ (h : Nat) (s : tB) (z5 z6 : Option Value) (M1 : pMem), h ≤ n → ¬ h < s.2.2.2 → BfW cp n x s → BmC x s M1 → Ag XB M M1 → bw (d + 2) 173 1 ([some (.ref 76), some (.int (nN x)), some (.int (nN y)), some (.int (nN s.2.2.2)), some (.int (nN h)), z5, z6], [], M1) (fun o M' => o = .inl (some (.int (bI (s.1.testBit y = true)))) ∧ BmC x s M' ∧ Ag XB M M') := by
      intro h s z5 z6 M1 hhn hh w hb A
      have sn2 := pow12 hn
      have sn := w.sn
      have cnt := bfw_cnt w hn
      have kk : (gS M1 76).1 = 4 := by rw [A.S, k76]
      have bt := bit_nN (s := s.1) (h := y) (by omega) (by omega)
      have h9 : s.2.2.2 ≤ h := by omega
      have hle : nN s.2.2.2 ≤ nN h := by
        rw [nN_le (by omega) (by omega)]; omega
      rw [e_173_1]
      simp (disch := omega) only [q_aload0, q_aload0N, q_iconst, q_iload1, q_ishl, q_put_i, pTag_1, q_get_r, pRf_s, q_invs3_21, q_istore3, q_istore4, q_nop, q_iload4, q_iload3, q_ic_ge, q_get_i, q_invs2_21, q_istore5, q_istore6, q_iload6, q_if_ne, q_iload5, q_invs2_20, q_if_le, q_dup_i, q_dup_r, q_ior, q_iinc3, q_iinc6, q_goto, q_iinc4, q_iload2, q_zret, e_173_0, e_173_3, e_173_4, e_173_5, L_0, L_1, k_some, k_none, pRm_i, pRm_r, pRm_0, pF_1, pF_2, inv_s, hle, kk, hb.1, w_hasBit, bt, gS_sI, gP_sI, gI_sI, Nat.add_left_cancel_iff, Nat.add_eq_left, Nat.left_eq_add, nN_le, nN_lt, nN_eq, nN_add, nN_mul, nN_lt0, nN_ge0, nN_gt0, nN_le0, nN_eq0, nN_eq1, nN_neN, pIn_n, pIx_n, eq_self, Nat.reduceLT, Bool.false_eq_true, Nat.add_zero, Nat.zero_add, Nat.reduceAdd, Nat.reduceMul, Nat.reduceSub, Nat.zero_le, Nat.reduceLeDiff, Nat.reduceEqDiff, Nat.le_refl, not_false_eq_true, not_true_eq_false, false_implies, true_implies, forall_const, true_and, and_true, if_true, if_false, implies_true, and_self, ne_eq, false_and, and_false, or_false, false_or, true_or, or_true]
      refine ⟨?_, hb, A⟩
      unfold bI
      split
      · exact Or.inr rfl
      · exact Or.inl rfl
    induction f with
    | zero =>
      intro h s z5 z6 M1 hf w hb A
      have := bfw_cnt w hn
      exact stop h s z5 z6 M1 (by omega) (by omega) w hb A
    | succ f ih =>
      intro h s z5 z6 M1 hf w hb A
      by_cases hh : h < s.2.2.2
      · have e : bfO cp n (f + 1) h s = bfO cp n f (h + 1) (bfI cp n h s) := if_pos hh
        rw [e]
        have cnt := bfw_cnt w hn
        have kk : (gS M1 76).1 = 4 := by rw [A.S, k76]
        have k78' : gS M1 78 = (100, 12) := by rw [A.S]; exact k78
        have pb' : gP M1 76 1 = some 78 := by rw [A.P]; exact pb
        have g1 := hb.2.1 h hh
        have hq := (w.qn h hh).1
        have n1 := (hc.ag A XB_cp).1
        have h3 : ¬ s.2.2.2 ≤ h := by omega
        have h4 : ¬ n ≤ h := by omega
        have hI := bfw_i w hn hh
        rw [e_173_1]
        simp (disch := omega) only [q_aload0, q_aload0N, q_iconst, q_iload1, q_ishl, q_put_i, pTag_1, q_get_r, pRf_s, q_invs3_21, q_istore3, q_istore4, q_nop, q_iload4, q_iload3, q_ic_ge, q_get_i, q_invs2_21, q_istore5, q_istore6, q_iload6, q_if_ne, q_iload5, q_invs2_20, q_if_le, q_dup_i, q_dup_r, q_ior, q_iinc3, q_iinc6, q_goto, q_iinc4, q_iload2, q_zret, e_173_0, e_173_3, e_173_4, e_173_5, L_0, L_1, k_some, k_none, pRm_i, pRm_r, pRm_0, pF_1, pF_2, inv_s, h3, h4, kk, n1, pb', w_atN k78', g1, gS_sI, gP_sI, gI_sI, Nat.add_left_cancel_iff, Nat.add_eq_left, Nat.left_eq_add, nN_le, nN_lt, nN_eq, nN_add, nN_mul, nN_lt0, nN_ge0, nN_gt0, nN_le0, nN_eq0, nN_eq1, nN_neN, pIn_n, pIx_n, eq_self, Nat.reduceLT, Bool.false_eq_true, Nat.add_zero, Nat.zero_add, Nat.reduceAdd, Nat.reduceMul, Nat.reduceSub, Nat.zero_le, Nat.reduceLeDiff, Nat.reduceEqDiff, Nat.le_refl, not_false_eq_true, not_true_eq_false, false_implies, true_implies, forall_const, true_and, and_true, if_true, if_false, implies_true, and_self, ne_eq, false_and, and_false, or_false, false_or, true_or, or_true]
        have ei : bfI cp n h s = lp n 0 s (bfJ cp (s.2.2.1 h)) := rfl
        rw [ei] at hI ⊢
        refine loopR (n := n) (J := Unit) (C := fun j s1 _ M => ([some (.ref 76), some (.int (nN x)), some (.int (nN y)), some (.int (nN s1.2.2.2)), some (.int (nN h)), some (.int (nN (s.2.2.1 h))), some (.int (nN j))], [], M)) (f := bfJ cp (s.2.2.1 h)) (R := fun j s1 M1 => (BfW cp n x s1 ∧ BfK s s1) ∧ BmC x s1 M1 ∧ Ag XB M M1) ?_ n 0 s () M1 (by omega) ⟨⟨w, Nat.le_refl _, fun _ _ => rfl⟩, hb, A⟩ ?_
        · rintro j s1 _ M2 hj ⟨⟨w1, K1⟩, b1, A1⟩ go
          have w2 := bfw_j (j := j) w1 hn (h := h) (by have := K1.1; omega) (K1.2 h hh).symm hj
          exact fw_j (d := d) sh hc hn nn hj hq w1 b1 A1 w2 (fun M' b2 A2 => go M' () ⟨⟨w2, K1.trans bfk_j⟩, b2, A2⟩)
        · rintro M2 _ ⟨⟨w1, K1⟩, b1, A1⟩
          have kk2 : (gS M2 76).1 = 4 := by rw [A1.S, k76]
          have n2 := (hc.ag A1 XB_cp).1
          rw [e_173_2]
          simp (disch := omega) only [q_aload0, q_aload0N, q_iconst, q_iload1, q_ishl, q_put_i, pTag_1, q_get_r, pRf_s, q_invs3_21, q_istore3, q_istore4, q_nop, q_iload4, q_iload3, q_ic_ge, q_get_i, q_invs2_21, q_istore5, q_istore6, q_iload6, q_if_ne, q_iload5, q_invs2_20, q_if_le, q_dup_i, q_dup_r, q_ior, q_iinc3, q_iinc6, q_goto, q_iinc4, q_iload2, q_zret, e_173_0, e_173_3, e_173_4, e_173_5, L_0, L_1, k_some, k_none, pRm_i, pRm_r, pRm_0, pF_1, pF_2, inv_s, kk2, n2, gS_sI, gP_sI, gI_sI, Nat.add_left_cancel_iff, Nat.add_eq_left, Nat.left_eq_add, nN_le, nN_lt, nN_eq, nN_add, nN_mul, nN_lt0, nN_ge0, nN_gt0, nN_le0, nN_eq0, nN_eq1, nN_neN, pIn_n, pIx_n, eq_self, Nat.reduceLT, Bool.false_eq_true, Nat.add_zero, Nat.zero_add, Nat.reduceAdd, Nat.reduceMul, Nat.reduceSub, Nat.zero_le, Nat.reduceLeDiff, Nat.reduceEqDiff, Nat.le_refl, not_false_eq_true, not_true_eq_false, false_implies, true_implies, forall_const, true_and, and_true, if_true, if_false, implies_true, and_self, ne_eq, false_and, and_false, or_false, false_or, true_or, or_true]
          exact ih (h + 1) _ _ _ M2 (by omega) w1 b1 A1
      · have e : bfO cp n (f + 1) h s = s := if_neg hh
        rw [e]
        exact stop h s z5 z6 M1 (by omega) hh w hb A
  refine key n 0 (bf0 x) none none _ (by omega) (bfw_0 hx hn) ⟨?_, ?_, ?_⟩ (Ag.put (Ag.one (Or.inl ⟨rfl, rfl⟩)) (Or.inr (Or.inl rfl)))
  · rw [gI_sI, if_neg (by omega), gI_sI, if_pos ⟨rfl, rfl⟩]; rfl
  · intro k hk
    have hk : k < 1 := hk
    rw [gI_sI, if_pos ⟨rfl, by omega⟩]; rfl
  · intro j hj hne
    have hj : (1 <<< x).testBit j = true := hj
    rw [Nat.one_shiftLeft, Nat.testBit_two_pow, decide_eq_true_iff] at hj
    exact absurd hj.symm hne
end CB
