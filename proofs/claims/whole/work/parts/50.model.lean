/-! THE LAW'S MODEL: its readers and whether one takes -/
def MR (M : pMem) (u : Nat) (a : Nat → Int32) : Prop := ShM (gS M) (gP M) u ∧ gI M (u + 1) = a
def XMs (u h k : Nat) : Prop := h = u + 5 ∨ (h = u ∧ (k = 11 ∨ (14 ≤ k ∧ k ≤ 17)))
theorem gIr_sI {M : pMem} {h h' k : Nat} {x : Int32} (n : h ≠ h') : gI (sI M h' k x) h = gI M h := funext fun j => by rw [gI_sI, if_neg (fun z => n z.1)]
theorem MR.ag {X : Nat → Nat → Prop} {M M' : pMem} {u : Nat} {a : Nat → Int32} (h : MR M u a) (A : Ag X M M') (n : ∀ k, ¬ X (u + 1) k) : MR M' u a := ⟨by rw [A.S, A.P]; exact h.1, (A.row n).trans h.2⟩
theorem XMs_1 {u : Nat} : ∀ k, ¬ XMs u (u + 1) k := by
  rintro k (h | h) <;> omega
def NeO (a : Nat → Int32) : Prop := ∀ p g, p < nP a → g < nP a → (((pa a p 2 >>> (nN g &&& 31)) &&& nN 1 = nN 1) ↔ ((pa a g 2 >>> (nN p &&& 31)) &&& nN 1 = nN 1))
def TxO (a : Nat → Int32) : Prop := ∀ k, k < nT a → (∃ L, L ≤ 400 ∧ a (940 + 401 * k) = nN L) ∧ ∃ val, TxV (txt a k) val
section MO
variable {d t u q f p g n y x k w : Nat} {a : Nat → Int32} {M M0 M' : pMem} {Q : pOut → pMem → Prop} {am hd en z : Int32} {fc ag : Bool}
theorem w_ofX (h : MR M0 u a) (e : gS M = gS M0) (e2 : gP M = gP M0) (e3 : gI M (u + 1) = gI M0 (u + 1)) (hf : f < 40) (hw : w < 20) : mw (d + 1) 55 [.ref u, .int (nN f), .int (nN w)] M Q = Q (.inl (some (.int (fa a f w)))) M := by
  rw [w_of (by rw [e, e2]; exact h.1) hf hw, e3, h.2]
theorem w_setsX (h : MR M0 u a) (e : gS M = gS M0) (e2 : gP M = gP M0) (hf : f < 40) (hw : w < 20) : mw (d + 1) 56 [.ref u, .int (nN f), .int (nN w), .int z] M Q = Q (.inl none) (sI M (u + 1) (140 + 20 * f + w) z) := by
  have hs : ShM (gS M) (gP M) u := by rw [e, e2]; exact h.1
  have h1 : 140 + 20 * f + w < 3346 := by omega
  have h2 : 140 + 20 * f + w < 2147483648 := by omega
  simp (disch := omega) only [m_56, q_aload0, q_aload0N, q_get_r, pTag_1, pRf_s, q_sipush, q_bipush, q_iload1, q_imul, q_iadd, q_iload2, q_iload3, q_iast, q_vret, e_56_0, L_20, L_140, hs.k0, hs.k1, hs.p1, nN_le, nN_lt, nN_eq, nN_add, nN_mul, nN_lt0, nN_ge0, nN_gt0, nN_le0, nN_eq0, nN_eq1, nN_neN, pIn_n, pIx_n, eq_self, Nat.reduceLT, Bool.false_eq_true, Nat.add_zero, Nat.zero_add, Nat.reduceAdd, Nat.reduceMul, Nat.reduceSub, Nat.zero_le, Nat.reduceLeDiff, Nat.reduceEqDiff, Nat.le_refl, not_false_eq_true, not_true_eq_false, false_implies, true_implies, forall_const, true_and, and_true, if_true, if_false, implies_true, and_self, ne_eq, false_and, and_false, or_false, false_or, true_or, or_true, h1]
theorem w_richX (h : MR M0 u a) (hw : Wf a) (e : gS M = gS M0) (e2 : gP M = gP M0) (e3 : gI M (u + 1) = gI M0 (u + 1)) : mw (d + 2) 82 [.ref u, .int z] M Q = Q (.inl (some (.int (sRich a z)))) M := by
  have e4 : gI M (u + 1) = a := e3.trans h.2
  rw [w_richOf (by rw [e, e2]; exact h.1) (by rw [e4]; exact hw), e4]
theorem w_debtX (h : MR M0 u a) (hw : Wf a) (e : gS M = gS M0) (e2 : gP M = gP M0) (e3 : gI M (u + 1) = gI M0 (u + 1)) : mw (d + 2) 83 [.ref u, .int z] M Q = Q (.inl (some (.int (sDebt a z)))) M := by
  have e4 : gI M (u + 1) = a := e3.trans h.2
  rw [w_debtOf (by rw [e, e2]; exact h.1) (by rw [e4]; exact hw), e4]
theorem w_nearX (h : MR M0 u a) (hx : x < 12) (hy : y < 12) (e : gS M = gS M0) (e2 : gP M = gP M0) (e3 : gI M (u + 1) = gI M0 (u + 1)) : mw (d + 1) 57 [.ref u, .int (nN x), .int (nN y)] M Q = Q (.inl (some (.int (bI ((pa a x 2 >>> (nN y &&& 31)) &&& nN 1 = nN 1))))) M := by
  have e4 : gI M (u + 1) = a := e3.trans h.2
  have hs : ShM (gS M) (gP M) u := by rw [e, e2]; exact h.1
  have h1 : 10 + 3 * x + 2 < 3346 := by omega
  simp (disch := omega) only [m_57, q_aload0, q_aload0N, q_get_r, pTag_1, pRf_s, q_bipush, q_iconst, q_iload1, q_imul, q_iadd, q_iald, q_iload2, q_ishr, q_iand, q_ic_ne, q_goto, q_nop, q_zret, e_57_0, e_57_1, e_57_2, L_0, L_1, L_2, L_3, L_10, hs.k0, hs.k1, hs.p1, nN_le, nN_lt, nN_eq, nN_add, nN_mul, nN_lt0, nN_ge0, nN_gt0, nN_le0, nN_eq0, nN_eq1, nN_neN, pIn_n, pIx_n, eq_self, Nat.reduceLT, Bool.false_eq_true, Nat.add_zero, Nat.zero_add, Nat.reduceAdd, Nat.reduceMul, Nat.reduceSub, Nat.zero_le, Nat.reduceLeDiff, Nat.reduceEqDiff, Nat.le_refl, not_false_eq_true, not_true_eq_false, false_implies, true_implies, forall_const, true_and, and_true, if_true, if_false, implies_true, and_self, ne_eq, false_and, and_false, or_false, false_or, true_or, or_true, h1, e4]
  by_cases c : (pa a x 2 >>> (nN y &&& 31)) &&& nN 1 = nN 1
  · have c' := c
    unfold pa at c'
    simp [c, c', bI, zb_1]
  · have c' := c
    unfold pa at c'
    simp [c, c', bI, zb_0]
def Fm (M : pMem) (u : Nat) (l : List (Nat × Int32)) : Prop := ∀ i x, (i, x) ∈ l → gI M (u + 5) i = x
theorem Fm.put {l : List (Nat × Int32)} {i : Nat} (h : Fm M u l) (hi : ∀ y, (i, y) ∉ l) : Fm (sI M (u + 5) i z) u ((i, z) :: l) := by
  intro j y hj
  simp only [List.mem_cons, Prod.mk.injEq] at hj
  rcases hj with ⟨rfl, rfl⟩ | hj
  · simp [gI_sI]
  · have : j ≠ i := by rintro rfl; exact hi y hj
    rw [gI_sI, if_neg (by simp [this])]
    exact h j y hj
theorem w_takeM (h : MR M u a) (hw : Wf a) (hne : NeO a) (htx : TxO a) (hp : p < nP a) (hg : g < nP a) :
    mw (d + 63) 84 [.ref u, .int (nN p), .int (nN g), .int am, .int hd, .int en, .int (bI (fc = true)), .int (bI (ag = true))] M (fun o M' => o = .inl (some (.int (bI (sTakes a p g am hd en fc ag = true)))) ∧ Ag (XMs u) M M') := by
  have hp' := hw.p'
  have ht' := hw.t'
  have b1 : 10 + 3 * p + 1 < 3346 := by omega
  by_cases c1 : fc = true
  · have e : sTakes a p g am hd en fc ag = true := by simp [sTakes, c1]
    simp (disch := omega) only [m_84, q_aload0, q_aload0N, q_get_r, pTag_1, pRf_s, q_bipush, q_iconst, q_iload1, q_imul, q_iadd, q_iald, q_istore8, q_iload6, q_if_ne, q_iload8, q_ic_ne, q_nop, q_zret, q_iload3, q_iload4, q_invs2_20, q_sipush, q_idiv, q_iast, q_iload5, q_goto, q_isub, q_invv1, inv_1, q_iload2, q_invv2, q_put_z, q_ic_eq, q_iload7, q_get_i, q_istore9, q_istore10, q_istore11, q_istore12, q_istore13, q_put_i, q_iload9, q_iload10, q_iload11, q_iload12, q_iload13, e_84_0, e_84_1, e_84_3, e_84_4, e_84_5, e_84_6, e_84_7, e_84_8, L_0, L_1, L_2, L_3, L_4, L_5, L_6, L_10, L_401, L_940, L_999, L_1024, k_some, k_none, pRm_i, pRm_r, pRm_0, pF_1, pF_2, inv_s, h.1.k0, h.1.k1, h.1.k2, h.1.k3, h.1.k4, h.1.k5, h.1.k6, h.1.k7, h.1.k8, h.1.k9, h.1.k10, h.1.k11, h.1.k12, h.1.k13, h.1.p1, h.1.p2, h.1.p4, h.1.p5, h.1.p13, h.1.p18, h.1.p19, h.1.p20, h.1.p21, h.1.p22, h.1.p23, h.1.p24, h.1.p27, h.2, bI_eq0, c1, b1, nN_le, nN_lt, nN_eq, nN_add, nN_mul, nN_lt0, nN_ge0, nN_gt0, nN_le0, nN_eq0, nN_eq1, nN_neN, pIn_n, pIx_n, eq_self, Nat.reduceLT, Bool.false_eq_true, Nat.add_zero, Nat.zero_add, Nat.reduceAdd, Nat.reduceMul, Nat.reduceSub, Nat.zero_le, Nat.reduceLeDiff, Nat.reduceEqDiff, Nat.le_refl, not_false_eq_true, not_true_eq_false, false_implies, true_implies, forall_const, true_and, and_true, if_true, if_false, implies_true, and_self, ne_eq, false_and, and_false, or_false, false_or, true_or, or_true]
    simp only [c1] at e
    simp [bI, zb_1, Ag.rfl, e]
  by_cases c2 : pa a p 1 = iN (-1)
  · have e : sTakes a p g am hd en fc ag = true := by simp [sTakes, c2]
    have c2' : a (10 + 3 * p + 1) = iN (-1) := c2
    simp (disch := omega) only [m_84, q_aload0, q_aload0N, q_get_r, pTag_1, pRf_s, q_bipush, q_iconst, q_iload1, q_imul, q_iadd, q_iald, q_istore8, q_iload6, q_if_ne, q_iload8, q_ic_ne, q_nop, q_zret, q_iload3, q_iload4, q_invs2_20, q_sipush, q_idiv, q_iast, q_iload5, q_goto, q_isub, q_invv1, inv_1, q_iload2, q_invv2, q_put_z, q_ic_eq, q_iload7, q_get_i, q_istore9, q_istore10, q_istore11, q_istore12, q_istore13, q_put_i, q_iload9, q_iload10, q_iload11, q_iload12, q_iload13, e_84_0, e_84_1, e_84_3, e_84_4, e_84_5, e_84_6, e_84_7, e_84_8, L_0, L_1, L_2, L_3, L_4, L_5, L_6, L_10, L_401, L_940, L_999, L_1024, k_some, k_none, pRm_i, pRm_r, pRm_0, pF_1, pF_2, inv_s, h.1.k0, h.1.k1, h.1.k2, h.1.k3, h.1.k4, h.1.k5, h.1.k6, h.1.k7, h.1.k8, h.1.k9, h.1.k10, h.1.k11, h.1.k12, h.1.k13, h.1.p1, h.1.p2, h.1.p4, h.1.p5, h.1.p13, h.1.p18, h.1.p19, h.1.p20, h.1.p21, h.1.p22, h.1.p23, h.1.p24, h.1.p27, h.2, bI_eq0, c1, c2', b1, nN_le, nN_lt, nN_eq, nN_add, nN_mul, nN_lt0, nN_ge0, nN_gt0, nN_le0, nN_eq0, nN_eq1, nN_neN, pIn_n, pIx_n, eq_self, Nat.reduceLT, Bool.false_eq_true, Nat.add_zero, Nat.zero_add, Nat.reduceAdd, Nat.reduceMul, Nat.reduceSub, Nat.zero_le, Nat.reduceLeDiff, Nat.reduceEqDiff, Nat.le_refl, not_false_eq_true, not_true_eq_false, false_implies, true_implies, forall_const, true_and, and_true, if_true, if_false, implies_true, and_self, ne_eq, false_and, and_false, or_false, false_or, true_or, or_true]
    simp only [c1] at e
    simp [bI, zb_1, Ag.rfl, e]
  obtain ⟨h2, h3⟩ := tmN_ok hw hp c2
  have c2' : a (10 + 3 * p + 1) = nN (tmN a p) := h3
  have c3 : ¬ nN (tmN a p) = iN (-1) := by rw [nN_neN (by omega)]; exact not_false
  obtain ⟨⟨L, hL, hL2⟩, hval⟩ := htx _ h2
  have hv := tvl_ok hval
  have hlen : (txt a (tmN a p)).length = L := by unfold txt; rw [List.length_map, List.length_range, hL2, nN_toInt (by omega)]; omega
  have e : sTakes a p g am hd en fc ag = tv a (tmN a p) (sAsk a p g am hd en ag) := by simp [sTakes, c1, c2]
  rw [e]
  have go6 : ∀ (M5 : pMem) (v : Int32) (l : List (Nat × Int32)), Ag (XMs u) M M5 → v = bI (¬ en = iN (-1)) → (∀ i, i < 6 → gI M5 (u + 5) i = sAsk a p g am hd en ag i) → gI M5 u 14 = sAsk a p g am hd en ag 6 →
      bw (d + 62) 84 6 ([some (.ref u), some (.int (nN p)), some (.int (nN g)), some (.int am), some (.int hd), some (.int en), some (.int (bI (fc = true))), some (.int (bI (ag = true))), some (.int (nN (tmN a p))), none, none, none, none, none], [.int v, .ref u], M5) (fun o M' => o = .inl (some (.int (bI (tv a (tmN a p) (sAsk a p g am hd en ag) = true)))) ∧ Ag (XMs u) M M') := by
    intro M5 v l A5 hv2 f5 f14
    have h5 := h.ag A5 XMs_1
    have b2 : 940 + 401 * tmN a p < 3346 := by omega
    have b3 : nN (940 + 401 * tmN a p + 1) - nN 1 = nN (940 + 401 * tmN a p) := by rw [nN_sub1]; unfold nN; congr 1; omega
    have b4 : u ≠ u + 1 := by omega
    rw [e_84_6]
    simp (disch := first | omega | rfl | (repeat' (first | exact gS_sI | exact gP_sI | refine Eq.trans gS_sI ?_ | refine Eq.trans gP_sI ?_ | refine Eq.trans (gIr_sI (by omega)) ?_ | rfl))) only [q_aload0, q_aload0N, q_get_r, pTag_1, pRf_s, q_bipush, q_iconst, q_iload1, q_imul, q_iadd, q_iald, q_istore8, q_iload6, q_if_ne, q_iload8, q_ic_ne, q_nop, q_zret, q_iload3, q_iload4, q_invs2_20, q_sipush, q_idiv, q_iast, q_iload5, q_goto, q_isub, q_invv1, inv_1, q_iload2, q_invv2, q_put_z, q_ic_eq, q_iload7, q_get_i, q_istore9, q_istore10, q_istore11, q_istore12, q_istore13, q_put_i, q_iload9, q_iload10, q_iload11, q_iload12, q_iload13, e_84_0, e_84_1, e_84_2, e_84_3, e_84_5, L_0, L_1, L_2, L_3, L_4, L_5, L_6, L_10, L_401, L_940, L_999, L_1024, k_some, k_none, pRm_i, pRm_r, pRm_0, pF_1, pF_2, inv_s, h5.1.k0, h5.1.k1, h5.1.k2, h5.1.k3, h5.1.k4, h5.1.k5, h5.1.k6, h5.1.k7, h5.1.k8, h5.1.k9, h5.1.k10, h5.1.k11, h5.1.k12, h5.1.k13, h5.1.p1, h5.1.p2, h5.1.p4, h5.1.p5, h5.1.p13, h5.1.p18, h5.1.p19, h5.1.p20, h5.1.p21, h5.1.p22, h5.1.p23, h5.1.p24, h5.1.p27, h5.2, hv2, bI_z, b2, b3, hL2, gS_sI, gP_sI, gI_sI, Nat.add_left_cancel_iff, Nat.add_eq_left, Nat.left_eq_add, nN_le, nN_lt, nN_eq, nN_add, nN_mul, nN_lt0, nN_ge0, nN_gt0, nN_le0, nN_eq0, nN_eq1, nN_neN, pIn_n, pIx_n, eq_self, Nat.reduceLT, Bool.false_eq_true, Nat.add_zero, Nat.zero_add, Nat.reduceAdd, Nat.reduceMul, Nat.reduceSub, Nat.zero_le, Nat.reduceLeDiff, Nat.reduceEqDiff, Nat.le_refl, not_false_eq_true, not_true_eq_false, false_implies, true_implies, forall_const, true_and, and_true, if_true, if_false, implies_true, and_self, ne_eq, false_and, and_false, or_false, false_or, true_or, or_true]
    generalize hM6 : sI (sI (sI (sI (sI (sI M5 _ _ _) _ _ _) _ _ _) _ _ _) _ _ _) _ _ _ = M6
    have g6 : ∀ k, gI M6 (u + k) = if k = 0 then gI M6 u else gI M5 (u + k) := by
      intro k
      by_cases c : k = 0
      · rw [if_pos c, c]; rfl
      · rw [if_neg c, ← hM6]
        rw [gIr_sI (by omega), gIr_sI (by omega), gIr_sI (by omega), gIr_sI (by omega), gIr_sI (by omega), gIr_sI (by omega)]
    have h6 : MR M6 u a := by
      refine ⟨by rw [← hM6]; exact h5.1, ?_⟩
      rw [g6 1]
      exact h5.2
    have w := hv (d + 2) M6 u (941 + 401 * tmN a p) (sAsk a p g am hd en ag) h6.1 (by rw [← hM6]; simp [gI_sI]; congr 1; omega) (by omega) (by rw [← hM6, hlen]; simp [gI_sI]) (by rw [← hM6]; simp [gI_sI]) (by rw [← hM6]; simp [gI_sI])
      (by
        intro i hi
        rw [h6.2]
        unfold txt at hi ⊢
        rw [List.length_map, List.length_range] at hi
        rw [List.getD_eq_getElem?_getD, List.getElem?_map, List.getElem?_range hi]
        rfl)
      (by intro i hi; rw [g6 5]; exact f5 i hi) (by rw [← hM6]; simp [gI_sI]; exact f14) (by rw [← hM6]; simp [gI_sI]; rfl) (by rw [← hM6]; simp [gI_sI]; rfl) Bl_ask
    refine mw_mono w ?_
    rintro _ M7 ⟨rfl, A7, hs⟩
    have k0 : (gS M7 u).1 = 12 := by rw [A7.S, h6.1.k0]
    have A67 : ∀ k, k ≠ 7 → k ≠ 8 → k ≠ 9 → k ≠ 10 → k ≠ 11 → k ≠ 12 → k ≠ 17 → gI M7 u k = gI M6 u k := fun k h1 h2 h3 h4 h5 h6 h7 => A7.I (by omega)
    have fin : ∀ _ : pMem, Ag (XMs u) M (sI (sI (sI (sI (sI M7 u 10 (gI M5 u 10)) u 7 (gI M5 u 7)) u 8 (gI M5 u 8)) u 9 (gI M5 u 9)) u 12 (gI M5 u 12)) := by
      intro _
      refine A5.trans ⟨?_, ?_, ?_⟩
      · exact ⟨A7.P.trans (by rw [← hM6]; rfl), A7.S.trans (by rw [← hM6]; rfl)⟩
      · exact ⟨A7.J.trans (by rw [← hM6]; rfl), A7.N.trans (by rw [← hM6]; rfl), A7.L.trans (by rw [← hM6]; rfl)⟩
      · intro j i hn
        by_cases c : j = u
        · subst c
          by_cases d1 : i = 12
          · simp [gI_sI, d1]
          by_cases d2 : i = 9
          · simp [gI_sI, d2]
          by_cases d3 : i = 8
          · simp [gI_sI, d3]
          by_cases d4 : i = 7
          · simp [gI_sI, d4]
          by_cases d5 : i = 10
          · simp [gI_sI, d5]
          have d6 : i ≠ 11 := fun z => hn (Or.inr ⟨rfl, Or.inl z⟩)
          have d7 : ¬ (14 ≤ i ∧ i ≤ 17) := fun z => hn (Or.inr ⟨rfl, Or.inr z⟩)
          simp only [gI_sI, d1, d2, d3, d4, d5, and_false, if_false]
          rw [A67 i d4 d3 d2 d5 d6 d1 (by omega), ← hM6]
          have d8 : ¬ i = 15 := by omega
          have d9 : ¬ i = 16 := by omega
          have d10 : ¬ i = 17 := by omega
          simp only [gI_sI, d1, d2, d3, d4, d5, d8, d9, d10, and_false, if_false]
        · simp only [gI_sI, c, false_and, if_false]
          rw [A7.I (by omega), ← hM6]
          simp only [gI_sI, c, false_and, if_false]
    by_cases c9 : gI M7 u 17 = nN 1
    · have e9 := hs.mp c9
      simp (disch := first | omega | rfl | (repeat' (first | exact gS_sI | exact gP_sI | refine Eq.trans gS_sI ?_ | refine Eq.trans gP_sI ?_ | refine Eq.trans (gIr_sI (by omega)) ?_ | rfl))) only [q_aload0, q_aload0N, q_get_r, pTag_1, pRf_s, q_bipush, q_iconst, q_iload1, q_imul, q_iadd, q_iald, q_istore8, q_iload6, q_if_ne, q_iload8, q_ic_ne, q_nop, q_zret, q_iload3, q_iload4, q_invs2_20, q_sipush, q_idiv, q_iast, q_iload5, q_goto, q_isub, q_invv1, inv_1, q_iload2, q_invv2, q_put_z, q_ic_eq, q_iload7, q_get_i, q_istore9, q_istore10, q_istore11, q_istore12, q_istore13, q_put_i, q_iload9, q_iload10, q_iload11, q_iload12, q_iload13, e_84_0, e_84_1, e_84_2, e_84_3, e_84_5, e_84_7, e_84_8, L_0, L_1, L_2, L_3, L_4, L_5, L_6, L_10, L_401, L_940, L_999, L_1024, k_some, k_none, pRm_i, pRm_r, pRm_0, pF_1, pF_2, inv_s, k0, c9, gS_sI, gP_sI, gI_sI, Nat.add_left_cancel_iff, Nat.add_eq_left, Nat.left_eq_add, nN_le, nN_lt, nN_eq, nN_add, nN_mul, nN_lt0, nN_ge0, nN_gt0, nN_le0, nN_eq0, nN_eq1, nN_neN, pIn_n, pIx_n, eq_self, Nat.reduceLT, Bool.false_eq_true, Nat.add_zero, Nat.zero_add, Nat.reduceAdd, Nat.reduceMul, Nat.reduceSub, Nat.zero_le, Nat.reduceLeDiff, Nat.reduceEqDiff, Nat.le_refl, not_false_eq_true, not_true_eq_false, false_implies, true_implies, forall_const, true_and, and_true, if_true, if_false, implies_true, and_self, ne_eq, false_and, and_false, or_false, false_or, true_or, or_true]
      refine ⟨by simp [bI, e9, tv], fin M⟩
    · have e9 : ¬ tvl (txt a (tmN a p)) (sAsk a p g am hd en ag) = true := fun z => c9 (hs.mpr z)
      simp (disch := first | omega | rfl | (repeat' (first | exact gS_sI | exact gP_sI | refine Eq.trans gS_sI ?_ | refine Eq.trans gP_sI ?_ | refine Eq.trans (gIr_sI (by omega)) ?_ | rfl))) only [q_aload0, q_aload0N, q_get_r, pTag_1, pRf_s, q_bipush, q_iconst, q_iload1, q_imul, q_iadd, q_iald, q_istore8, q_iload6, q_if_ne, q_iload8, q_ic_ne, q_nop, q_zret, q_iload3, q_iload4, q_invs2_20, q_sipush, q_idiv, q_iast, q_iload5, q_goto, q_isub, q_invv1, inv_1, q_iload2, q_invv2, q_put_z, q_ic_eq, q_iload7, q_get_i, q_istore9, q_istore10, q_istore11, q_istore12, q_istore13, q_put_i, q_iload9, q_iload10, q_iload11, q_iload12, q_iload13, e_84_0, e_84_1, e_84_2, e_84_3, e_84_5, e_84_7, e_84_8, L_0, L_1, L_2, L_3, L_4, L_5, L_6, L_10, L_401, L_940, L_999, L_1024, k_some, k_none, pRm_i, pRm_r, pRm_0, pF_1, pF_2, inv_s, k0, c9, gS_sI, gP_sI, gI_sI, Nat.add_left_cancel_iff, Nat.add_eq_left, Nat.left_eq_add, nN_le, nN_lt, nN_eq, nN_add, nN_mul, nN_lt0, nN_ge0, nN_gt0, nN_le0, nN_eq0, nN_eq1, nN_neN, pIn_n, pIx_n, eq_self, Nat.reduceLT, Bool.false_eq_true, Nat.add_zero, Nat.zero_add, Nat.reduceAdd, Nat.reduceMul, Nat.reduceSub, Nat.zero_le, Nat.reduceLeDiff, Nat.reduceEqDiff, Nat.le_refl, not_false_eq_true, not_true_eq_false, false_implies, true_implies, forall_const, true_and, and_true, if_true, if_false, implies_true, and_self, ne_eq, false_and, and_false, or_false, false_or, true_or, or_true]
      refine ⟨by simp [bI, e9, tv], fin M⟩
  have go4 : ∀ (M3 : pMem) (v : Int32) (l : List (Nat × Int32)), Ag (XMs u) M M3 → v = (if en = iN (-1) then nN 999 else en - a 6) → Fm M3 u [(2, hd), (1, am), (0, sWorth am hd / nN 1024)] →
      bw (d + 62) 84 4 ([some (.ref u), some (.int (nN p)), some (.int (nN g)), some (.int am), some (.int hd), some (.int en), some (.int (bI (fc = true))), some (.int (bI (ag = true))), some (.int (nN (tmN a p))), none, none, none, none, none], [.int v, .int (nN 3), .ref (u + 5)], M3) (fun o M' => o = .inl (some (.int (bI (tv a (tmN a p) (sAsk a p g am hd en ag) = true)))) ∧ Ag (XMs u) M M') := by
    intro M3 v l A3 hv3 F3
    have h3 := h.ag A3 XMs_1
    have b4 : u ≠ u + 1 := by omega
    have fin : ∀ _ : pMem, bw (d + 62) 84 6 ([some (.ref u), some (.int (nN p)), some (.int (nN g)), some (.int am), some (.int hd), some (.int en), some (.int (bI (fc = true))), some (.int (bI (ag = true))), some (.int (nN (tmN a p))), none, none, none, none, none], [.int (bI (¬ en = iN (-1))), .ref u], sI (sI (sI (sI M3 (u + 5) 3 v) (u + 5) 4 (sRich a (nN p) / nN 1024)) (u + 5) 5 (sDebt a (nN g))) u 14 (bI ((pa a g 2 >>> (nN p &&& 31)) &&& nN 1 = nN 1))) (fun o M' => o = .inl (some (.int (bI (tv a (tmN a p) (sAsk a p g am hd en ag) = true)))) ∧ Ag (XMs u) M M') := by
      intro _
      have F6 := ((F3.put (i := 3) (z := v) (by simp)).put (i := 4) (z := sRich a (nN p) / nN 1024) (by simp)).put (i := 5) (z := sDebt a (nN g)) (by simp)
      refine go6 _ _ [] (Ag.put (Ag.put (Ag.put (Ag.put A3 (Or.inl (by omega))) (Or.inl (by omega))) (Or.inl (by omega))) (Or.inr (by omega))) rfl (fun i hi => ?_) ?_
      · rw [gIr_sI (by omega)]
        have : i = 0 ∨ i = 1 ∨ i = 2 ∨ i = 3 ∨ i = 4 ∨ i = 5 := by omega
        rcases this with rfl | rfl | rfl | rfl | rfl | rfl
        · rw [F6 0 (sWorth am hd / nN 1024) (by simp)]; rfl
        · rw [F6 1 am (by simp)]; rfl
        · rw [F6 2 hd (by simp)]; rfl
        · rw [F6 3 v (by simp), hv3]; rfl
        · rw [F6 4 (sRich a (nN p) / nN 1024) (by simp)]; rfl
        · rw [F6 5 (sDebt a (nN g)) (by simp)]; rfl
      · rw [gI_sI, if_pos ⟨rfl, rfl⟩]
        show _ = bI ((pa a p 2 >>> (nN g &&& 31)) &&& nN 1 = nN 1)
        have hn := hne p g hp hg
        by_cases c : (pa a p 2 >>> (nN g &&& 31)) &&& nN 1 = nN 1
        · simp [bI, c, hn.mp c]
        · have c' : ¬ (pa a g 2 >>> (nN p &&& 31)) &&& nN 1 = nN 1 := fun z => c (hn.mpr z)
          simp [bI, c, c']
    rw [e_84_4]
    by_cases c : en = iN (-1)
    · have e2 : nN 0 = bI (¬ en = iN (-1)) := by simp [bI, c]
      simp (disch := first | omega | rfl | (repeat' (first | exact gS_sI | exact gP_sI | refine Eq.trans gS_sI ?_ | refine Eq.trans gP_sI ?_ | refine Eq.trans (gIr_sI (by omega)) ?_ | rfl))) only [q_aload0, q_aload0N, q_get_r, pTag_1, pRf_s, q_bipush, q_iconst, q_iload1, q_imul, q_iadd, q_iald, q_istore8, q_iload6, q_if_ne, q_iload8, q_ic_ne, q_nop, q_zret, q_iload3, q_iload4, q_invs2_20, q_sipush, q_idiv, q_iast, q_iload5, q_goto, q_isub, q_invv1, inv_1, q_iload2, q_invv2, q_put_z, q_ic_eq, q_iload7, q_get_i, q_istore9, q_istore10, q_istore11, q_istore12, q_istore13, q_put_i, q_iload9, q_iload10, q_iload11, q_iload12, q_iload13, e_84_0, e_84_1, e_84_2, e_84_3, e_84_5, e_84_7, e_84_8, L_0, L_1, L_2, L_3, L_4, L_5, L_6, L_10, L_401, L_940, L_999, L_1024, k_some, k_none, pRm_i, pRm_r, pRm_0, pF_1, pF_2, inv_s, h3.1.k0, h3.1.k1, h3.1.k2, h3.1.k3, h3.1.k4, h3.1.k5, h3.1.k6, h3.1.k7, h3.1.k8, h3.1.k9, h3.1.k10, h3.1.k11, h3.1.k12, h3.1.k13, h3.1.p1, h3.1.p2, h3.1.p4, h3.1.p5, h3.1.p13, h3.1.p18, h3.1.p19, h3.1.p20, h3.1.p21, h3.1.p22, h3.1.p23, h3.1.p24, h3.1.p27, h3.2, w_richX h3 hw, w_debtX h3 hw, w_nearX h3, bI_z, c, gS_sI, gP_sI, gI_sI, Nat.add_left_cancel_iff, Nat.add_eq_left, Nat.left_eq_add, nN_le, nN_lt, nN_eq, nN_add, nN_mul, nN_lt0, nN_ge0, nN_gt0, nN_le0, nN_eq0, nN_eq1, nN_neN, pIn_n, pIx_n, eq_self, Nat.reduceLT, Bool.false_eq_true, Nat.add_zero, Nat.zero_add, Nat.reduceAdd, Nat.reduceMul, Nat.reduceSub, Nat.zero_le, Nat.reduceLeDiff, Nat.reduceEqDiff, Nat.le_refl, not_false_eq_true, not_true_eq_false, false_implies, true_implies, forall_const, true_and, and_true, if_true, if_false, implies_true, and_self, ne_eq, false_and, and_false, or_false, false_or, true_or, or_true]
      rw [e2]
      simp only [c] at fin ⊢
      exact fin M
    · have e2 : nN 1 = bI (¬ en = iN (-1)) := by simp [bI, c]
      simp (disch := first | omega | rfl | (repeat' (first | exact gS_sI | exact gP_sI | refine Eq.trans gS_sI ?_ | refine Eq.trans gP_sI ?_ | refine Eq.trans (gIr_sI (by omega)) ?_ | rfl))) only [q_aload0, q_aload0N, q_get_r, pTag_1, pRf_s, q_bipush, q_iconst, q_iload1, q_imul, q_iadd, q_iald, q_istore8, q_iload6, q_if_ne, q_iload8, q_ic_ne, q_nop, q_zret, q_iload3, q_iload4, q_invs2_20, q_sipush, q_idiv, q_iast, q_iload5, q_goto, q_isub, q_invv1, inv_1, q_iload2, q_invv2, q_put_z, q_ic_eq, q_iload7, q_get_i, q_istore9, q_istore10, q_istore11, q_istore12, q_istore13, q_put_i, q_iload9, q_iload10, q_iload11, q_iload12, q_iload13, e_84_0, e_84_1, e_84_2, e_84_3, e_84_5, e_84_7, e_84_8, L_0, L_1, L_2, L_3, L_4, L_5, L_6, L_10, L_401, L_940, L_999, L_1024, k_some, k_none, pRm_i, pRm_r, pRm_0, pF_1, pF_2, inv_s, h3.1.k0, h3.1.k1, h3.1.k2, h3.1.k3, h3.1.k4, h3.1.k5, h3.1.k6, h3.1.k7, h3.1.k8, h3.1.k9, h3.1.k10, h3.1.k11, h3.1.k12, h3.1.k13, h3.1.p1, h3.1.p2, h3.1.p4, h3.1.p5, h3.1.p13, h3.1.p18, h3.1.p19, h3.1.p20, h3.1.p21, h3.1.p22, h3.1.p23, h3.1.p24, h3.1.p27, h3.2, w_richX h3 hw, w_debtX h3 hw, w_nearX h3, bI_z, c, gS_sI, gP_sI, gI_sI, Nat.add_left_cancel_iff, Nat.add_eq_left, Nat.left_eq_add, nN_le, nN_lt, nN_eq, nN_add, nN_mul, nN_lt0, nN_ge0, nN_gt0, nN_le0, nN_eq0, nN_eq1, nN_neN, pIn_n, pIx_n, eq_self, Nat.reduceLT, Bool.false_eq_true, Nat.add_zero, Nat.zero_add, Nat.reduceAdd, Nat.reduceMul, Nat.reduceSub, Nat.zero_le, Nat.reduceLeDiff, Nat.reduceEqDiff, Nat.le_refl, not_false_eq_true, not_true_eq_false, false_implies, true_implies, forall_const, true_and, and_true, if_true, if_false, implies_true, and_self, ne_eq, false_and, and_false, or_false, false_or, true_or, or_true]
      have q9 := fin M
      rw [← e2] at q9
      exact q9
  have F0 : Fm (sI (sI (sI M (u + 5) 0 (sWorth am hd / nN 1024)) (u + 5) 1 am) (u + 5) 2 hd) u [(2, hd), (1, am), (0, sWorth am hd / nN 1024)] := ((Fm.put (l := []) (fun _ _ z => nomatch z) (by simp)).put (by simp)).put (by simp)
  have A0 : Ag (XMs u) M (sI (sI (sI M (u + 5) 0 (sWorth am hd / nN 1024)) (u + 5) 1 am) (u + 5) 2 hd) := Ag.put (Ag.put (Ag.one (Or.inl (by omega))) (Or.inl (by omega))) (Or.inl (by omega))
  by_cases c : en = iN (-1)
  · simp (disch := first | omega | rfl | (repeat' (first | exact gS_sI | exact gP_sI | refine Eq.trans gS_sI ?_ | refine Eq.trans gP_sI ?_ | refine Eq.trans (gIr_sI (by omega)) ?_ | rfl))) only [m_84, q_aload0, q_aload0N, q_get_r, pTag_1, pRf_s, q_bipush, q_iconst, q_iload1, q_imul, q_iadd, q_iald, q_istore8, q_iload6, q_if_ne, q_iload8, q_ic_ne, q_nop, q_zret, q_iload3, q_iload4, q_invs2_20, q_sipush, q_idiv, q_iast, q_iload5, q_goto, q_isub, q_invv1, inv_1, q_iload2, q_invv2, q_put_z, q_ic_eq, q_iload7, q_get_i, q_istore9, q_istore10, q_istore11, q_istore12, q_istore13, q_put_i, q_iload9, q_iload10, q_iload11, q_iload12, q_iload13, e_84_0, e_84_2, e_84_3, e_84_5, e_84_7, e_84_8, L_0, L_1, L_2, L_3, L_4, L_5, L_6, L_10, L_401, L_940, L_999, L_1024, k_some, k_none, pRm_i, pRm_r, pRm_0, pF_1, pF_2, inv_s, h.1.k0, h.1.k1, h.1.k2, h.1.k3, h.1.k4, h.1.k5, h.1.k6, h.1.k7, h.1.k8, h.1.k9, h.1.k10, h.1.k11, h.1.k12, h.1.k13, h.1.p1, h.1.p2, h.1.p4, h.1.p5, h.1.p13, h.1.p18, h.1.p19, h.1.p20, h.1.p21, h.1.p22, h.1.p23, h.1.p24, h.1.p27, h.2, w_worthOf, bI_eq0, c1, c2', c3, b1, c, gS_sI, gP_sI, gI_sI, Nat.add_left_cancel_iff, Nat.add_eq_left, Nat.left_eq_add, nN_le, nN_lt, nN_eq, nN_add, nN_mul, nN_lt0, nN_ge0, nN_gt0, nN_le0, nN_eq0, nN_eq1, nN_neN, pIn_n, pIx_n, eq_self, Nat.reduceLT, Bool.false_eq_true, Nat.add_zero, Nat.zero_add, Nat.reduceAdd, Nat.reduceMul, Nat.reduceSub, Nat.zero_le, Nat.reduceLeDiff, Nat.reduceEqDiff, Nat.le_refl, not_false_eq_true, not_true_eq_false, false_implies, true_implies, forall_const, true_and, and_true, if_true, if_false, implies_true, and_self, ne_eq, false_and, and_false, or_false, false_or, true_or, or_true]
    simp only [c, c1, Bool.false_eq_true] at go4
    exact go4 _ (nN 999) [] A0 (by simp) F0
  · simp (disch := first | omega | rfl | (repeat' (first | exact gS_sI | exact gP_sI | refine Eq.trans gS_sI ?_ | refine Eq.trans gP_sI ?_ | refine Eq.trans (gIr_sI (by omega)) ?_ | rfl))) only [m_84, q_aload0, q_aload0N, q_get_r, pTag_1, pRf_s, q_bipush, q_iconst, q_iload1, q_imul, q_iadd, q_iald, q_istore8, q_iload6, q_if_ne, q_iload8, q_ic_ne, q_nop, q_zret, q_iload3, q_iload4, q_invs2_20, q_sipush, q_idiv, q_iast, q_iload5, q_goto, q_isub, q_invv1, inv_1, q_iload2, q_invv2, q_put_z, q_ic_eq, q_iload7, q_get_i, q_istore9, q_istore10, q_istore11, q_istore12, q_istore13, q_put_i, q_iload9, q_iload10, q_iload11, q_iload12, q_iload13, e_84_0, e_84_2, e_84_3, e_84_5, e_84_7, e_84_8, L_0, L_1, L_2, L_3, L_4, L_5, L_6, L_10, L_401, L_940, L_999, L_1024, k_some, k_none, pRm_i, pRm_r, pRm_0, pF_1, pF_2, inv_s, h.1.k0, h.1.k1, h.1.k2, h.1.k3, h.1.k4, h.1.k5, h.1.k6, h.1.k7, h.1.k8, h.1.k9, h.1.k10, h.1.k11, h.1.k12, h.1.k13, h.1.p1, h.1.p2, h.1.p4, h.1.p5, h.1.p13, h.1.p18, h.1.p19, h.1.p20, h.1.p21, h.1.p22, h.1.p23, h.1.p24, h.1.p27, h.2, w_worthOf, bI_eq0, c1, c2', c3, b1, c, gS_sI, gP_sI, gI_sI, Nat.add_left_cancel_iff, Nat.add_eq_left, Nat.left_eq_add, nN_le, nN_lt, nN_eq, nN_add, nN_mul, nN_lt0, nN_ge0, nN_gt0, nN_le0, nN_eq0, nN_eq1, nN_neN, pIn_n, pIx_n, eq_self, Nat.reduceLT, Bool.false_eq_true, Nat.add_zero, Nat.zero_add, Nat.reduceAdd, Nat.reduceMul, Nat.reduceSub, Nat.zero_le, Nat.reduceLeDiff, Nat.reduceEqDiff, Nat.le_refl, not_false_eq_true, not_true_eq_false, false_implies, true_implies, forall_const, true_and, and_true, if_true, if_false, implies_true, and_self, ne_eq, false_and, and_false, or_false, false_or, true_or, or_true]
    simp only [c1, Bool.false_eq_true] at go4
    exact go4 _ (en - a 6) [] A0 (by simp [c]) F0
end MO
