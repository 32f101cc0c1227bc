/-! THE LAW'S MODEL: meets, witness -/
def XMb (u h k : Nat) : Prop := XMw u h k ∨ (h = u ∧ k = 26)
def XMv (u h k : Nat) : Prop := XMs u h k ∨ h = u + 13
/-- only holders differ -/
def Hd (a b : Nat → Int32) : Prop := ∀ j, (∀ f, f < nF a → j ≠ 140 + 20 * f + 2) → b j = a j
theorem Hd.rfl {a : Nat → Int32} : Hd a a := fun _ _ => Eq.refl _
theorem sLets_hd {a : Nat → Int32} {set : Int32} (hw : Wf a) : Hd a (sLets a set).1 := by
  refine lp_inv (f := sLetF set) (P := fun _ s => Hd a s.1) (nF a) 0 (a, nN 0) Hd.rfl (fun i s h1 h2 h3 => ?_)
  unfold sLetF
  split
  · intro j hj
    rw [← h3 j hj]
    exact if_neg (hj i (by omega))
  · exact h3
theorem Gn.ne {a b : Nat → Int32} (h : Gn a b) (hp : nP a ≤ 12) (n : NeO a) : NeO b := by
  intro p g h1 h2
  rw [lo_nP h.1] at h1 h2
  rw [lo_pa h.1 (by omega) (by omega), lo_pa h.1 (by omega) (by omega)]
  exact n p g h1 h2
theorem Gn.tx {a b : Nat → Int32} (h : Gn a b) (n : TxO a) : TxO b := by
  intro k hk
  rw [lo_nT h.1] at hk
  rw [h.2 _ (by omega), txt_hi h.2]
  exact n k hk
theorem Gn.dy {a b : Nat → Int32} (h : Gn a b) (n : DyO a) : DyO b := by
  obtain ⟨D, h1, h2⟩ := n
  exact ⟨D, h1, by rw [h.1 6 (by omega)]; exact h2⟩
section MT
variable {d t u q f p g n y x k w dd : Nat} {a : Nat → Int32} {M M0 M' : pMem} {Q : pOut → pMem → Prop} {am hd en z set : Int32} {fc ag : Bool}
theorem sSet_ne (hw : Wf a) {b : Nat} (h : sPays a x y n = some b) : sCanP a b y = true ∧ ¬ sPassV a b y = iN (-1) ∧ sPassA a b y = sCome a b y := by
  obtain ⟨h1, h2, h3⟩ := sPays_ok h
  obtain ⟨g1, g2, g3⟩ := sGoTo_ok h3
  obtain ⟨m, m1, m2, m3⟩ := hw.fA b h1
  obtain ⟨e1, -⟩ := sMay_k hw h1 g1
  refine ⟨by simp [sCanP, g1, g3], ?_, if_neg g2⟩
  rw [sPassV, if_neg g2, m3]
  exact worth_pos ⟨m, by omega⟩ ⟨fD a b + 1, by omega⟩
theorem w_meetsM (h : MR M u a) (hw : Wf a) (hne : NeO a) (htx : TxO a) (hd9 : DyO a) (hx : x < nP a) (hy : y < nP a) (hn : n < 100) :
    mw (d + 70) 109 [.ref u, .int (nN x), .int (nN y), .int (nN n)] M (fun o M' => o = .inl (some (.int (sSet a x y n).2)) ∧ (MR M' u (sSet a x y n).1 ∧ gI M' u 26 = bI ((sPays a x y n).isSome = true)) ∧ Ag (XMb u) M M') := by
  have hp' := hw.p'
  have hf' := hw.f'
  have b5 : u + 1 ≠ u := by omega
  simp (disch := first | omega | rfl | (repeat' (first | exact gS_sI | exact gP_sI | refine Eq.trans gS_sI ?_ | refine Eq.trans gP_sI ?_ | refine Eq.trans (gIr_sI (by omega)) ?_ | rfl))) only [m_109, q_aload0, q_aload0N, q_iload1, q_iload2, q_iload3, q_invv3, inv_1, q_istore4, q_iload4, q_iconst, q_ic_eq, q_goto, q_nop, q_put_z, pTag_1, q_ic_ne, q_invv5, q_iret, q_invv2, e_109_0, L_0, L_1, k_some, k_none, pRm_i, pRm_r, pRm_0, pF_1, pF_2, inv_s, h.1.k0, h.1.k1, h.1.k2, h.1.k3, h.1.k4, h.1.k5, h.1.k6, h.1.k7, h.1.k8, h.1.k9, h.1.k10, h.1.k11, h.1.k12, h.1.k13, h.1.p1, h.1.p2, h.1.p4, h.1.p5, h.1.p13, h.1.p18, h.1.p19, h.1.p20, h.1.p21, h.1.p22, h.1.p23, h.1.p24, h.1.p27, h.2, nN_le, nN_lt, nN_eq, nN_add, nN_mul, nN_lt0, nN_ge0, nN_gt0, nN_le0, nN_eq0, nN_eq1, nN_neN, pIn_n, pIx_n, eq_self, Nat.reduceLT, Bool.false_eq_true, Nat.add_zero, Nat.zero_add, Nat.reduceAdd, Nat.reduceMul, Nat.reduceSub, Nat.zero_le, Nat.reduceLeDiff, Nat.reduceEqDiff, Nat.le_refl, not_false_eq_true, not_true_eq_false, false_implies, true_implies, forall_const, true_and, and_true, if_true, if_false, implies_true, and_self, ne_eq, false_and, and_false, or_false, false_or, true_or, or_true]
  refine mw_mono (w_paysM h hw hne htx hx hy hn) ?_
  rintro _ M1 ⟨rfl, A1⟩
  have h1 := h.ag A1 XMs_1
  have n26 : ∀ _ : Nat, ¬ XMw u u 26 := by
    rintro _ (z | z)
    · rcases z with z | z <;> omega
    · omega
  cases c : sPays a x y n with
  | some b =>
    obtain ⟨hb, hb9, hb8⟩ := sPays_ok c
    obtain ⟨hc1, hc2, hc3⟩ := sSet_ne hw c
    have hb2 : ¬ nN b = iN (-1) := by rw [nN_neN (by omega)]; exact not_false
    have e : sSet a x y n = (sCome a b y, nN b) := by simp [sSet, c]
    rw [e]
    simp (disch := first | omega | rfl | (repeat' (first | exact gS_sI | exact gP_sI | refine Eq.trans gS_sI ?_ | refine Eq.trans gP_sI ?_ | refine Eq.trans (gIr_sI (by omega)) ?_ | rfl))) only [q_aload0, q_aload0N, q_iload1, q_iload2, q_iload3, q_invv3, inv_1, q_istore4, q_iload4, q_iconst, q_ic_eq, q_goto, q_nop, q_put_z, pTag_1, q_ic_ne, q_invv5, q_iret, q_invv2, e_109_0, e_109_1, e_109_2, e_109_3, L_0, L_1, k_some, k_none, pRm_i, pRm_r, pRm_0, pF_1, pF_2, inv_s, oI, hb2, zb_1, h1.1.k0, h1.1.k1, h1.1.k2, h1.1.k3, h1.1.k4, h1.1.k5, h1.1.k6, h1.1.k7, h1.1.k8, h1.1.k9, h1.1.k10, h1.1.k11, h1.1.k12, h1.1.k13, h1.1.p1, h1.1.p2, h1.1.p4, h1.1.p5, h1.1.p13, h1.1.p18, h1.1.p19, h1.1.p20, h1.1.p21, h1.1.p22, h1.1.p23, h1.1.p24, h1.1.p27, h1.2, gS_sI, gP_sI, gI_sI, Nat.add_left_cancel_iff, Nat.add_eq_left, Nat.left_eq_add, nN_le, nN_lt, nN_eq, nN_add, nN_mul, nN_lt0, nN_ge0, nN_gt0, nN_le0, nN_eq0, nN_eq1, nN_neN, pIn_n, pIx_n, eq_self, Nat.reduceLT, Bool.false_eq_true, Nat.add_zero, Nat.zero_add, Nat.reduceAdd, Nat.reduceMul, Nat.reduceSub, Nat.zero_le, Nat.reduceLeDiff, Nat.reduceEqDiff, Nat.le_refl, not_false_eq_true, not_true_eq_false, false_implies, true_implies, forall_const, true_and, and_true, if_true, if_false, implies_true, and_self, ne_eq, false_and, and_false, or_false, false_or, true_or, or_true]
    have h2 : MR (sI M1 u 26 (nN 1)) u a := ⟨h1.1, (gIr_sI b5).trans h1.2⟩
    have A2 : Ag (XMb u) M (sI M1 u 26 (nN 1)) := Ag.put (A1.mono fun h k z => Or.inl (Or.inl z)) (Or.inr ⟨rfl, rfl⟩)
    refine mw_mono (w_passesM h2 hw hne htx hb hy) ?_
    rintro o M3 ⟨h3, A3⟩
    rw [if_pos hc1, hc3] at h3
    obtain ⟨rfl, h3⟩ := h3
    simp (disch := first | omega | rfl | (repeat' (first | exact gS_sI | exact gP_sI | refine Eq.trans gS_sI ?_ | refine Eq.trans gP_sI ?_ | refine Eq.trans (gIr_sI (by omega)) ?_ | rfl))) only [q_aload0, q_aload0N, q_iload1, q_iload2, q_iload3, q_invv3, inv_1, q_istore4, q_iload4, q_iconst, q_ic_eq, q_goto, q_nop, q_put_z, pTag_1, q_ic_ne, q_invv5, q_iret, q_invv2, e_109_0, e_109_4, e_109_5, L_0, L_1, k_some, k_none, pRm_i, pRm_r, pRm_0, pF_1, pF_2, inv_s, hc2, nN_le, nN_lt, nN_eq, nN_add, nN_mul, nN_lt0, nN_ge0, nN_gt0, nN_le0, nN_eq0, nN_eq1, nN_neN, pIn_n, pIx_n, eq_self, Nat.reduceLT, Bool.false_eq_true, Nat.add_zero, Nat.zero_add, Nat.reduceAdd, Nat.reduceMul, Nat.reduceSub, Nat.zero_le, Nat.reduceLeDiff, Nat.reduceEqDiff, Nat.le_refl, not_false_eq_true, not_true_eq_false, false_implies, true_implies, forall_const, true_and, and_true, if_true, if_false, implies_true, and_self, ne_eq, false_and, and_false, or_false, false_or, true_or, or_true]
    refine ⟨⟨h3, ?_⟩, A2.trans (A3.mono fun h k z => Or.inl z)⟩
    rw [A3.I (n26 0), gI_sI, if_pos ⟨rfl, rfl⟩]
    simp [bI]
  | none =>
    simp (disch := first | omega | rfl | (repeat' (first | exact gS_sI | exact gP_sI | refine Eq.trans gS_sI ?_ | refine Eq.trans gP_sI ?_ | refine Eq.trans (gIr_sI (by omega)) ?_ | rfl))) only [q_aload0, q_aload0N, q_iload1, q_iload2, q_iload3, q_invv3, inv_1, q_istore4, q_iload4, q_iconst, q_ic_eq, q_goto, q_nop, q_put_z, pTag_1, q_ic_ne, q_invv5, q_iret, q_invv2, e_109_0, e_109_1, e_109_2, L_0, L_1, k_some, k_none, pRm_i, pRm_r, pRm_0, pF_1, pF_2, inv_s, oI, zb_0, h1.1.k0, h1.1.k1, h1.1.k2, h1.1.k3, h1.1.k4, h1.1.k5, h1.1.k6, h1.1.k7, h1.1.k8, h1.1.k9, h1.1.k10, h1.1.k11, h1.1.k12, h1.1.k13, h1.1.p1, h1.1.p2, h1.1.p4, h1.1.p5, h1.1.p13, h1.1.p18, h1.1.p19, h1.1.p20, h1.1.p21, h1.1.p22, h1.1.p23, h1.1.p24, h1.1.p27, h1.2, gS_sI, gP_sI, gI_sI, Nat.add_left_cancel_iff, Nat.add_eq_left, Nat.left_eq_add, nN_le, nN_lt, nN_eq, nN_add, nN_mul, nN_lt0, nN_ge0, nN_gt0, nN_le0, nN_eq0, nN_eq1, nN_neN, pIn_n, pIx_n, eq_self, Nat.reduceLT, Bool.false_eq_true, Nat.add_zero, Nat.zero_add, Nat.reduceAdd, Nat.reduceMul, Nat.reduceSub, Nat.zero_le, Nat.reduceLeDiff, Nat.reduceEqDiff, Nat.le_refl, not_false_eq_true, not_true_eq_false, false_implies, true_implies, forall_const, true_and, and_true, if_true, if_false, implies_true, and_self, ne_eq, false_and, and_false, or_false, false_or, true_or, or_true]
    have h2 : MR (sI M1 u 26 (nN 0)) u a := ⟨h1.1, (gIr_sI b5).trans h1.2⟩
    have A2 : Ag (XMb u) M (sI M1 u 26 (nN 0)) := Ag.put (A1.mono fun h k z => Or.inl (Or.inl z)) (Or.inr ⟨rfl, rfl⟩)
    have w := w_givesM (d := d + 3) (n := n) (dd := 0) (fc := false) h2 hw hne htx hd9 hx hy hn (by omega)
    have e0 : bI (false = true) = nN 0 := by simp [bI]
    rw [e0] at w
    refine mw_mono w ?_
    rintro o M3 ⟨h3, A3⟩
    have f26 : gI M3 u 26 = bI ((none : Option Nat).isSome = true) := by
      rw [A3.I (n26 0), gI_sI, if_pos ⟨rfl, rfl⟩]
      simp [bI]
    by_cases c2 : sCanGive a x y n 0 false = true
    · rw [if_pos c2] at h3
      obtain ⟨rfl, h3⟩ := h3
      have e : sSet a x y n = (gTail a x y n 0 false, nN (nF a)) := by simp [sSet, c, c2]
      rw [e]
      simp (disch := first | omega | rfl | (repeat' (first | exact gS_sI | exact gP_sI | refine Eq.trans gS_sI ?_ | refine Eq.trans gP_sI ?_ | refine Eq.trans (gIr_sI (by omega)) ?_ | rfl))) only [q_aload0, q_aload0N, q_iload1, q_iload2, q_iload3, q_invv3, inv_1, q_istore4, q_iload4, q_iconst, q_ic_eq, q_goto, q_nop, q_put_z, pTag_1, q_ic_ne, q_invv5, q_iret, q_invv2, e_109_0, e_109_4, e_109_5, L_0, L_1, k_some, k_none, pRm_i, pRm_r, pRm_0, pF_1, pF_2, inv_s, nN_le, nN_lt, nN_eq, nN_add, nN_mul, nN_lt0, nN_ge0, nN_gt0, nN_le0, nN_eq0, nN_eq1, nN_neN, pIn_n, pIx_n, eq_self, Nat.reduceLT, Bool.false_eq_true, Nat.add_zero, Nat.zero_add, Nat.reduceAdd, Nat.reduceMul, Nat.reduceSub, Nat.zero_le, Nat.reduceLeDiff, Nat.reduceEqDiff, Nat.le_refl, not_false_eq_true, not_true_eq_false, false_implies, true_implies, forall_const, true_and, and_true, if_true, if_false, implies_true, and_self, ne_eq, false_and, and_false, or_false, false_or, true_or, or_true]
      exact ⟨⟨h3, f26⟩, A2.trans (A3.mono fun h k z => Or.inl z)⟩
    · rw [if_neg c2] at h3
      obtain ⟨rfl, h3⟩ := h3
      have e : sSet a x y n = (a, iN (-1)) := by simp [sSet, c, c2]
      rw [e]
      simp (disch := first | omega | rfl | (repeat' (first | exact gS_sI | exact gP_sI | refine Eq.trans gS_sI ?_ | refine Eq.trans gP_sI ?_ | refine Eq.trans (gIr_sI (by omega)) ?_ | rfl))) only [q_aload0, q_aload0N, q_iload1, q_iload2, q_iload3, q_invv3, inv_1, q_istore4, q_iload4, q_iconst, q_ic_eq, q_goto, q_nop, q_put_z, pTag_1, q_ic_ne, q_invv5, q_iret, q_invv2, e_109_0, e_109_4, e_109_5, L_0, L_1, k_some, k_none, pRm_i, pRm_r, pRm_0, pF_1, pF_2, inv_s, nN_le, nN_lt, nN_eq, nN_add, nN_mul, nN_lt0, nN_ge0, nN_gt0, nN_le0, nN_eq0, nN_eq1, nN_neN, pIn_n, pIx_n, eq_self, Nat.reduceLT, Bool.false_eq_true, Nat.add_zero, Nat.zero_add, Nat.reduceAdd, Nat.reduceMul, Nat.reduceSub, Nat.zero_le, Nat.reduceLeDiff, Nat.reduceEqDiff, Nat.le_refl, not_false_eq_true, not_true_eq_false, false_implies, true_implies, forall_const, true_and, and_true, if_true, if_false, implies_true, and_self, ne_eq, false_and, and_false, or_false, false_or, true_or, or_true]
      exact ⟨⟨h3, f26⟩, A2.trans (A3.mono fun h k z => Or.inl z)⟩
theorem sUnm_none : ∀ (j k : Nat), (∀ b, sUnm a j k = some b → k ≤ b ∧ b < k + j) := by
  intro j
  induction j with
  | zero => intro k b h; cases h
  | succ j ih =>
    intro k b h
    unfold sUnm at h
    split at h
    · have := ih (k + 1) b h; omega
    · cases h; omega
theorem w_witnessM (h : MR M u a) (hw : Wf a) (hne : NeO a) (htx : TxO a) :
    mw (d + 72) 112 [.ref u, .int set] M (fun o M' => o = .inl (some (.int (oI (sFirst (sLets a set).1)))) ∧ MR M' u a ∧ Ag (fun h k => XMv u h k) M M') := by
  have hp' := hw.p'
  have hf' := hw.f'
  have hn' := hw.n'
  have b5 : u + 1 ≠ u + 13 := by omega
  obtain ⟨w2, G2⟩ := sLets_ok (set := set) hw
  have hd := sLets_hd (set := set) hw
  have ne2 := G2.ne hp' hne
  have tx2 := G2.tx htx
  have eF2 : nF (sLets a set).1 = nF a := lo_nF G2.1
  have eE2 : nE (sLets a set).1 = nE a := lo_nE G2.1
  simp (disch := first | omega | rfl | (repeat' (first | exact gS_sI | exact gP_sI | refine Eq.trans gS_sI ?_ | refine Eq.trans gP_sI ?_ | refine Eq.trans (gIr_sI (by omega)) ?_ | rfl))) only [m_112, q_iconst, q_istore2, q_nop, q_iload2, q_aload0, q_aload0N, q_get_r, pTag_1, pRf_s, q_iald, q_ic_ge, q_invv2, inv_1, q_iast, q_iinc2, q_goto, q_iload1, q_invv1, q_pop_i, q_pop_r, q_if_eq, q_istore3, q_iload3, q_invv3, q_iinc3, q_iret, e_112_0, L_0, L_1, L_2, L_3, L_4, k_some, k_none, pRm_i, pRm_r, pRm_0, pF_1, pF_2, inv_s, eq_self, Nat.reduceLT, Bool.false_eq_true, Nat.add_zero, Nat.zero_add, Nat.reduceAdd, Nat.reduceMul, Nat.reduceSub, Nat.zero_le, Nat.reduceLeDiff, Nat.reduceEqDiff, Nat.le_refl, not_false_eq_true, not_true_eq_false, false_implies, true_implies, forall_const, true_and, and_true, if_true, if_false, implies_true, and_self, ne_eq, false_and, and_false, or_false, false_or, true_or, or_true]
  refine loopR (n := nF a) (J := Unit) (C := fun k _ _ M => ([some (.ref u), some (.int set), some (.int (nN k)), none], [], M)) (f := fun _ (_ : Unit) => ()) (R := fun k _ M1 => (MR M1 u a ∧ ∀ f, f < k → gI M1 (u + 13) f = fa a f 2) ∧ Ag (XMv u) M M1) ?_ (nF a) 0 () () M (by omega) ⟨⟨h, fun f hf => by omega⟩, Ag.rfl⟩ ?_
  · rintro k _ _ M1 hk ⟨⟨h1, hs1⟩, A1⟩ go
    have e1 : ¬ nF a ≤ k := by omega
    have e40 : k < 40 := by omega
    rw [e_112_1]
    simp (disch := first | omega | rfl | (repeat' (first | exact gS_sI | exact gP_sI | refine Eq.trans gS_sI ?_ | refine Eq.trans gP_sI ?_ | refine Eq.trans (gIr_sI (by omega)) ?_ | rfl))) only [q_iconst, q_istore2, q_nop, q_iload2, q_aload0, q_aload0N, q_get_r, pTag_1, pRf_s, q_iald, q_ic_ge, q_invv2, inv_1, q_iast, q_iinc2, q_goto, q_iload1, q_invv1, q_pop_i, q_pop_r, q_if_eq, q_istore3, q_iload3, q_invv3, q_iinc3, q_iret, e_112_0, L_0, L_1, L_2, L_3, L_4, k_some, k_none, pRm_i, pRm_r, pRm_0, pF_1, pF_2, inv_s, h1.1.k0, h1.1.k1, h1.1.k2, h1.1.k3, h1.1.k4, h1.1.k5, h1.1.k6, h1.1.k7, h1.1.k8, h1.1.k9, h1.1.k10, h1.1.k11, h1.1.k12, h1.1.k13, h1.1.p1, h1.1.p2, h1.1.p4, h1.1.p5, h1.1.p13, h1.1.p18, h1.1.p19, h1.1.p20, h1.1.p21, h1.1.p22, h1.1.p23, h1.1.p24, h1.1.p27, h1.2, w_ofX h1, hw.f, e1, e40, nN_le, nN_lt, nN_eq, nN_add, nN_mul, nN_lt0, nN_ge0, nN_gt0, nN_le0, nN_eq0, nN_eq1, nN_neN, pIn_n, pIx_n, eq_self, Nat.reduceLT, Bool.false_eq_true, Nat.add_zero, Nat.zero_add, Nat.reduceAdd, Nat.reduceMul, Nat.reduceSub, Nat.zero_le, Nat.reduceLeDiff, Nat.reduceEqDiff, Nat.le_refl, not_false_eq_true, not_true_eq_false, false_implies, true_implies, forall_const, true_and, and_true, if_true, if_false, implies_true, and_self, ne_eq, false_and, and_false, or_false, false_or, true_or, or_true]
    refine go _ () ⟨⟨⟨h1.1, (gIr_sI b5).trans h1.2⟩, fun f hf => ?_⟩, Ag.put A1 (Or.inr rfl)⟩
    rw [gI_sI]
    by_cases c : f = k
    · rw [if_pos ⟨rfl, c⟩, c]
    · rw [if_neg (fun z => c z.2)]
      exact hs1 f (by omega)
  · rintro M1 _ ⟨⟨h1, hs1⟩, A1⟩
    rw [e_112_1]
    simp (disch := first | omega | rfl | (repeat' (first | exact gS_sI | exact gP_sI | refine Eq.trans gS_sI ?_ | refine Eq.trans gP_sI ?_ | refine Eq.trans (gIr_sI (by omega)) ?_ | rfl))) only [q_iconst, q_istore2, q_nop, q_iload2, q_aload0, q_aload0N, q_get_r, pTag_1, pRf_s, q_iald, q_ic_ge, q_invv2, inv_1, q_iast, q_iinc2, q_goto, q_iload1, q_invv1, q_pop_i, q_pop_r, q_if_eq, q_istore3, q_iload3, q_invv3, q_iinc3, q_iret, e_112_0, e_112_2, L_0, L_1, L_2, L_3, L_4, k_some, k_none, pRm_i, pRm_r, pRm_0, pF_1, pF_2, inv_s, h1.1.k0, h1.1.k1, h1.1.k2, h1.1.k3, h1.1.k4, h1.1.k5, h1.1.k6, h1.1.k7, h1.1.k8, h1.1.k9, h1.1.k10, h1.1.k11, h1.1.k12, h1.1.k13, h1.1.p1, h1.1.p2, h1.1.p4, h1.1.p5, h1.1.p13, h1.1.p18, h1.1.p19, h1.1.p20, h1.1.p21, h1.1.p22, h1.1.p23, h1.1.p24, h1.1.p27, h1.2, hw.f, nN_le, nN_lt, nN_eq, nN_add, nN_mul, nN_lt0, nN_ge0, nN_gt0, nN_le0, nN_eq0, nN_eq1, nN_neN, pIn_n, pIx_n, eq_self, Nat.reduceLT, Bool.false_eq_true, Nat.add_zero, Nat.zero_add, Nat.reduceAdd, Nat.reduceMul, Nat.reduceSub, Nat.zero_le, Nat.reduceLeDiff, Nat.reduceEqDiff, Nat.le_refl, not_false_eq_true, not_true_eq_false, false_implies, true_implies, forall_const, true_and, and_true, if_true, if_false, implies_true, and_self, ne_eq, false_and, and_false, or_false, false_or, true_or, or_true]
    refine mw_mono (w_letsM h1 hw) ?_
    rintro _ M2 ⟨rfl, h2, A2⟩
    simp (disch := first | omega | rfl | (repeat' (first | exact gS_sI | exact gP_sI | refine Eq.trans gS_sI ?_ | refine Eq.trans gP_sI ?_ | refine Eq.trans (gIr_sI (by omega)) ?_ | rfl))) only [q_iconst, q_istore2, q_nop, q_iload2, q_aload0, q_aload0N, q_get_r, pTag_1, pRf_s, q_iald, q_ic_ge, q_invv2, inv_1, q_iast, q_iinc2, q_goto, q_iload1, q_invv1, q_pop_i, q_pop_r, q_if_eq, q_istore3, q_iload3, q_invv3, q_iinc3, q_iret, e_112_0, e_112_2, L_0, L_1, L_2, L_3, L_4, k_some, k_none, pRm_i, pRm_r, pRm_0, pF_1, pF_2, inv_s, eq_self, Nat.reduceLT, Bool.false_eq_true, Nat.add_zero, Nat.zero_add, Nat.reduceAdd, Nat.reduceMul, Nat.reduceSub, Nat.zero_le, Nat.reduceLeDiff, Nat.reduceEqDiff, Nat.le_refl, not_false_eq_true, not_true_eq_false, false_implies, true_implies, forall_const, true_and, and_true, if_true, if_false, implies_true, and_self, ne_eq, false_and, and_false, or_false, false_or, true_or, or_true]
    have s2 : ∀ f, f < nF a → gI M2 (u + 13) f = fa a f 2 := fun f hf => by
      rw [A2.I]
      · exact hs1 f hf
      · rintro (z | z)
        · rcases z with z | z <;> omega
        · omega
    have A02 : Ag (fun h k => XMv u h k ∨ h = u + 1) M M2 := (A1.mono fun h k z => Or.inl z).trans (A2.mono fun h k z => by
      rcases z with z | z
      · exact Or.inl (Or.inl z)
      · exact Or.inr z)
    -- the way back
    have back : ∀ (M3 : pMem) (b : Nat) (o : Option Nat), MR M3 u (sLets a set).1 → (∀ f, f < nF a → gI M3 (u + 13) f = fa a f 2) → Ag (fun h k => XMv u h k ∨ h = u + 1) M M3 → (o = none ∧ b = nE a ∨ o = some b ∧ b < nE a) →
        bw (d + 71) 112 4 ([some (.ref u), some (.int set), some (.int (nN b)), none], [], M3) (fun o' M' => o' = .inl (some (.int (oI o))) ∧ MR M' u a ∧ Ag (fun h k => XMv u h k) M M') := by
      intro M3 b o h3 s3 A3 ho
      rw [e_112_4]
      simp (disch := first | omega | rfl | (repeat' (first | exact gS_sI | exact gP_sI | refine Eq.trans gS_sI ?_ | refine Eq.trans gP_sI ?_ | refine Eq.trans (gIr_sI (by omega)) ?_ | rfl))) only [q_iconst, q_istore2, q_nop, q_iload2, q_aload0, q_aload0N, q_get_r, pTag_1, pRf_s, q_iald, q_ic_ge, q_invv2, inv_1, q_iast, q_iinc2, q_goto, q_iload1, q_invv1, q_pop_i, q_pop_r, q_if_eq, q_istore3, q_iload3, q_invv3, q_iinc3, q_iret, e_112_0, L_0, L_1, L_2, L_3, L_4, k_some, k_none, pRm_i, pRm_r, pRm_0, pF_1, pF_2, inv_s, eq_self, Nat.reduceLT, Bool.false_eq_true, Nat.add_zero, Nat.zero_add, Nat.reduceAdd, Nat.reduceMul, Nat.reduceSub, Nat.zero_le, Nat.reduceLeDiff, Nat.reduceEqDiff, Nat.le_refl, not_false_eq_true, not_true_eq_false, false_implies, true_implies, forall_const, true_and, and_true, if_true, if_false, implies_true, and_self, ne_eq, false_and, and_false, or_false, false_or, true_or, or_true]
      refine loopR (n := nF a) (J := Unit) (C := fun k _ _ M => ([some (.ref u), some (.int set), some (.int (nN b)), some (.int (nN k))], [], M)) (f := fun _ (_ : Unit) => ()) (R := fun k _ M4 => (ShM (gS M4) (gP M4) u ∧ ∀ f, f < nF a → gI M4 (u + 13) f = fa a f 2) ∧ (∀ j, (∀ f, k ≤ f → f < nF a → j ≠ 140 + 20 * f + 2) → gI M4 (u + 1) j = a j) ∧ Ag (fun h k => XMv u h k ∨ h = u + 1) M M4) ?_ (nF a) 0 () () M3 (by omega) ⟨⟨h3.1, s3⟩, fun j hj => by rw [h3.2]; exact hd j (fun f hf => hj f (by omega) hf), A3⟩ ?_
      · rintro k _ _ M4 hk ⟨⟨h4, s4⟩, i4, A4⟩ go
        have e1 : ¬ nF a ≤ k := by omega
        have e40 : k < 40 := by omega
        have m4 : MR M4 u (gI M4 (u + 1)) := ⟨h4, rfl⟩
        have i3 : gI M4 (u + 1) 3 = nN (nF a) := by rw [i4 3 (fun f _ _ => by omega)]; exact hw.f
        rw [e_112_5]
        simp (disch := first | omega | rfl | (repeat' (first | exact gS_sI | exact gP_sI | refine Eq.trans gS_sI ?_ | refine Eq.trans gP_sI ?_ | refine Eq.trans (gIr_sI (by omega)) ?_ | rfl))) only [q_iconst, q_istore2, q_nop, q_iload2, q_aload0, q_aload0N, q_get_r, pTag_1, pRf_s, q_iald, q_ic_ge, q_invv2, inv_1, q_iast, q_iinc2, q_goto, q_iload1, q_invv1, q_pop_i, q_pop_r, q_if_eq, q_istore3, q_iload3, q_invv3, q_iinc3, q_iret, e_112_0, L_0, L_1, L_2, L_3, L_4, k_some, k_none, pRm_i, pRm_r, pRm_0, pF_1, pF_2, inv_s, h4.k0, h4.p1, h4.k1, h4.p27, h4.k13, w_setsX m4, i3, s4 k hk, e1, e40, nN_le, nN_lt, nN_eq, nN_add, nN_mul, nN_lt0, nN_ge0, nN_gt0, nN_le0, nN_eq0, nN_eq1, nN_neN, pIn_n, pIx_n, eq_self, Nat.reduceLT, Bool.false_eq_true, Nat.add_zero, Nat.zero_add, Nat.reduceAdd, Nat.reduceMul, Nat.reduceSub, Nat.zero_le, Nat.reduceLeDiff, Nat.reduceEqDiff, Nat.le_refl, not_false_eq_true, not_true_eq_false, false_implies, true_implies, forall_const, true_and, and_true, if_true, if_false, implies_true, and_self, ne_eq, false_and, and_false, or_false, false_or, true_or, or_true]
        refine go _ () ⟨⟨h4, fun f hf => ?_⟩, fun j hj => ?_, Ag.put A4 (Or.inr rfl)⟩
        · rw [gIr_sI (by omega)]; exact s4 f hf
        · rw [gI_sI]
          by_cases c : j = 140 + 20 * k + 2
          · rw [if_pos ⟨rfl, c⟩, c]; rfl
          · rw [if_neg (fun z => c z.2)]
            refine i4 j (fun f h1 h2 => ?_)
            by_cases c2 : f = k
            · subst c2; exact c
            · exact hj f (by omega) h2
      · rintro M4 _ ⟨⟨h4, s4⟩, i4, A4⟩
        have m4 : MR M4 u a := ⟨h4, funext fun j => i4 j (fun f _ _ => by omega)⟩
        have A5 : Ag (fun h k => XMv u h k) M M4 := by
          refine ⟨A4.1, A4.2.1, fun j i hn => ?_⟩
          by_cases c : j = u + 1
          · subst c; rw [m4.2, h.2]
          · exact A4.I (fun z => z.elim hn c)
        rcases ho with ⟨rfl, rfl⟩ | ⟨rfl, hb⟩
        · rw [e_112_5]
          simp (disch := first | omega | rfl | (repeat' (first | exact gS_sI | exact gP_sI | refine Eq.trans gS_sI ?_ | refine Eq.trans gP_sI ?_ | refine Eq.trans (gIr_sI (by omega)) ?_ | rfl))) only [q_iconst, q_istore2, q_nop, q_iload2, q_aload0, q_aload0N, q_get_r, pTag_1, pRf_s, q_iald, q_ic_ge, q_invv2, inv_1, q_iast, q_iinc2, q_goto, q_iload1, q_invv1, q_pop_i, q_pop_r, q_if_eq, q_istore3, q_iload3, q_invv3, q_iinc3, q_iret, e_112_0, e_112_6, e_112_7, e_112_8, L_0, L_1, L_2, L_3, L_4, k_some, k_none, pRm_i, pRm_r, pRm_0, pF_1, pF_2, inv_s, m4.1.k0, m4.1.k1, m4.1.k2, m4.1.k3, m4.1.k4, m4.1.k5, m4.1.k6, m4.1.k7, m4.1.k8, m4.1.k9, m4.1.k10, m4.1.k11, m4.1.k12, m4.1.k13, m4.1.p1, m4.1.p2, m4.1.p4, m4.1.p5, m4.1.p13, m4.1.p18, m4.1.p19, m4.1.p20, m4.1.p21, m4.1.p22, m4.1.p23, m4.1.p24, m4.1.p27, m4.2, hw.f, hw.n, oI, nN_le, nN_lt, nN_eq, nN_add, nN_mul, nN_lt0, nN_ge0, nN_gt0, nN_le0, nN_eq0, nN_eq1, nN_neN, pIn_n, pIx_n, eq_self, Nat.reduceLT, Bool.false_eq_true, Nat.add_zero, Nat.zero_add, Nat.reduceAdd, Nat.reduceMul, Nat.reduceSub, Nat.zero_le, Nat.reduceLeDiff, Nat.reduceEqDiff, Nat.le_refl, not_false_eq_true, not_true_eq_false, false_implies, true_implies, forall_const, true_and, and_true, if_true, if_false, implies_true, and_self, ne_eq, false_and, and_false, or_false, false_or, true_or, or_true]
          exact ⟨m4, A5⟩
        · have e9 : ¬ nE a ≤ b := by omega
          rw [e_112_5]
          simp (disch := first | omega | rfl | (repeat' (first | exact gS_sI | exact gP_sI | refine Eq.trans gS_sI ?_ | refine Eq.trans gP_sI ?_ | refine Eq.trans (gIr_sI (by omega)) ?_ | rfl))) only [q_iconst, q_istore2, q_nop, q_iload2, q_aload0, q_aload0N, q_get_r, pTag_1, pRf_s, q_iald, q_ic_ge, q_invv2, inv_1, q_iast, q_iinc2, q_goto, q_iload1, q_invv1, q_pop_i, q_pop_r, q_if_eq, q_istore3, q_iload3, q_invv3, q_iinc3, q_iret, e_112_0, e_112_6, e_112_7, e_112_8, L_0, L_1, L_2, L_3, L_4, k_some, k_none, pRm_i, pRm_r, pRm_0, pF_1, pF_2, inv_s, m4.1.k0, m4.1.k1, m4.1.k2, m4.1.k3, m4.1.k4, m4.1.k5, m4.1.k6, m4.1.k7, m4.1.k8, m4.1.k9, m4.1.k10, m4.1.k11, m4.1.k12, m4.1.k13, m4.1.p1, m4.1.p2, m4.1.p4, m4.1.p5, m4.1.p13, m4.1.p18, m4.1.p19, m4.1.p20, m4.1.p21, m4.1.p22, m4.1.p23, m4.1.p24, m4.1.p27, m4.2, hw.f, hw.n, oI, e9, nN_le, nN_lt, nN_eq, nN_add, nN_mul, nN_lt0, nN_ge0, nN_gt0, nN_le0, nN_eq0, nN_eq1, nN_neN, pIn_n, pIx_n, eq_self, Nat.reduceLT, Bool.false_eq_true, Nat.add_zero, Nat.zero_add, Nat.reduceAdd, Nat.reduceMul, Nat.reduceSub, Nat.zero_le, Nat.reduceLeDiff, Nat.reduceEqDiff, Nat.le_refl, not_false_eq_true, not_true_eq_false, false_implies, true_implies, forall_const, true_and, and_true, if_true, if_false, implies_true, and_self, ne_eq, false_and, and_false, or_false, false_or, true_or, or_true]
          exact ⟨m4, A5⟩
    have key : ∀ (j k : Nat) (M3 : pMem), k + j = nE a → MR M3 u (sLets a set).1 → (∀ f, f < nF a → gI M3 (u + 13) f = fa a f 2) → Ag (fun h k => XMv u h k ∨ h = u + 1) M M3 →
        bw (d + 71) 112 3 ([some (.ref u), some (.int set), some (.int (nN k)), none], [], M3) (fun o' M' => o' = .inl (some (.int (oI (sUnm (sLets a set).1 j k)))) ∧ MR M' u a ∧ Ag (fun h k => XMv u h k) M M') := by
      intro j
      induction j with
      | zero =>
        intro k M3 hk h3 s3 A3
        have e1 : nE (sLets a set).1 ≤ k := by omega
        rw [e_112_3]
        simp (disch := first | omega | rfl | (repeat' (first | exact gS_sI | exact gP_sI | refine Eq.trans gS_sI ?_ | refine Eq.trans gP_sI ?_ | refine Eq.trans (gIr_sI (by omega)) ?_ | rfl))) only [q_iconst, q_istore2, q_nop, q_iload2, q_aload0, q_aload0N, q_get_r, pTag_1, pRf_s, q_iald, q_ic_ge, q_invv2, inv_1, q_iast, q_iinc2, q_goto, q_iload1, q_invv1, q_pop_i, q_pop_r, q_if_eq, q_istore3, q_iload3, q_invv3, q_iinc3, q_iret, e_112_0, L_0, L_1, L_2, L_3, L_4, k_some, k_none, pRm_i, pRm_r, pRm_0, pF_1, pF_2, inv_s, h3.1.k0, h3.1.k1, h3.1.k2, h3.1.k3, h3.1.k4, h3.1.k5, h3.1.k6, h3.1.k7, h3.1.k8, h3.1.k9, h3.1.k10, h3.1.k11, h3.1.k12, h3.1.k13, h3.1.p1, h3.1.p2, h3.1.p4, h3.1.p5, h3.1.p13, h3.1.p18, h3.1.p19, h3.1.p20, h3.1.p21, h3.1.p22, h3.1.p23, h3.1.p24, h3.1.p27, h3.2, w2.n, e1, nN_le, nN_lt, nN_eq, nN_add, nN_mul, nN_lt0, nN_ge0, nN_gt0, nN_le0, nN_eq0, nN_eq1, nN_neN, pIn_n, pIx_n, eq_self, Nat.reduceLT, Bool.false_eq_true, Nat.add_zero, Nat.zero_add, Nat.reduceAdd, Nat.reduceMul, Nat.reduceSub, Nat.zero_le, Nat.reduceLeDiff, Nat.reduceEqDiff, Nat.le_refl, not_false_eq_true, not_true_eq_false, false_implies, true_implies, forall_const, true_and, and_true, if_true, if_false, implies_true, and_self, ne_eq, false_and, and_false, or_false, false_or, true_or, or_true]
        exact back M3 k none h3 s3 A3 (Or.inl ⟨rfl, by omega⟩)
      | succ j ih =>
        intro k M3 hk h3 s3 A3
        have e1 : ¬ nE (sLets a set).1 ≤ k := by omega
        rw [e_112_3]
        simp (disch := first | omega | rfl | (repeat' (first | exact gS_sI | exact gP_sI | refine Eq.trans gS_sI ?_ | refine Eq.trans gP_sI ?_ | refine Eq.trans (gIr_sI (by omega)) ?_ | rfl))) only [q_iconst, q_istore2, q_nop, q_iload2, q_aload0, q_aload0N, q_get_r, pTag_1, pRf_s, q_iald, q_ic_ge, q_invv2, inv_1, q_iast, q_iinc2, q_goto, q_iload1, q_invv1, q_pop_i, q_pop_r, q_if_eq, q_istore3, q_iload3, q_invv3, q_iinc3, q_iret, e_112_0, L_0, L_1, L_2, L_3, L_4, k_some, k_none, pRm_i, pRm_r, pRm_0, pF_1, pF_2, inv_s, h3.1.k0, h3.1.k1, h3.1.k2, h3.1.k3, h3.1.k4, h3.1.k5, h3.1.k6, h3.1.k7, h3.1.k8, h3.1.k9, h3.1.k10, h3.1.k11, h3.1.k12, h3.1.k13, h3.1.p1, h3.1.p2, h3.1.p4, h3.1.p5, h3.1.p13, h3.1.p18, h3.1.p19, h3.1.p20, h3.1.p21, h3.1.p22, h3.1.p23, h3.1.p24, h3.1.p27, h3.2, w2.n, e1, nN_le, nN_lt, nN_eq, nN_add, nN_mul, nN_lt0, nN_ge0, nN_gt0, nN_le0, nN_eq0, nN_eq1, nN_neN, pIn_n, pIx_n, eq_self, Nat.reduceLT, Bool.false_eq_true, Nat.add_zero, Nat.zero_add, Nat.reduceAdd, Nat.reduceMul, Nat.reduceSub, Nat.zero_le, Nat.reduceLeDiff, Nat.reduceEqDiff, Nat.le_refl, not_false_eq_true, not_true_eq_false, false_implies, true_implies, forall_const, true_and, and_true, if_true, if_false, implies_true, and_self, ne_eq, false_and, and_false, or_false, false_or, true_or, or_true]
        refine mw_mono (w_canNeedM h3 w2 ne2 tx2 (by omega)) ?_
        rintro _ M5 ⟨rfl, A5⟩
        have h5 := h3.ag A5 XMs_1
        have s5 : ∀ f, f < nF a → gI M5 (u + 13) f = fa a f 2 := fun f hf => by
          rw [A5.I]
          · exact s3 f hf
          · rintro (z | z) <;> omega
        have A05 : Ag (fun h k => XMv u h k ∨ h = u + 1) M M5 := A3.trans (A5.mono fun h k z => Or.inl (Or.inl z))
        by_cases c : sMetK (sLets a set).1 k = true
        · rw [show sUnm (sLets a set).1 (j + 1) k = sUnm (sLets a set).1 j (k + 1) by simp [sUnm, c]]
          simp (disch := first | omega | rfl | (repeat' (first | exact gS_sI | exact gP_sI | refine Eq.trans gS_sI ?_ | refine Eq.trans gP_sI ?_ | refine Eq.trans (gIr_sI (by omega)) ?_ | rfl))) only [q_iconst, q_istore2, q_nop, q_iload2, q_aload0, q_aload0N, q_get_r, pTag_1, pRf_s, q_iald, q_ic_ge, q_invv2, inv_1, q_iast, q_iinc2, q_goto, q_iload1, q_invv1, q_pop_i, q_pop_r, q_if_eq, q_istore3, q_iload3, q_invv3, q_iinc3, q_iret, e_112_0, L_0, L_1, L_2, L_3, L_4, k_some, k_none, pRm_i, pRm_r, pRm_0, pF_1, pF_2, inv_s, bI_eq0, c, nN_le, nN_lt, nN_eq, nN_add, nN_mul, nN_lt0, nN_ge0, nN_gt0, nN_le0, nN_eq0, nN_eq1, nN_neN, pIn_n, pIx_n, eq_self, Nat.reduceLT, Bool.false_eq_true, Nat.add_zero, Nat.zero_add, Nat.reduceAdd, Nat.reduceMul, Nat.reduceSub, Nat.zero_le, Nat.reduceLeDiff, Nat.reduceEqDiff, Nat.le_refl, not_false_eq_true, not_true_eq_false, false_implies, true_implies, forall_const, true_and, and_true, if_true, if_false, implies_true, and_self, ne_eq, false_and, and_false, or_false, false_or, true_or, or_true]
          exact ih (k + 1) M5 (by omega) h5 s5 A05
        · rw [show sUnm (sLets a set).1 (j + 1) k = some k by simp [sUnm, c]]
          simp (disch := first | omega | rfl | (repeat' (first | exact gS_sI | exact gP_sI | refine Eq.trans gS_sI ?_ | refine Eq.trans gP_sI ?_ | refine Eq.trans (gIr_sI (by omega)) ?_ | rfl))) only [q_iconst, q_istore2, q_nop, q_iload2, q_aload0, q_aload0N, q_get_r, pTag_1, pRf_s, q_iald, q_ic_ge, q_invv2, inv_1, q_iast, q_iinc2, q_goto, q_iload1, q_invv1, q_pop_i, q_pop_r, q_if_eq, q_istore3, q_iload3, q_invv3, q_iinc3, q_iret, e_112_0, L_0, L_1, L_2, L_3, L_4, k_some, k_none, pRm_i, pRm_r, pRm_0, pF_1, pF_2, inv_s, bI_eq0, c, nN_le, nN_lt, nN_eq, nN_add, nN_mul, nN_lt0, nN_ge0, nN_gt0, nN_le0, nN_eq0, nN_eq1, nN_neN, pIn_n, pIx_n, eq_self, Nat.reduceLT, Bool.false_eq_true, Nat.add_zero, Nat.zero_add, Nat.reduceAdd, Nat.reduceMul, Nat.reduceSub, Nat.zero_le, Nat.reduceLeDiff, Nat.reduceEqDiff, Nat.le_refl, not_false_eq_true, not_true_eq_false, false_implies, true_implies, forall_const, true_and, and_true, if_true, if_false, implies_true, and_self, ne_eq, false_and, and_false, or_false, false_or, true_or, or_true]
          exact back M5 k (some k) h5 s5 A05 (Or.inr ⟨rfl, by omega⟩)
    have := key (nE a) 0 M2 (by omega) h2 s2 A02
    unfold sFirst
    rw [eE2]
    exact this
end MT
