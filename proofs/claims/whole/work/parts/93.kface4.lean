/-! THE LAW'S MODEL: image, back, feed, end -/
def bB (a ak : Nat → Int32) : Nat → Int32 := fun j => if j < 3346 then ak j else a j
theorem e24 : ∀ k, k < 20 → nN 24 - nN 8 * (nN k - nN k / nN 4 * nN 4) = nN (24 - 8 * (k % 4)) := by
  have : ∀ k : Fin 20, nN 24 - nN 8 * (nN k.1 - nN k.1 / nN 4 * nN 4) = nN (24 - 8 * (k.1 % 4)) := by decide +kernel
  intro k hk
  exact this ⟨k, hk⟩
section KI
variable {d t u n p q f g m c e K k dd : Nat} {b : Nat → Nat} {a a' ak : Nat → Int32} {img fc : Bool} {fl : Int32} {M M0 M1 M' : pMem} {Q : pOut → pMem → Prop} {x y z v w v0 v1 v2 v3 v4 : Int32}
theorem txt_lo33 (e : ∀ j, j < 3346 → a' j = a j) (hk : k < 6) (hL : ∃ L, L ≤ 400 ∧ a (940 + 401 * k) = nN L) : txt a' k = txt a k := by
  obtain ⟨L, h1, h2⟩ := hL
  unfold txt
  rw [e (940 + 401 * k) (by omega), h2, nN_toInt (by omega)]
  apply List.map_congr_left
  intro j hj
  have := List.mem_range.mp hj
  exact e _ (by omega)
theorem txo_lo33 (h : TxO a) (ht : nT a ≤ 6) (e : ∀ j, j < 3346 → a' j = a j) : TxO a' := by
  have eT : nT a' = nT a := by unfold nT; rw [e 2 (by omega)]
  intro k hk
  rw [eT] at hk
  obtain ⟨h1, h2⟩ := h k hk
  refine ⟨?_, ?_⟩
  · rw [e _ (by omega)]; exact h1
  · rw [txt_lo33 e (by omega) h1]; exact h2
theorem tmr_lo33 (r : TmR M t a) (h : TxO a) (ht : nT a ≤ 6) (e : ∀ j, j < 3346 → a' j = a j) : TmR M t a' := by
  have eT : nT a' = nT a := by unfold nT; rw [e 2 (by omega)]
  intro k hk
  rw [eT] at hk
  have : tv a' k = tv a k := by unfold tv; rw [txt_lo33 e (by omega) (h k hk).1]
  rw [this]
  exact r k hk
theorem wt_lo33 (h : Wt a K) (e : ∀ j, j < 3346 → a' j = a j) : Wt a' K := by
  obtain ⟨h1, h2, h3, h4, D, h5, h6⟩ := h
  have eP : nP a' = nP a := by unfold nP; rw [e 1 (by omega)]
  have hp' := h1.p'
  refine ⟨wf_low h1 fun j hj => e j (by omega), ?_, ?_, txo_lo33 h4 h1.t' e, D, h5, by rw [e 6 (by omega)]; exact h6⟩
  · intro p g hp hg
    rw [eP] at hp hg
    rw [show pa a' p 2 = pa a p 2 from e _ (by omega), show pa a' g 2 = pa a g 2 from e _ (by omega)]
    exact h2 p g hp hg
  · intro q hq
    rw [eP] at hq
    rw [eP, show pa a' q 2 = pa a q 2 from e _ (by omega)]
    exact h3 q hq
theorem CI.lo33 (c : CI M a ak img n b fl) (hw : Wf a) (hx : TxO a) (e : ∀ j, j < 3346 → a' j = a j) : CI M a' ak img n b fl :=
  CI.mk c.sh (rep_low c.rep hw fun j hj => e j (by omega)) (tmr_lo33 c.tm hx hw.t' e) c.kr c.kt c.qo c.qk c.l69 c.l72 c.tn c.tb c.im c.fo
theorem bB_lo (a ak : Nat → Int32) : ∀ j, j < 3346 → bB a ak j = ak j := fun _ h => if_pos h
theorem k_image (m : MI M u a ak img n b fl) : mw (d + 4) 138 [.ref u] M (fun o M' => o = .inl none ∧ gI M' u 0 = nN 0 ∧ MI M' u a a true n b fl ∧ Ag (XU u) M M') := by
  have s := m.mr.1
  have hm := m.mr
  simp (disch := omega) only [m_138, q_aload0, q_aload0N, q_iconst, q_put_i, pTag_1, q_istore1, q_nop, q_iload1, q_sipush, q_ic_ge, q_get_r, pRf_s, q_iald, q_iast, q_iinc1, q_goto, q_put_z, q_vret, e_138_0, e_138_2, L_0, L_1, L_3346, s.k0, gS_sI, gS_sI, gP_sI, gI_sI, Nat.add_left_cancel_iff, Nat.add_eq_left, Nat.left_eq_add, nN_le, nN_lt, nN_eq, nN_add, nN_mul, nN_lt0, nN_ge0, nN_gt0, nN_le0, nN_eq0, nN_eq1, nN_neN, pIn_n, pIx_n, eq_self, Nat.reduceLT, Bool.false_eq_true, Nat.add_zero, Nat.zero_add, Nat.reduceAdd, Nat.reduceMul, Nat.reduceSub, Nat.zero_le, Nat.reduceLeDiff, Nat.reduceEqDiff, Nat.le_refl, not_false_eq_true, not_true_eq_false, false_implies, true_implies, forall_const, true_and, and_true, if_true, if_false, implies_true, and_self, ne_eq, false_and, and_false, or_false, false_or, true_or, or_true]
  refine loopR (n := 3346) (J := Unit) (C := fun k _ _ M => ([some (.ref u), some (.int (nN k))], [], M)) (f := fun _ (_ : Unit) => ()) (R := fun k _ M1 => Ag (fun h _ => h = u + 2) (sI M u 0 (nN 0)) M1 ∧ ∀ i, i < k → gI M1 (u + 2) i = a i) ?_ 3346 0 () () _ (by omega) ⟨Ag.rfl, fun i h => absurd h (by omega)⟩ ?_
  · rintro k _ _ M1 hk ⟨A1, e1⟩ go
    have g1 : gI M1 (u + 1) k = a k := by rw [A1.I (by omega), gI_sI, if_neg (by omega), hm.2]
    have k0 := s.k0
    have k1 := s.k1
    have k2 := s.k2
    have p1 := s.p1
    have p2 := s.p2
    rw [← (gS_sI (M := M) (h := u) (k := 0) (x := nN 0)), ← A1.S] at k0 k1 k2
    rw [← (gP_sI (M := M) (h := u) (k := 0) (x := nN 0)), ← A1.P] at p1 p2
    have h3 : ¬ 3346 ≤ k := by omega
    rw [e_138_1]
    simp (disch := omega) only [q_aload0, q_aload0N, q_iconst, q_put_i, pTag_1, q_istore1, q_nop, q_iload1, q_sipush, q_ic_ge, q_get_r, pRf_s, q_iald, q_iast, q_iinc1, q_goto, q_put_z, q_vret, e_138_0, e_138_2, L_0, L_1, L_3346, k0, k1, k2, p1, p2, h3, hk, pIn_n, pIx_n, g1, nN_le, nN_lt, nN_eq, nN_add, nN_mul, nN_lt0, nN_ge0, nN_gt0, nN_le0, nN_eq0, nN_eq1, nN_neN, pIn_n, pIx_n, eq_self, Nat.reduceLT, Bool.false_eq_true, Nat.add_zero, Nat.zero_add, Nat.reduceAdd, Nat.reduceMul, Nat.reduceSub, Nat.zero_le, Nat.reduceLeDiff, Nat.reduceEqDiff, Nat.le_refl, not_false_eq_true, not_true_eq_false, false_implies, true_implies, forall_const, true_and, and_true, if_true, if_false, implies_true, and_self, ne_eq, false_and, and_false, or_false, false_or, true_or, or_true]
    refine go _ () ⟨Ag.put A1 rfl, ?_⟩
    intro i hi
    rw [gI_sI]
    by_cases c : i = k
    · rw [if_pos ⟨rfl, c⟩, c]
    · rw [if_neg (fun z => c z.2)]; exact e1 i (by omega)
  · rintro M1 _ ⟨A1, e1⟩
    have k0 := s.k0
    rw [← (gS_sI (M := M) (h := u) (k := 0) (x := nN 0)), ← A1.S] at k0
    rw [e_138_1]
    simp (disch := omega) only [q_aload0, q_aload0N, q_iconst, q_put_i, pTag_1, q_istore1, q_nop, q_iload1, q_sipush, q_ic_ge, q_get_r, pRf_s, q_iald, q_iast, q_iinc1, q_goto, q_put_z, q_vret, e_138_0, e_138_2, L_0, L_1, L_3346, k0, nN_le, nN_lt, nN_eq, nN_add, nN_mul, nN_lt0, nN_ge0, nN_gt0, nN_le0, nN_eq0, nN_eq1, nN_neN, pIn_n, pIx_n, eq_self, Nat.reduceLT, Bool.false_eq_true, Nat.add_zero, Nat.zero_add, Nat.reduceAdd, Nat.reduceMul, Nat.reduceSub, Nat.zero_le, Nat.reduceLeDiff, Nat.reduceEqDiff, Nat.le_refl, not_false_eq_true, not_true_eq_false, false_implies, true_implies, forall_const, true_and, and_true, if_true, if_false, implies_true, and_self, ne_eq, false_and, and_false, or_false, false_or, true_or, or_true]
    refine ⟨?_, MI.mk ?_ ?_ ?_ ?_ ?_ ?_, ?_⟩
    · rw [gI_sI, if_neg (by omega), A1.I (by omega), gI_sI, if_pos ⟨rfl, rfl⟩]
    · exact ((hm.ag (Ag.one (X := fun h k => h = u ∧ k = 0) ⟨rfl, rfl⟩) (fun k z => by omega)).ag A1 (fun k z => by omega)).ag (Ag.one (X := fun h k => h = u ∧ k = 3) ⟨rfl, rfl⟩) (fun k z => by omega)
    · intro _ k hk; rw [gI_sI, if_neg (by omega)]; exact e1 k hk
    · rw [gI_sI, if_pos ⟨rfl, rfl⟩]; rfl
    · rw [gI_sI, if_neg (by omega), A1.I (by omega), gI_sI, if_neg (by omega)]; exact m.tn
    · intro k hk; rw [gI_sI, if_neg (by omega), A1.I (by omega), gI_sI, if_neg (by omega)]; exact m.tb k hk
    · rw [gI_sI, if_neg (by omega), A1.I (by omega), gI_sI, if_neg (by omega)]; exact m.fo
    · exact XU_0.trans (Ag.put (A1.mono fun h k z => ⟨by omega, by omega⟩) ⟨Nat.le_refl _, by omega⟩)
theorem k_back (m : MI M u a ak img n b fl) : mw (d + 4) 139 [.ref u] M (fun o M' => KO M' u 0 (bI (img = true)) o ∧ MI M' u (if img = true then bB a ak else a) ak img n b fl ∧ Ag (XU u) M M') := by
  have s := m.mr.1
  have hm := m.mr
  have hi := m.hi
  cases img with
  | false =>
    have hi : gI M u 3 = nN 0 := hi
    have hi : gI (sI M u 0 (nN 0)) u 3 = nN 0 := by rw [gI_sI, if_neg (by omega)]; exact hi
    simp (disch := omega) only [m_139, q_aload0, q_aload0N, q_iconst, q_put_i, pTag_1, q_get_z, pRf_s, q_if_ne, q_zret, q_istore1, q_nop, q_iload1, q_sipush, q_ic_ge, q_get_r, q_iald, q_iast, q_iinc1, q_goto, e_139_0, e_139_1, e_139_3, L_0, L_1, L_3346, s.k0, gS_sI, hi, zb_0, gS_sI, gP_sI, gI_sI, Nat.add_left_cancel_iff, Nat.add_eq_left, Nat.left_eq_add, nN_le, nN_lt, nN_eq, nN_add, nN_mul, nN_lt0, nN_ge0, nN_gt0, nN_le0, nN_eq0, nN_eq1, nN_neN, pIn_n, pIx_n, eq_self, Nat.reduceLT, Bool.false_eq_true, Nat.add_zero, Nat.zero_add, Nat.reduceAdd, Nat.reduceMul, Nat.reduceSub, Nat.zero_le, Nat.reduceLeDiff, Nat.reduceEqDiff, Nat.le_refl, not_false_eq_true, not_true_eq_false, false_implies, true_implies, forall_const, true_and, and_true, if_true, if_false, implies_true, and_self, ne_eq, false_and, and_false, or_false, false_or, true_or, or_true]
    exact ⟨KO.one.mpr (fun _ => rfl), m.th, XU_0⟩
  | true =>
    have hi : gI M u 3 = nN 1 := hi
    have hi : gI (sI M u 0 (nN 0)) u 3 = nN 1 := by rw [gI_sI, if_neg (by omega)]; exact hi
    have ik := m.ik rfl
    simp (disch := omega) only [m_139, q_aload0, q_aload0N, q_iconst, q_put_i, pTag_1, q_get_z, pRf_s, q_if_ne, q_zret, q_istore1, q_nop, q_iload1, q_sipush, q_ic_ge, q_get_r, q_iald, q_iast, q_iinc1, q_goto, e_139_0, e_139_1, e_139_3, L_0, L_1, L_3346, s.k0, gS_sI, hi, zb_0, gS_sI, gP_sI, gI_sI, Nat.add_left_cancel_iff, Nat.add_eq_left, Nat.left_eq_add, nN_le, nN_lt, nN_eq, nN_add, nN_mul, nN_lt0, nN_ge0, nN_gt0, nN_le0, nN_eq0, nN_eq1, nN_neN, pIn_n, pIx_n, eq_self, Nat.reduceLT, Bool.false_eq_true, Nat.add_zero, Nat.zero_add, Nat.reduceAdd, Nat.reduceMul, Nat.reduceSub, Nat.zero_le, Nat.reduceLeDiff, Nat.reduceEqDiff, Nat.le_refl, not_false_eq_true, not_true_eq_false, false_implies, true_implies, forall_const, true_and, and_true, if_true, if_false, implies_true, and_self, ne_eq, false_and, and_false, or_false, false_or, true_or, or_true]
    refine loopR (n := 3346) (J := Unit) (C := fun k _ _ M => ([some (.ref u), some (.int (nN k))], [], M)) (f := fun _ (_ : Unit) => ()) (R := fun k _ M1 => Ag (fun h _ => h = u + 1) (sI M u 0 (nN 0)) M1 ∧ ∀ i, gI M1 (u + 1) i = if i < k then ak i else a i) ?_ 3346 0 () () _ (by omega) ⟨Ag.rfl, fun i => ?_⟩ ?_
    · rintro k _ _ M1 hk ⟨A1, e1⟩ go
      have g1 : gI M1 (u + 2) k = ak k := by rw [A1.I (by omega), gI_sI, if_neg (by omega)]; exact ik k hk
      have k0 := s.k0
      have k1 := s.k1
      have k2 := s.k2
      have p1 := s.p1
      have p2 := s.p2
      rw [← (gS_sI (M := M) (h := u) (k := 0) (x := nN 0)), ← A1.S] at k0 k1 k2
      rw [← (gP_sI (M := M) (h := u) (k := 0) (x := nN 0)), ← A1.P] at p1 p2
      have h3 : ¬ 3346 ≤ k := by omega
      rw [e_139_2]
      simp (disch := omega) only [q_aload0, q_aload0N, q_iconst, q_put_i, pTag_1, q_get_z, pRf_s, q_if_ne, q_zret, q_istore1, q_nop, q_iload1, q_sipush, q_ic_ge, q_get_r, q_iald, q_iast, q_iinc1, q_goto, e_139_0, e_139_1, e_139_3, L_0, L_1, L_3346, k0, k1, k2, p1, p2, h3, hk, pIn_n, pIx_n, g1, nN_le, nN_lt, nN_eq, nN_add, nN_mul, nN_lt0, nN_ge0, nN_gt0, nN_le0, nN_eq0, nN_eq1, nN_neN, pIn_n, pIx_n, eq_self, Nat.reduceLT, Bool.false_eq_true, Nat.add_zero, Nat.zero_add, Nat.reduceAdd, Nat.reduceMul, Nat.reduceSub, Nat.zero_le, Nat.reduceLeDiff, Nat.reduceEqDiff, Nat.le_refl, not_false_eq_true, not_true_eq_false, false_implies, true_implies, forall_const, true_and, and_true, if_true, if_false, implies_true, and_self, ne_eq, false_and, and_false, or_false, false_or, true_or, or_true]
      refine go _ () ⟨Ag.put A1 rfl, ?_⟩
      intro i
      rw [gI_sI, e1]
      by_cases c : i = k
      · rw [if_pos ⟨rfl, c⟩, if_pos (by omega), c]
      · rw [if_neg (fun z => c z.2)]
        by_cases c2 : i < k
        · rw [if_pos c2, if_pos (by omega)]
        · rw [if_neg c2, if_neg (by omega)]
    · rw [gI_sI, if_neg (by omega), if_neg (by omega), hm.2]
    · rintro M1 _ ⟨A1, e1⟩
      rw [e_139_2]
      simp (disch := omega) only [q_aload0, q_aload0N, q_iconst, q_put_i, pTag_1, q_get_z, pRf_s, q_if_ne, q_zret, q_istore1, q_nop, q_iload1, q_sipush, q_ic_ge, q_get_r, q_iald, q_iast, q_iinc1, q_goto, e_139_0, e_139_1, e_139_3, L_0, L_1, L_3346, nN_le, nN_lt, nN_eq, nN_add, nN_mul, nN_lt0, nN_ge0, nN_gt0, nN_le0, nN_eq0, nN_eq1, nN_neN, pIn_n, pIx_n, eq_self, Nat.reduceLT, Bool.false_eq_true, Nat.add_zero, Nat.zero_add, Nat.reduceAdd, Nat.reduceMul, Nat.reduceSub, Nat.zero_le, Nat.reduceLeDiff, Nat.reduceEqDiff, Nat.le_refl, not_false_eq_true, not_true_eq_false, false_implies, true_implies, forall_const, true_and, and_true, if_true, if_false, implies_true, and_self, ne_eq, false_and, and_false, or_false, false_or, true_or, or_true]
      have A := (Ag.one (X := fun h k => h = u ∧ k = 0) (M := M) (h := u) (k := 0) (x := nN 0) ⟨rfl, rfl⟩).mono (Y := fun h k => h = u ∧ k = 0 ∨ h = u + 1) (fun h k z => Or.inl z)
      have A2 := A.trans (A1.mono (Y := fun h k => h = u ∧ k = 0 ∨ h = u + 1) (fun h k z => Or.inr z))
      refine ⟨KO.th ?_ (fun _ => rfl), m.tab A2 (fun h k z => by omega) ?_, A2.mono fun h k z => ⟨by omega, by omega⟩⟩
      · rw [A1.I (by omega), gI_sI, if_pos ⟨rfl, rfl⟩]
      · refine ⟨by rw [A2.S, A2.P]; exact s, funext fun j => ?_⟩
        rw [e1]
        rfl
theorem k_end (m : MI M u a ak img n b fl) (hn : n ≤ 400) (hm9 : q ≤ n) : mw (d + 4) 59 [.ref u, .int (nN q)] M (fun o M' => KO M' u 0 (nN 1) o ∧ MI M' u a ak img q b fl ∧ Ag (XU u) M M') := by
  have s := m.mr.1
  have hm := m.mr
  have tn : gI (sI M u 0 (nN 0)) u 6 = nN n := by rw [gI_sI, if_neg (by omega)]; exact m.tn
  have i1 : nN 0 ≤ nN q ∧ nN q ≤ nN n := by rw [nN_le (by omega) (by omega), nN_le (by omega) (by omega)]; omega
  simp (disch := omega) only [m_59, q_aload0, q_aload0N, q_iconst, q_put_i, pTag_1, q_iload1, q_get_i, pRf_s, q_invs3_20, q_if_ne, q_zret, e_59_0, e_59_1, L_0, L_1, k_some, k_none, pRm_i, pRm_r, pRm_0, pF_1, pF_2, inv_s, s.k0, gS_sI, tn, isI_t i1, gS_sI, gP_sI, gI_sI, Nat.add_left_cancel_iff, Nat.add_eq_left, Nat.left_eq_add, zb_1, nN_le, nN_lt, nN_eq, nN_add, nN_mul, nN_lt0, nN_ge0, nN_gt0, nN_le0, nN_eq0, nN_eq1, nN_neN, pIn_n, pIx_n, eq_self, Nat.reduceLT, Bool.false_eq_true, Nat.add_zero, Nat.zero_add, Nat.reduceAdd, Nat.reduceMul, Nat.reduceSub, Nat.zero_le, Nat.reduceLeDiff, Nat.reduceEqDiff, Nat.le_refl, not_false_eq_true, not_true_eq_false, false_implies, true_implies, forall_const, true_and, and_true, if_true, if_false, implies_true, and_self, ne_eq, false_and, and_false, or_false, false_or, true_or, or_true]
  refine ⟨KO.th (by rw [gI_sI, if_neg (by omega), gI_sI, if_pos ⟨rfl, rfl⟩]) (fun _ => rfl), MI.mk ?_ ?_ ?_ ?_ ?_ ?_, XU_0.trans (Ag.one ⟨Nat.le_refl _, by omega⟩)⟩
  · exact (hm.ag (Ag.one (X := fun h k => h = u ∧ k = 0) ⟨rfl, rfl⟩) (fun k z => by omega)).ag (Ag.one (X := fun h k => h = u ∧ k = 6) ⟨rfl, rfl⟩) (fun k z => by omega)
  · intro h k hk; rw [gI_sI, if_neg (by omega), gI_sI, if_neg (by omega)]; exact m.ik h k hk
  · rw [gI_sI, if_neg (by omega), gI_sI, if_neg (by omega)]; exact m.hi
  · rw [gI_sI, if_pos ⟨rfl, rfl⟩]
  · intro k hk; rw [gI_sI, if_neg (by omega), gI_sI, if_neg (by omega)]; exact m.tb k (by omega)
  · rw [gI_sI, if_neg (by omega), gI_sI, if_neg (by omega)]; exact m.fo
theorem k_end_n (m : MI M u a ak img n b fl) (hn : n ≤ 400) (hx : ¬ Ix (n + 1) x) : mw (d + 4) 59 [.ref u, .int x] M (fun o M' => KO M' u 0 (nN 0) o ∧ MI M' u a ak img n b fl ∧ Ag (XU u) M M') := by
  have s := m.mr.1
  have hm := m.mr
  have tn : gI (sI M u 0 (nN 0)) u 6 = nN n := by rw [gI_sI, if_neg (by omega)]; exact m.tn
  have i1 : ¬ (nN 0 ≤ x ∧ x ≤ nN n) := by rw [show nN n = nN (n + 1) - nN 1 from by rw [nN_subN (by omega)]; rfl, Ix_le (by omega)]; exact hx
  simp (disch := omega) only [m_59, q_aload0, q_aload0N, q_iconst, q_put_i, pTag_1, q_iload1, q_get_i, pRf_s, q_invs3_20, q_if_ne, q_zret, e_59_0, e_59_1, L_0, L_1, k_some, k_none, pRm_i, pRm_r, pRm_0, pF_1, pF_2, inv_s, s.k0, gS_sI, tn, isI_f i1, gS_sI, gP_sI, gI_sI, Nat.add_left_cancel_iff, Nat.add_eq_left, Nat.left_eq_add, zb_0, nN_le, nN_lt, nN_eq, nN_add, nN_mul, nN_lt0, nN_ge0, nN_gt0, nN_le0, nN_eq0, nN_eq1, nN_neN, pIn_n, pIx_n, eq_self, Nat.reduceLT, Bool.false_eq_true, Nat.add_zero, Nat.zero_add, Nat.reduceAdd, Nat.reduceMul, Nat.reduceSub, Nat.zero_le, Nat.reduceLeDiff, Nat.reduceEqDiff, Nat.le_refl, not_false_eq_true, not_true_eq_false, false_implies, true_implies, forall_const, true_and, and_true, if_true, if_false, implies_true, and_self, ne_eq, false_and, and_false, or_false, false_or, true_or, or_true]
  exact ⟨KO.one.mpr (fun _ => rfl), m.th, XU_0⟩
theorem k_feed_n (m : MI M u a ak img n b fl) (hn : n ≤ 400) (h : ¬ n + 20 ≤ 400) : mw (d + 4) 58 [.ref u, .int v0, .int v1, .int v2, .int v3, .int v4] M (fun o M' => KO M' u 0 (iN (-1)) o ∧ MI M' u a ak img n b fl ∧ Ag (XU u) M M') := by
  have s := m.mr.1
  have hm := m.mr
  have tn : gI (sI M u 0 (nN 0)) u 6 = nN n := by rw [gI_sI, if_neg (by omega)]; exact m.tn
  simp (disch := omega) only [m_58, q_aload0, q_aload0N, q_iconst, q_put_i, pTag_1, q_get_i, pRf_s, q_bipush, q_iadd, q_sipush, q_ic_le, q_iret, q_istore6, q_nop, q_iload6, q_ic_ge, q_iload1, q_goto, q_iload2, q_iload3, q_iload4, q_iload5, q_istore7, q_get_r, q_iload7, q_irem, q_imul, q_isub, q_iushr, q_iand, q_iast, q_dup_i, q_dup_r, q_iinc6, e_58_0, e_58_1, e_58_3, e_58_4, e_58_5, e_58_6, e_58_7, e_58_8, L_0, L_1, L_4, L_8, L_12, L_16, L_20, L_24, L_255, L_400, s.k0, gS_sI, tn, h, gS_sI, gP_sI, gI_sI, Nat.add_left_cancel_iff, Nat.add_eq_left, Nat.left_eq_add, nN_le, nN_lt, nN_eq, nN_add, nN_mul, nN_lt0, nN_ge0, nN_gt0, nN_le0, nN_eq0, nN_eq1, nN_neN, pIn_n, pIx_n, eq_self, Nat.reduceLT, Bool.false_eq_true, Nat.add_zero, Nat.zero_add, Nat.reduceAdd, Nat.reduceMul, Nat.reduceSub, Nat.zero_le, Nat.reduceLeDiff, Nat.reduceEqDiff, Nat.le_refl, not_false_eq_true, not_true_eq_false, false_implies, true_implies, forall_const, true_and, and_true, if_true, if_false, implies_true, and_self, ne_eq, false_and, and_false, or_false, false_or, true_or, or_true]
  exact ⟨KO.one.mpr (fun _ => rfl), m.th, XU_0⟩
theorem k_feed (m : MI M u a ak img n b fl) (hn : n + 20 ≤ 400) : mw (d + 4) 58 [.ref u, .int v0, .int v1, .int v2, .int v3, .int v4] M (fun o M' => KO M' u 0 (nN (n + 20)) o ∧ MI M' u a ak img (n + 20) (fNew b n v0 v1 v2 v3 v4) fl ∧ Ag (XU u) M M') := by
  have s := m.mr.1
  have hm := m.mr
  have tn : gI (sI M u 0 (nN 0)) u 6 = nN n := by rw [gI_sI, if_neg (by omega)]; exact m.tn
  simp (disch := omega) only [m_58, q_aload0, q_aload0N, q_iconst, q_put_i, pTag_1, q_get_i, pRf_s, q_bipush, q_iadd, q_sipush, q_ic_le, q_iret, q_istore6, q_nop, q_iload6, q_ic_ge, q_iload1, q_goto, q_iload2, q_iload3, q_iload4, q_iload5, q_istore7, q_get_r, q_iload7, q_irem, q_imul, q_isub, q_iushr, q_iand, q_iast, q_dup_i, q_dup_r, q_iinc6, e_58_0, e_58_1, e_58_3, e_58_4, e_58_5, e_58_6, e_58_7, e_58_8, L_0, L_1, L_4, L_8, L_12, L_16, L_20, L_24, L_255, L_400, s.k0, gS_sI, tn, hn, gS_sI, gP_sI, gI_sI, Nat.add_left_cancel_iff, Nat.add_eq_left, Nat.left_eq_add, nN_le, nN_lt, nN_eq, nN_add, nN_mul, nN_lt0, nN_ge0, nN_gt0, nN_le0, nN_eq0, nN_eq1, nN_neN, pIn_n, pIx_n, eq_self, Nat.reduceLT, Bool.false_eq_true, Nat.add_zero, Nat.zero_add, Nat.reduceAdd, Nat.reduceMul, Nat.reduceSub, Nat.zero_le, Nat.reduceLeDiff, Nat.reduceEqDiff, Nat.le_refl, not_false_eq_true, not_true_eq_false, false_implies, true_implies, forall_const, true_and, and_true, if_true, if_false, implies_true, and_self, ne_eq, false_and, and_false, or_false, false_or, true_or, or_true]
  refine loopR (n := 20) (J := Option Value) (C := fun k _ z M => ([some (.ref u), some (.int v0), some (.int v1), some (.int v2), some (.int v3), some (.int v4), some (.int (nN k)), z], [], M)) (f := fun _ (_ : Unit) => ()) (R := fun k _ M1 => Ag (fun h k => h = u + 4 ∨ (h = u ∧ k = 6)) (sI M u 0 (nN 0)) M1 ∧ gI M1 u 6 = nN (n + k) ∧ ∀ i, i < n + k → gI M1 (u + 4) i = nN (fNew b n v0 v1 v2 v3 v4 i)) ?_ 20 0 () _ _ (by omega) ⟨Ag.rfl, tn, fun i h => ?_⟩ ?_
  · rintro k _ zz M1 hk ⟨A1, n1, e1⟩ go
    have k0 := s.k0
    have k4 := s.k4
    have p5 := s.p5
    rw [← (gS_sI (M := M) (h := u) (k := 0) (x := nN 0)), ← A1.S] at k0 k4
    rw [← (gP_sI (M := M) (h := u) (k := 0) (x := nN 0)), ← A1.P] at p5
    have h3 : ¬ 20 ≤ k := by omega
    have fin : ∀ v, v = fArg v0 v1 v2 v3 v4 (k / 4) → bw (d + 3) 58 7 ([some (.ref u), some (.int v0), some (.int v1), some (.int v2), some (.int v3), some (.int v4), some (.int (nN k)), zz], [.int v], M1) (fun o M' => KO M' u 0 (nN (n + 20)) o ∧ MI M' u a ak img (n + 20) (fNew b n v0 v1 v2 v3 v4) fl ∧ Ag (XU u) M M') := by
      intro v hv
      have hx : n + k < 400 := by omega
      rw [e_58_7]
      simp (disch := omega) only [q_aload0, q_aload0N, q_iconst, q_put_i, pTag_1, q_get_i, pRf_s, q_bipush, q_iadd, q_sipush, q_ic_le, q_iret, q_istore6, q_nop, q_iload6, q_ic_ge, q_iload1, q_goto, q_iload2, q_iload3, q_iload4, q_iload5, q_istore7, q_get_r, q_iload7, q_irem, q_imul, q_isub, q_iushr, q_iand, q_iast, q_dup_i, q_dup_r, q_iinc6, e_58_0, e_58_1, e_58_3, e_58_4, e_58_5, e_58_6, e_58_7, e_58_8, L_0, L_1, L_4, L_8, L_12, L_16, L_20, L_24, L_255, L_400, k0, k4, p5, n1, hx, pIn_n, pIx_n, e24 k hk, shr_byte (v := v) (s := 24 - 8 * (k % 4)) (by omega), fB_ok.2, gS_sI, nN_le, nN_lt, nN_eq, nN_add, nN_mul, nN_lt0, nN_ge0, nN_gt0, nN_le0, nN_eq0, nN_eq1, nN_neN, pIn_n, pIx_n, eq_self, Nat.reduceLT, Bool.false_eq_true, Nat.add_zero, Nat.zero_add, Nat.reduceAdd, Nat.reduceMul, Nat.reduceSub, Nat.zero_le, Nat.reduceLeDiff, Nat.reduceEqDiff, Nat.le_refl, not_false_eq_true, not_true_eq_false, false_implies, true_implies, forall_const, true_and, and_true, if_true, if_false, implies_true, and_self, ne_eq, false_and, and_false, or_false, false_or, true_or, or_true]
      rw [gI_sI, if_neg (by omega), n1]
      have e0 : nN (n + k) + nN 1 = nN (n + (k + 1)) := nN_add _ _
      rw [e0]
      refine go _ _ ⟨Ag.put (Ag.put A1 (Or.inl rfl)) (Or.inr ⟨rfl, rfl⟩), by rw [gI_sI, if_pos ⟨rfl, rfl⟩], ?_⟩
      intro i hi
      rw [gI_sI, if_neg (by omega), gI_sI]
      by_cases c : i = n + k
      · rw [if_pos ⟨rfl, c⟩]
        unfold fNew
        rw [if_neg (by omega), show i - n = k from by omega, ← hv]
      · rw [if_neg (fun z => c z.2)]
        exact e1 i (by omega)
    rw [e_58_2]
    by_cases c1 : k < 4
    · have q : v0 = fArg v0 v1 v2 v3 v4 (k / 4) := by rw [show k / 4 = 0 from by omega]; rfl
      have c1' : ¬ 4 ≤ k := by omega
      simp (disch := omega) only [q_aload0, q_aload0N, q_iconst, q_put_i, pTag_1, q_get_i, pRf_s, q_bipush, q_iadd, q_sipush, q_ic_le, q_iret, q_istore6, q_nop, q_iload6, q_ic_ge, q_iload1, q_goto, q_iload2, q_iload3, q_iload4, q_iload5, q_istore7, q_get_r, q_iload7, q_irem, q_imul, q_isub, q_iushr, q_iand, q_iast, q_dup_i, q_dup_r, q_iinc6, e_58_0, e_58_1, e_58_3, e_58_4, e_58_5, e_58_6, e_58_8, L_0, L_1, L_4, L_8, L_12, L_16, L_20, L_24, L_255, L_400, h3, c1', nN_le, nN_lt, nN_eq, nN_add, nN_mul, nN_lt0, nN_ge0, nN_gt0, nN_le0, nN_eq0, nN_eq1, nN_neN, pIn_n, pIx_n, eq_self, Nat.reduceLT, Bool.false_eq_true, Nat.add_zero, Nat.zero_add, Nat.reduceAdd, Nat.reduceMul, Nat.reduceSub, Nat.zero_le, Nat.reduceLeDiff, Nat.reduceEqDiff, Nat.le_refl, not_false_eq_true, not_true_eq_false, false_implies, true_implies, forall_const, true_and, and_true, if_true, if_false, implies_true, and_self, ne_eq, false_and, and_false, or_false, false_or, true_or, or_true]
      exact fin _ q
    by_cases c2 : k < 8
    · have q : v1 = fArg v0 v1 v2 v3 v4 (k / 4) := by rw [show k / 4 = 1 from by omega]; rfl
      have c1' : 4 ≤ k := by omega
      have c2' : ¬ 8 ≤ k := by omega
      simp (disch := omega) only [q_aload0, q_aload0N, q_iconst, q_put_i, pTag_1, q_get_i, pRf_s, q_bipush, q_iadd, q_sipush, q_ic_le, q_iret, q_istore6, q_nop, q_iload6, q_ic_ge, q_iload1, q_goto, q_iload2, q_iload3, q_iload4, q_iload5, q_istore7, q_get_r, q_iload7, q_irem, q_imul, q_isub, q_iushr, q_iand, q_iast, q_dup_i, q_dup_r, q_iinc6, e_58_0, e_58_1, e_58_3, e_58_4, e_58_5, e_58_6, e_58_8, L_0, L_1, L_4, L_8, L_12, L_16, L_20, L_24, L_255, L_400, h3, c1', c2', nN_le, nN_lt, nN_eq, nN_add, nN_mul, nN_lt0, nN_ge0, nN_gt0, nN_le0, nN_eq0, nN_eq1, nN_neN, pIn_n, pIx_n, eq_self, Nat.reduceLT, Bool.false_eq_true, Nat.add_zero, Nat.zero_add, Nat.reduceAdd, Nat.reduceMul, Nat.reduceSub, Nat.zero_le, Nat.reduceLeDiff, Nat.reduceEqDiff, Nat.le_refl, not_false_eq_true, not_true_eq_false, false_implies, true_implies, forall_const, true_and, and_true, if_true, if_false, implies_true, and_self, ne_eq, false_and, and_false, or_false, false_or, true_or, or_true]
      exact fin _ q
    by_cases c3 : k < 12
    · have q : v2 = fArg v0 v1 v2 v3 v4 (k / 4) := by rw [show k / 4 = 2 from by omega]; rfl
      have c1' : 4 ≤ k := by omega
      have c2' : 8 ≤ k := by omega
      have c3' : ¬ 12 ≤ k := by omega
      simp (disch := omega) only [q_aload0, q_aload0N, q_iconst, q_put_i, pTag_1, q_get_i, pRf_s, q_bipush, q_iadd, q_sipush, q_ic_le, q_iret, q_istore6, q_nop, q_iload6, q_ic_ge, q_iload1, q_goto, q_iload2, q_iload3, q_iload4, q_iload5, q_istore7, q_get_r, q_iload7, q_irem, q_imul, q_isub, q_iushr, q_iand, q_iast, q_dup_i, q_dup_r, q_iinc6, e_58_0, e_58_1, e_58_3, e_58_4, e_58_5, e_58_6, e_58_8, L_0, L_1, L_4, L_8, L_12, L_16, L_20, L_24, L_255, L_400, h3, c1', c2', c3', nN_le, nN_lt, nN_eq, nN_add, nN_mul, nN_lt0, nN_ge0, nN_gt0, nN_le0, nN_eq0, nN_eq1, nN_neN, pIn_n, pIx_n, eq_self, Nat.reduceLT, Bool.false_eq_true, Nat.add_zero, Nat.zero_add, Nat.reduceAdd, Nat.reduceMul, Nat.reduceSub, Nat.zero_le, Nat.reduceLeDiff, Nat.reduceEqDiff, Nat.le_refl, not_false_eq_true, not_true_eq_false, false_implies, true_implies, forall_const, true_and, and_true, if_true, if_false, implies_true, and_self, ne_eq, false_and, and_false, or_false, false_or, true_or, or_true]
      exact fin _ q
    by_cases c4 : k < 16
    · have q : v3 = fArg v0 v1 v2 v3 v4 (k / 4) := by rw [show k / 4 = 3 from by omega]; rfl
      have c1' : 4 ≤ k := by omega
      have c2' : 8 ≤ k := by omega
      have c3' : 12 ≤ k := by omega
      have c4' : ¬ 16 ≤ k := by omega
      simp (disch := omega) only [q_aload0, q_aload0N, q_iconst, q_put_i, pTag_1, q_get_i, pRf_s, q_bipush, q_iadd, q_sipush, q_ic_le, q_iret, q_istore6, q_nop, q_iload6, q_ic_ge, q_iload1, q_goto, q_iload2, q_iload3, q_iload4, q_iload5, q_istore7, q_get_r, q_iload7, q_irem, q_imul, q_isub, q_iushr, q_iand, q_iast, q_dup_i, q_dup_r, q_iinc6, e_58_0, e_58_1, e_58_3, e_58_4, e_58_5, e_58_6, e_58_8, L_0, L_1, L_4, L_8, L_12, L_16, L_20, L_24, L_255, L_400, h3, c1', c2', c3', c4', nN_le, nN_lt, nN_eq, nN_add, nN_mul, nN_lt0, nN_ge0, nN_gt0, nN_le0, nN_eq0, nN_eq1, nN_neN, pIn_n, pIx_n, eq_self, Nat.reduceLT, Bool.false_eq_true, Nat.add_zero, Nat.zero_add, Nat.reduceAdd, Nat.reduceMul, Nat.reduceSub, Nat.zero_le, Nat.reduceLeDiff, Nat.reduceEqDiff, Nat.le_refl, not_false_eq_true, not_true_eq_false, false_implies, true_implies, forall_const, true_and, and_true, if_true, if_false, implies_true, and_self, ne_eq, false_and, and_false, or_false, false_or, true_or, or_true]
      exact fin _ q
    · have q : v4 = fArg v0 v1 v2 v3 v4 (k / 4) := by rw [show k / 4 = 4 from by omega]; rfl
      have c1' : 4 ≤ k := by omega
      have c2' : 8 ≤ k := by omega
      have c3' : 12 ≤ k := by omega
      have c4' : 16 ≤ k := by omega
      simp (disch := omega) only [q_aload0, q_aload0N, q_iconst, q_put_i, pTag_1, q_get_i, pRf_s, q_bipush, q_iadd, q_sipush, q_ic_le, q_iret, q_istore6, q_nop, q_iload6, q_ic_ge, q_iload1, q_goto, q_iload2, q_iload3, q_iload4, q_iload5, q_istore7, q_get_r, q_iload7, q_irem, q_imul, q_isub, q_iushr, q_iand, q_iast, q_dup_i, q_dup_r, q_iinc6, e_58_0, e_58_1, e_58_3, e_58_4, e_58_5, e_58_6, e_58_8, L_0, L_1, L_4, L_8, L_12, L_16, L_20, L_24, L_255, L_400, h3, c1', c2', c3', c4', nN_le, nN_lt, nN_eq, nN_add, nN_mul, nN_lt0, nN_ge0, nN_gt0, nN_le0, nN_eq0, nN_eq1, nN_neN, pIn_n, pIx_n, eq_self, Nat.reduceLT, Bool.false_eq_true, Nat.add_zero, Nat.zero_add, Nat.reduceAdd, Nat.reduceMul, Nat.reduceSub, Nat.zero_le, Nat.reduceLeDiff, Nat.reduceEqDiff, Nat.le_refl, not_false_eq_true, not_true_eq_false, false_implies, true_implies, forall_const, true_and, and_true, if_true, if_false, implies_true, and_self, ne_eq, false_and, and_false, or_false, false_or, true_or, or_true]
      exact fin _ q
  · rw [gI_sI, if_neg (by omega)]
    unfold fNew
    rw [if_pos (by omega)]
    exact m.tb i (by omega)
  · rintro M1 _ ⟨A1, n1, e1⟩
    have k0 := s.k0
    rw [← (gS_sI (M := M) (h := u) (k := 0) (x := nN 0)), ← A1.S] at k0
    rw [e_58_2]
    simp (disch := omega) only [q_aload0, q_aload0N, q_iconst, q_put_i, pTag_1, q_get_i, pRf_s, q_bipush, q_iadd, q_sipush, q_ic_le, q_iret, q_istore6, q_nop, q_iload6, q_ic_ge, q_iload1, q_goto, q_iload2, q_iload3, q_iload4, q_iload5, q_istore7, q_get_r, q_iload7, q_irem, q_imul, q_isub, q_iushr, q_iand, q_iast, q_dup_i, q_dup_r, q_iinc6, e_58_0, e_58_1, e_58_3, e_58_4, e_58_5, e_58_6, e_58_7, e_58_8, L_0, L_1, L_4, L_8, L_12, L_16, L_20, L_24, L_255, L_400, k0, n1, nN_le, nN_lt, nN_eq, nN_add, nN_mul, nN_lt0, nN_ge0, nN_gt0, nN_le0, nN_eq0, nN_eq1, nN_neN, pIn_n, pIx_n, eq_self, Nat.reduceLT, Bool.false_eq_true, Nat.add_zero, Nat.zero_add, Nat.reduceAdd, Nat.reduceMul, Nat.reduceSub, Nat.zero_le, Nat.reduceLeDiff, Nat.reduceEqDiff, Nat.le_refl, not_false_eq_true, not_true_eq_false, false_implies, true_implies, forall_const, true_and, and_true, if_true, if_false, implies_true, and_self, ne_eq, false_and, and_false, or_false, false_or, true_or, or_true]
    refine ⟨KO.th ?_ (fun _ => rfl), MI.mk ?_ ?_ ?_ ?_ ?_ ?_, XU_0.trans (A1.mono fun h k z => ⟨by omega, by omega⟩)⟩
    · rw [A1.I (by omega), gI_sI, if_pos ⟨rfl, rfl⟩]
    · exact (hm.ag (Ag.one (X := fun h k => h = u ∧ k = 0) ⟨rfl, rfl⟩) (fun k z => by omega)).ag A1 (fun k z => by omega)
    · intro h k hk; rw [A1.I (by omega), gI_sI, if_neg (by omega)]; exact m.ik h k hk
    · rw [A1.I (by omega), gI_sI, if_neg (by omega)]; exact m.hi
    · exact n1
    · exact e1
    · rw [A1.I (by omega), gI_sI, if_neg (by omega)]; exact m.fo
end KI
