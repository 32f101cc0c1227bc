/-! play: the class's run -/
def XPl (S : Nat → Nat × Nat) (P : Nat → Nat → Option Nat) (h k : Nat) : Prop := XTw S P 47 h k ∨ h = 85
/-- the counts of the days played -/
def CnO (M : pMem) (c : Int32 × Int32 × Int32) : Prop := gI M 85 1 = c.1 ∧ gI M 85 2 = c.2.1 ∧ gI M 85 3 = c.2.2
def PlO (M : pMem) (a : Nat → Int32) (K : Nat) (s : tPl) (M1 : pMem) : Prop := Pk a s.1 K ∧ Rep M1 47 s.1 ∧ gI M1 85 0 = s.2.1 ∧ CnO M1 s.2.2 ∧ Ag (XPl (gS M) (gP M)) M M1
section CR
variable {d t u n p q f g m e K k dd : Nat} {n' : Nat} {b b' : Nat → Nat} {a a0 a' ak : Nat → Int32} {img fc : Bool} {fl : Int32} {M M0 M1 M' : pMem} {Q : pOut → pMem → Prop} {x y z v w : Int32} {X Y : Nat} {s : tPl} {c : Int32 × Int32 × Int32}
theorem XPl_XA {S : Nat → Nat × Nat} {P : Nat → Nat → Option Nat} : ∀ h k, XTw S P 47 h k → XA S P h k := fun h k z => XTw_XA (by omega) h k z
theorem w_tally (h : gS M 85 = (3, 0)) {r i : Int32} : mw (d + 1) 167 [.ref 85, .int r, .int i] M Q = Q (.inl none) (if r = iN (-1) then sI M 85 3 (gI M 85 3 + nN 1) else if i = nN 0 then sI M 85 1 (gI M 85 1 + nN 1) else sI M 85 2 (gI M 85 2 + nN 1)) := by
  by_cases c1 : r = iN (-1)
  · simp (disch := omega) only [m_167, q_iload1, q_iconst, q_ic_ne, q_aload0, q_aload0N, q_dup_i, q_dup_r, q_get_i, pTag_1, pRf_s, q_iadd, q_put_i, q_goto, q_iload2, q_if_eq, q_nop, q_vret, e_167_0, e_167_1, e_167_2, e_167_3, L_1, h, c1, nN_le, nN_lt, nN_eq, nN_add, nN_mul, nN_lt0, nN_ge0, nN_gt0, nN_le0, nN_eq0, nN_eq1, nN_neN, pIn_n, pIx_n, eq_self, Nat.reduceLT, Bool.false_eq_true, Nat.add_zero, Nat.zero_add, Nat.reduceAdd, Nat.reduceMul, Nat.reduceSub, Nat.zero_le, Nat.reduceLeDiff, Nat.reduceEqDiff, Nat.le_refl, not_false_eq_true, not_true_eq_false, false_implies, true_implies, forall_const, true_and, and_true, if_true, if_false, implies_true, and_self, ne_eq, false_and, and_false, or_false, false_or, true_or, or_true]
  · by_cases c2 : i = nN 0
    · simp (disch := omega) only [m_167, q_iload1, q_iconst, q_ic_ne, q_aload0, q_aload0N, q_dup_i, q_dup_r, q_get_i, pTag_1, pRf_s, q_iadd, q_put_i, q_goto, q_iload2, q_if_eq, q_nop, q_vret, e_167_0, e_167_1, e_167_2, e_167_3, L_1, h, c1, c2, zb_0, nN_le, nN_lt, nN_eq, nN_add, nN_mul, nN_lt0, nN_ge0, nN_gt0, nN_le0, nN_eq0, nN_eq1, nN_neN, pIn_n, pIx_n, eq_self, Nat.reduceLT, Bool.false_eq_true, Nat.add_zero, Nat.zero_add, Nat.reduceAdd, Nat.reduceMul, Nat.reduceSub, Nat.zero_le, Nat.reduceLeDiff, Nat.reduceEqDiff, Nat.le_refl, not_false_eq_true, not_true_eq_false, false_implies, true_implies, forall_const, true_and, and_true, if_true, if_false, implies_true, and_self, ne_eq, false_and, and_false, or_false, false_or, true_or, or_true]
    · have c3 : ¬ i = 0 := c2
      simp (disch := omega) only [m_167, q_iload1, q_iconst, q_ic_ne, q_aload0, q_aload0N, q_dup_i, q_dup_r, q_get_i, pTag_1, pRf_s, q_iadd, q_put_i, q_goto, q_iload2, q_if_eq, q_nop, q_vret, e_167_0, e_167_1, e_167_2, e_167_3, L_1, h, c1, c2, c3, nN_le, nN_lt, nN_eq, nN_add, nN_mul, nN_lt0, nN_ge0, nN_gt0, nN_le0, nN_eq0, nN_eq1, nN_neN, pIn_n, pIx_n, eq_self, Nat.reduceLT, Bool.false_eq_true, Nat.add_zero, Nat.zero_add, Nat.reduceAdd, Nat.reduceMul, Nat.reduceSub, Nat.zero_le, Nat.reduceLeDiff, Nat.reduceEqDiff, Nat.le_refl, not_false_eq_true, not_true_eq_false, false_implies, true_implies, forall_const, true_and, and_true, if_true, if_false, implies_true, and_self, ne_eq, false_and, and_false, or_false, false_or, true_or, or_true]
theorem set_nF (hw : Wf a) (hx : X < nP a) (hy : Y < nP a) : (sPays a X Y n).isSome = true ∧ nF (sSet a X Y n).1 = nF a ∨ (sPays a X Y n).isSome = false ∧ ((sSet a X Y n).2 = iN (-1) ∧ nF (sSet a X Y n).1 = nF a ∨ nF (sSet a X Y n).1 = nF a + 1) := by
  cases c : sPays a X Y n with
  | some f =>
    left
    refine ⟨rfl, ?_⟩
    unfold sSet
    rw [c]
    exact lo_nF (fun j hj => sCome_lo hj)
  | none =>
    right
    refine ⟨rfl, ?_⟩
    unfold sSet
    rw [c]
    dsimp only
    by_cases h : sCanGive a X Y n 0 false = true
    · rw [if_pos h]
      exact Or.inr (sGive_nF (sCan_lt h))
    · rw [if_neg h]
      exact Or.inl ⟨rfl, rfl⟩
theorem PlO.tm (hT : TmR M 47 a) (h : PlO M a K s M1) : TmR M1 47 s.1 := by
  obtain ⟨⟨w1, w2, w3⟩, R, e0, C, A⟩ := h
  have h85 : ∀ h k, XPl (gS M) (gP M) h k → XA (gS M) (gP M) h k := by
    rintro h k (z | z)
    · exact XTw_XA (t := 47) (by omega) h k z
    · exact Or.inl (by omega)
  exact (hT.agA (A.mono h85)).tab (by unfold nT; rw [w2.2.1]) (fun k _ => txt_hi w2.1)
/-- one person's turn, the draws kept apart -/
theorem run_y {a1 : Nat → Int32} {M2 M3 : pMem} {sd3 c1 c2 c3 : Int32} {n1 n2 : Nat} (h85 : gS M 85 = (3, 0)) (hK : K < 2000000) (PK : Pk a a1 K) (hX : X < nP a1) (R1 : Rep M1 47 a1) (k85 : gS M1 85 = (3, 0))
    (D1 : ∀ Q, mw (d + 13) 168 [.ref 85] M1 Q = Q (.inl (some (.int (nN n1)))) M2) (D2 : ∀ Q, mw (d + 13) 168 [.ref 85] M2 Q = Q (.inl (some (.int (nN n2)))) M3) (b1 : n1 < 32768) (b2 : n2 < 32768)
    (k85b : gS M2 85 = (3, 0)) (R2 : Rep M2 47 a1) (R3 : Rep M3 47 a1) (T3 : TmR M3 47 a1) (A3 : Ag (XPl (gS M) (gP M)) M M3) (e3 : gI M3 85 0 = sd3) (C3 : CnO M3 (c1, c2, c3)) {l2 l3 l4 z6 z7 z8 : Option Value}
    (go1 : n1 % nP a1 = X → ∀ z6 z7 z8, bw (d + 13) 166 2 ([some (.ref 85), some (.ref 47), l2, l3, l4, some (.int (nN (X + 1))), z6, z7, z8], [], M2) Q)
    (go : ¬ n1 % nP a1 = X → ∀ M' z6 z7 z8, PlO M a K ((sSet a1 X (n1 % nP a1) (n2 % 9 + 1)).1, sd3, plC a1 X (n1 % nP a1) (n2 % 9 + 1) (c1, c2, c3)) M' → bw (d + 13) 166 2 ([some (.ref 85), some (.ref 47), l2, l3, l4, some (.int (nN (X + 1))), z6, z7, z8], [], M') Q) :
    bw (d + 13) 166 2 ([some (.ref 85), some (.ref 47), l2, l3, l4, some (.int (nN X)), z6, z7, z8], [], M1) Q := by
  have hw := PK.1
  have hp' := hw.1.p'
  have hf' := hw.1.f'
  have hX1 : ¬ nP a1 ≤ X := by omega
  have mx : (if 1 < nP a1 then nN (nP a1) else nN 1) = nN (nP a1) := by
    by_cases h : 1 < nP a1
    · rw [if_pos h]
    · rw [if_neg h]; congr 1; omega
  have nz : ¬ nP a1 = 0 := by omega
  have r1 := nN_rem (a := n1) (b := nP a1) (by omega) (by omega)
  have r2 := nN_rem (a := n2) (b := 9) (by omega) (by omega)
  have y1 : n1 % nP a1 < nP a1 := Nat.mod_lt _ (by omega)
  have y2 : n2 % 9 < 9 := Nat.mod_lt _ (by omega)
  have k85' : (gS M1 85).1 = 3 := by rw [k85]
  have k85c : (gS M2 85).1 = 3 := by rw [k85b]
  rw [e_166_2]
  by_cases hy : n1 % nP a1 = X
  · simp (disch := omega) only [q_aload0, q_aload0N, q_iload2, q_put_i, pTag_1, q_iconst, q_istore4, q_nop, q_iload4, q_iload3, q_ic_ge, q_istore5, q_iload5, q_aload1, q_aload1N, q_get_r, pRf_s, q_get_i, q_invv0, inv_1, q_max, q_irem, q_istore6, q_iload6, q_ic_eq, q_istore7, q_bipush, q_iadd, q_invv3, q_istore8, q_iload8, q_iload7, q_ic_le, q_goto, q_invv2, q_iinc5, q_invv1, q_pop_i, q_pop_r, q_iinc4, q_vret, e_166_0, e_166_3, e_166_4, e_166_5, e_166_6, e_166_7, L_0, L_1, L_9, k_some, k_none, pRm_i, pRm_r, pRm_0, pF_1, pF_2, inv_s, R1.sh.k0, R1.nt, R1.ne, R1.nr, R1.nx, R1.day, R1.law, R1.sh.p0, R1.sh.p1, R1.sh.p2, R1.sh.p3, R1.sh.p4, R1.sh.p5, R1.sh.p6, R1.sh.p7, R1.sh.p8, R1.sh.k1, R1.np, R1.sh.q0, R1.sh.q1, R1.sh.q2, R1.sh.q3, R1.sh.q4, w_atN R1.sh.k2, w_atN R1.sh.k3, w_atN R1.sh.k4, w_atN R1.sh.k5, w_atN R1.sh.k6, R1.lim, R1.tmp, R1.near, R1.rich, R1.debt, R1.sh.k7, R1.nf, R1.sh.r0, R1.sh.r1, R1.sh.r2, R1.sh.r3, R1.sh.r4, R1.sh.r5, R1.sh.r6, w_atN R1.sh.k8, w_atN R1.sh.k9, w_atN R1.sh.k10, w_atN R1.sh.k11, w_atN R1.sh.k12, w_atN R1.sh.k13, w_atN R1.sh.k14, R1.g, R1.h, R1.am, R1.hd, R1.en, R1.fc, R2.sh.k0, R2.nt, R2.ne, R2.nr, R2.nx, R2.day, R2.law, R2.sh.p0, R2.sh.p1, R2.sh.p2, R2.sh.p3, R2.sh.p4, R2.sh.p5, R2.sh.p6, R2.sh.p7, R2.sh.p8, R2.sh.k1, R2.np, R2.sh.q0, R2.sh.q1, R2.sh.q2, R2.sh.q3, R2.sh.q4, w_atN R2.sh.k2, w_atN R2.sh.k3, w_atN R2.sh.k4, w_atN R2.sh.k5, w_atN R2.sh.k6, R2.lim, R2.tmp, R2.near, R2.rich, R2.debt, R2.sh.k7, R2.nf, R2.sh.r0, R2.sh.r1, R2.sh.r2, R2.sh.r3, R2.sh.r4, R2.sh.r5, R2.sh.r6, w_atN R2.sh.k8, w_atN R2.sh.k9, w_atN R2.sh.k10, w_atN R2.sh.k11, w_atN R2.sh.k12, w_atN R2.sh.k13, w_atN R2.sh.k14, R2.g, R2.h, R2.am, R2.hd, R2.en, R2.fc, hw.1.p, hw.1.f, hX1, D1, gS_sI, gP_sI, k85', mx, r1, nz, hy, gS_sI, gP_sI, gI_sI, Nat.add_left_cancel_iff, Nat.add_eq_left, Nat.left_eq_add, nN_le, nN_lt, nN_eq, nN_add, nN_mul, nN_lt0, nN_ge0, nN_gt0, nN_le0, nN_eq0, nN_eq1, nN_neN, pIn_n, pIx_n, eq_self, Nat.reduceLT, Bool.false_eq_true, Nat.add_zero, Nat.zero_add, Nat.reduceAdd, Nat.reduceMul, Nat.reduceSub, Nat.zero_le, Nat.reduceLeDiff, Nat.reduceEqDiff, Nat.le_refl, not_false_eq_true, not_true_eq_false, false_implies, true_implies, forall_const, true_and, and_true, if_true, if_false, implies_true, and_self, ne_eq, false_and, and_false, or_false, false_or, true_or, or_true]
    exact go1 hy _ _ _
  · simp (disch := omega) only [q_aload0, q_aload0N, q_iload2, q_put_i, pTag_1, q_iconst, q_istore4, q_nop, q_iload4, q_iload3, q_ic_ge, q_istore5, q_iload5, q_aload1, q_aload1N, q_get_r, pRf_s, q_get_i, q_invv0, inv_1, q_max, q_irem, q_istore6, q_iload6, q_ic_eq, q_istore7, q_bipush, q_iadd, q_invv3, q_istore8, q_iload8, q_iload7, q_ic_le, q_goto, q_invv2, q_iinc5, q_invv1, q_pop_i, q_pop_r, q_iinc4, q_vret, e_166_0, e_166_3, e_166_4, e_166_5, e_166_6, e_166_7, L_0, L_1, L_9, k_some, k_none, pRm_i, pRm_r, pRm_0, pF_1, pF_2, inv_s, R1.sh.k0, R1.nt, R1.ne, R1.nr, R1.nx, R1.day, R1.law, R1.sh.p0, R1.sh.p1, R1.sh.p2, R1.sh.p3, R1.sh.p4, R1.sh.p5, R1.sh.p6, R1.sh.p7, R1.sh.p8, R1.sh.k1, R1.np, R1.sh.q0, R1.sh.q1, R1.sh.q2, R1.sh.q3, R1.sh.q4, w_atN R1.sh.k2, w_atN R1.sh.k3, w_atN R1.sh.k4, w_atN R1.sh.k5, w_atN R1.sh.k6, R1.lim, R1.tmp, R1.near, R1.rich, R1.debt, R1.sh.k7, R1.nf, R1.sh.r0, R1.sh.r1, R1.sh.r2, R1.sh.r3, R1.sh.r4, R1.sh.r5, R1.sh.r6, w_atN R1.sh.k8, w_atN R1.sh.k9, w_atN R1.sh.k10, w_atN R1.sh.k11, w_atN R1.sh.k12, w_atN R1.sh.k13, w_atN R1.sh.k14, R1.g, R1.h, R1.am, R1.hd, R1.en, R1.fc, R2.sh.k0, R2.nt, R2.ne, R2.nr, R2.nx, R2.day, R2.law, R2.sh.p0, R2.sh.p1, R2.sh.p2, R2.sh.p3, R2.sh.p4, R2.sh.p5, R2.sh.p6, R2.sh.p7, R2.sh.p8, R2.sh.k1, R2.np, R2.sh.q0, R2.sh.q1, R2.sh.q2, R2.sh.q3, R2.sh.q4, w_atN R2.sh.k2, w_atN R2.sh.k3, w_atN R2.sh.k4, w_atN R2.sh.k5, w_atN R2.sh.k6, R2.lim, R2.tmp, R2.near, R2.rich, R2.debt, R2.sh.k7, R2.nf, R2.sh.r0, R2.sh.r1, R2.sh.r2, R2.sh.r3, R2.sh.r4, R2.sh.r5, R2.sh.r6, w_atN R2.sh.k8, w_atN R2.sh.k9, w_atN R2.sh.k10, w_atN R2.sh.k11, w_atN R2.sh.k12, w_atN R2.sh.k13, w_atN R2.sh.k14, R2.g, R2.h, R2.am, R2.hd, R2.en, R2.fc, R3.sh.k0, R3.nt, R3.ne, R3.nr, R3.nx, R3.day, R3.law, R3.sh.p0, R3.sh.p1, R3.sh.p2, R3.sh.p3, R3.sh.p4, R3.sh.p5, R3.sh.p6, R3.sh.p7, R3.sh.p8, hw.1.p, hw.1.f, hX1, D1, D2, gS_sI, gP_sI, k85', k85c, mx, r1, r2, nz, hy, gS_sI, gP_sI, gI_sI, Nat.add_left_cancel_iff, Nat.add_eq_left, Nat.left_eq_add, nN_le, nN_lt, nN_eq, nN_add, nN_mul, nN_lt0, nN_ge0, nN_gt0, nN_le0, nN_eq0, nN_eq1, nN_neN, pIn_n, pIx_n, eq_self, Nat.reduceLT, Bool.false_eq_true, Nat.add_zero, Nat.zero_add, Nat.reduceAdd, Nat.reduceMul, Nat.reduceSub, Nat.zero_le, Nat.reduceLeDiff, Nat.reduceEqDiff, Nat.le_refl, not_false_eq_true, not_true_eq_false, false_implies, true_implies, forall_const, true_and, and_true, if_true, if_false, implies_true, and_self, ne_eq, false_and, and_false, or_false, false_or, true_or, or_true]
    have hxy : X ≠ n1 % nP a1 := fun z => hy z.symm
    refine mw_mono (w_settle (d := d + 1) (t := 47) (x := X) (y := n1 % nP a1) (n := n2 % 9 + 1) R3 hw.1 T3 (hw.dy hK) (by omega) (show X < nP a1 by omega) y1 (by omega) (by omega) hxy) ?_
    rintro _ M4 ⟨rfl, R4, A4⟩
    have PS := pk_set (Y := n1 % nP a1) (n := n2 % 9 + 1) hw (show X < nP a1 by omega) y1 hxy (by omega) (by omega)
    have hw4 := PS.1
    have nf := set_nF (Y := n1 % nP a1) (n := n2 % 9 + 1) hw.1 (show X < nP a1 by omega) y1
    have f4 := hw4.1.f
    have hf4 := hw4.1.f'
    have ec : plC a1 X (n1 % nP a1) (n2 % 9 + 1) (c1, c2, c3) = if (sSet a1 X (n1 % nP a1) (n2 % 9 + 1)).2 = iN (-1) then (c1, c2, c3 + nN 1) else if (sPays a1 X (n1 % nP a1) (n2 % 9 + 1)).isSome = true then (c1 + nN 1, c2, c3) else (c1, c2 + nN 1, c3) := rfl
    have go := go hy
    rw [ec] at go
    clear ec
    generalize n1 % nP a1 = yy at *
    generalize n2 % 9 + 1 = nn at *
    have N4 : ∀ h k, h = 85 → gI M4 h k = gI M3 h k := fun h k e => A4.I (by
      rw [e]
      rintro (z | ⟨q, hq, z⟩)
      · omega
      · obtain ⟨q1, -⟩ := hq
        rcases z with z | ⟨z, -⟩ <;> omega)
    have k85d : gS M4 85 = (3, 0) := by rw [A4.S, A3.S]; exact h85
    have A34 : Ag (XPl (gS M) (gP M)) M M4 := A3.trans (by
      have := A4
      rw [A3.S, A3.P] at this
      exact this.mono fun h k z => Or.inl z)
    have R85 : ∀ k v, Rep (sI M4 85 k v) 47 (sSet a1 X yy nn).1 := fun k v => R4.ag (Ag.one (X := fun h _ => h = 85) rfl) (fun h k h1 h2 h3 h4 => by omega)
    have PKs := PK.trans PS
    have e4 : gI M4 85 0 = sd3 := by rw [N4 _ _ rfl]; exact e3
    have g1 : gI M4 85 1 = c1 := by rw [N4 _ _ rfl]; exact C3.1
    have g2 : gI M4 85 2 = c2 := by rw [N4 _ _ rfl]; exact C3.2.1
    have g3 : gI M4 85 3 = c3 := by rw [N4 _ _ rfl]; exact C3.2.2
    have nP9 : ∀ k v, gI (sI M4 85 (k + 1) v) 85 0 = sd3 := fun k v => by rw [gI_sI, if_neg (by omega)]; exact e4
    have bad : (sSet a1 X yy nn).2 = iN (-1) → ∀ M' z6 z7 z8, M' = sI M4 85 3 (c3 + nN 1) → bw (d + 13) 166 2 ([some (.ref 85), some (.ref 47), l2, l3, l4, some (.int (nN (X + 1))), z6, z7, z8], [], M') Q := by
      rintro h M' z6 z7 z8 rfl
      rw [if_pos h] at go
      refine go _ _ _ _ ⟨PKs, R85 _ _, nP9 _ _, ⟨?_, ?_, ?_⟩, Ag.put A34 (Or.inr rfl)⟩
      · rw [gI_sI, if_neg (by omega)]; exact g1
      · rw [gI_sI, if_neg (by omega)]; exact g2
      · rw [gI_sI, if_pos ⟨rfl, rfl⟩]
    have ok : ¬ (sSet a1 X yy nn).2 = iN (-1) → (sPays a1 X yy nn).isSome = true → ∀ M' z6 z7 z8, M' = sI M4 85 1 (c1 + nN 1) → bw (d + 13) 166 2 ([some (.ref 85), some (.ref 47), l2, l3, l4, some (.int (nN (X + 1))), z6, z7, z8], [], M') Q := by
      rintro h h' M' z6 z7 z8 rfl
      rw [if_neg h, if_pos h'] at go
      refine go _ _ _ _ ⟨PKs, R85 _ _, nP9 _ _, ⟨?_, ?_, ?_⟩, Ag.put A34 (Or.inr rfl)⟩
      · rw [gI_sI, if_pos ⟨rfl, rfl⟩]
      · rw [gI_sI, if_neg (by omega)]; exact g2
      · rw [gI_sI, if_neg (by omega)]; exact g3
    have nu : ¬ (sSet a1 X yy nn).2 = iN (-1) → (sPays a1 X yy nn).isSome = false → ∀ M' z6 z7 z8, M' = sI M4 85 2 (c2 + nN 1) → bw (d + 13) 166 2 ([some (.ref 85), some (.ref 47), l2, l3, l4, some (.int (nN (X + 1))), z6, z7, z8], [], M') Q := by
      rintro h h' M' z6 z7 z8 rfl
      rw [if_neg h, if_neg (by rw [h']; exact Bool.false_ne_true)] at go
      refine go _ _ _ _ ⟨PKs, R85 _ _, nP9 _ _, ⟨?_, ?_, ?_⟩, Ag.put A34 (Or.inr rfl)⟩
      · rw [gI_sI, if_neg (by omega)]; exact g1
      · rw [gI_sI, if_pos ⟨rfl, rfl⟩]
      · rw [gI_sI, if_neg (by omega)]; exact g3
    by_cases hb : (sSet a1 X yy nn).2 = iN (-1)
    · by_cases h9 : nF (sSet a1 X yy nn).1 ≤ nF a1
      · simp (disch := omega) only [q_aload0, q_aload0N, q_iload2, q_put_i, pTag_1, q_iconst, q_istore4, q_nop, q_iload4, q_iload3, q_ic_ge, q_istore5, q_iload5, q_aload1, q_aload1N, q_get_r, pRf_s, q_get_i, q_invv0, inv_1, q_max, q_irem, q_istore6, q_iload6, q_ic_eq, q_istore7, q_bipush, q_iadd, q_invv3, q_istore8, q_iload8, q_iload7, q_ic_le, q_goto, q_invv2, q_iinc5, q_invv1, q_pop_i, q_pop_r, q_iinc4, q_vret, e_166_0, e_166_3, e_166_4, e_166_5, e_166_6, e_166_7, L_0, L_1, L_9, k_some, k_none, pRm_i, pRm_r, pRm_0, pF_1, pF_2, inv_s, R4.sh.k0, R4.nt, R4.ne, R4.nr, R4.nx, R4.day, R4.law, R4.sh.p0, R4.sh.p1, R4.sh.p2, R4.sh.p3, R4.sh.p4, R4.sh.p5, R4.sh.p6, R4.sh.p7, R4.sh.p8, R4.sh.k7, R4.nf, R4.sh.r0, R4.sh.r1, R4.sh.r2, R4.sh.r3, R4.sh.r4, R4.sh.r5, R4.sh.r6, w_atN R4.sh.k8, w_atN R4.sh.k9, w_atN R4.sh.k10, w_atN R4.sh.k11, w_atN R4.sh.k12, w_atN R4.sh.k13, w_atN R4.sh.k14, R4.g, R4.h, R4.am, R4.hd, R4.en, R4.fc, f4, h9, w_tally k85d, hb, if_true, g3, gS_sI, gP_sI, gI_sI, Nat.add_left_cancel_iff, Nat.add_eq_left, Nat.left_eq_add, nN_le, nN_lt, nN_eq, nN_add, nN_mul, nN_lt0, nN_ge0, nN_gt0, nN_le0, nN_eq0, nN_eq1, nN_neN, pIn_n, pIx_n, eq_self, Nat.reduceLT, Bool.false_eq_true, Nat.add_zero, Nat.zero_add, Nat.reduceAdd, Nat.reduceMul, Nat.reduceSub, Nat.zero_le, Nat.reduceLeDiff, Nat.reduceEqDiff, Nat.le_refl, not_false_eq_true, not_true_eq_false, false_implies, true_implies, forall_const, true_and, and_true, if_true, if_false, implies_true, and_self, ne_eq, false_and, and_false, or_false, false_or, true_or, or_true]
        exact ⟨by rw [k85d], bad hb _ _ _ _ rfl⟩
      · simp (disch := omega) only [q_aload0, q_aload0N, q_iload2, q_put_i, pTag_1, q_iconst, q_istore4, q_nop, q_iload4, q_iload3, q_ic_ge, q_istore5, q_iload5, q_aload1, q_aload1N, q_get_r, pRf_s, q_get_i, q_invv0, inv_1, q_max, q_irem, q_istore6, q_iload6, q_ic_eq, q_istore7, q_bipush, q_iadd, q_invv3, q_istore8, q_iload8, q_iload7, q_ic_le, q_goto, q_invv2, q_iinc5, q_invv1, q_pop_i, q_pop_r, q_iinc4, q_vret, e_166_0, e_166_3, e_166_4, e_166_5, e_166_6, e_166_7, L_0, L_1, L_9, k_some, k_none, pRm_i, pRm_r, pRm_0, pF_1, pF_2, inv_s, R4.sh.k0, R4.nt, R4.ne, R4.nr, R4.nx, R4.day, R4.law, R4.sh.p0, R4.sh.p1, R4.sh.p2, R4.sh.p3, R4.sh.p4, R4.sh.p5, R4.sh.p6, R4.sh.p7, R4.sh.p8, R4.sh.k7, R4.nf, R4.sh.r0, R4.sh.r1, R4.sh.r2, R4.sh.r3, R4.sh.r4, R4.sh.r5, R4.sh.r6, w_atN R4.sh.k8, w_atN R4.sh.k9, w_atN R4.sh.k10, w_atN R4.sh.k11, w_atN R4.sh.k12, w_atN R4.sh.k13, w_atN R4.sh.k14, R4.g, R4.h, R4.am, R4.hd, R4.en, R4.fc, f4, h9, w_tally k85d, hb, if_true, g3, gS_sI, gP_sI, gI_sI, Nat.add_left_cancel_iff, Nat.add_eq_left, Nat.left_eq_add, nN_le, nN_lt, nN_eq, nN_add, nN_mul, nN_lt0, nN_ge0, nN_gt0, nN_le0, nN_eq0, nN_eq1, nN_neN, pIn_n, pIx_n, eq_self, Nat.reduceLT, Bool.false_eq_true, Nat.add_zero, Nat.zero_add, Nat.reduceAdd, Nat.reduceMul, Nat.reduceSub, Nat.zero_le, Nat.reduceLeDiff, Nat.reduceEqDiff, Nat.le_refl, not_false_eq_true, not_true_eq_false, false_implies, true_implies, forall_const, true_and, and_true, if_true, if_false, implies_true, and_self, ne_eq, false_and, and_false, or_false, false_or, true_or, or_true]
        exact ⟨by rw [k85d], bad hb _ _ _ _ rfl⟩
    · rcases nf with ⟨h1, h2⟩ | ⟨h1, h2 | h2⟩
      · have h9 : nF (sSet a1 X yy nn).1 ≤ nF a1 := by omega
        simp (disch := omega) only [q_aload0, q_aload0N, q_iload2, q_put_i, pTag_1, q_iconst, q_istore4, q_nop, q_iload4, q_iload3, q_ic_ge, q_istore5, q_iload5, q_aload1, q_aload1N, q_get_r, pRf_s, q_get_i, q_invv0, inv_1, q_max, q_irem, q_istore6, q_iload6, q_ic_eq, q_istore7, q_bipush, q_iadd, q_invv3, q_istore8, q_iload8, q_iload7, q_ic_le, q_goto, q_invv2, q_iinc5, q_invv1, q_pop_i, q_pop_r, q_iinc4, q_vret, e_166_0, e_166_3, e_166_4, e_166_5, e_166_6, e_166_7, L_0, L_1, L_9, k_some, k_none, pRm_i, pRm_r, pRm_0, pF_1, pF_2, inv_s, R4.sh.k0, R4.nt, R4.ne, R4.nr, R4.nx, R4.day, R4.law, R4.sh.p0, R4.sh.p1, R4.sh.p2, R4.sh.p3, R4.sh.p4, R4.sh.p5, R4.sh.p6, R4.sh.p7, R4.sh.p8, R4.sh.k7, R4.nf, R4.sh.r0, R4.sh.r1, R4.sh.r2, R4.sh.r3, R4.sh.r4, R4.sh.r5, R4.sh.r6, w_atN R4.sh.k8, w_atN R4.sh.k9, w_atN R4.sh.k10, w_atN R4.sh.k11, w_atN R4.sh.k12, w_atN R4.sh.k13, w_atN R4.sh.k14, R4.g, R4.h, R4.am, R4.hd, R4.en, R4.fc, f4, h9, w_tally k85d, hb, if_true, if_false, g1, g3, gS_sI, gP_sI, gI_sI, Nat.add_left_cancel_iff, Nat.add_eq_left, Nat.left_eq_add, nN_le, nN_lt, nN_eq, nN_add, nN_mul, nN_lt0, nN_ge0, nN_gt0, nN_le0, nN_eq0, nN_eq1, nN_neN, pIn_n, pIx_n, eq_self, Nat.reduceLT, Bool.false_eq_true, Nat.add_zero, Nat.zero_add, Nat.reduceAdd, Nat.reduceMul, Nat.reduceSub, Nat.zero_le, Nat.reduceLeDiff, Nat.reduceEqDiff, Nat.le_refl, not_false_eq_true, not_true_eq_false, false_implies, true_implies, forall_const, true_and, and_true, if_true, if_false, implies_true, and_self, ne_eq, false_and, and_false, or_false, false_or, true_or, or_true]
        exact ⟨by rw [k85d], ok hb h1 _ _ _ _ rfl⟩
      · exact absurd h2.1 hb
      · have h9 : ¬ nF (sSet a1 X yy nn).1 ≤ nF a1 := by omega
        have n10 : (nN 1 = nN 0) = False := eq_false (by rw [nN_eq (by omega) (by omega)]; omega)
        simp (disch := omega) only [q_aload0, q_aload0N, q_iload2, q_put_i, pTag_1, q_iconst, q_istore4, q_nop, q_iload4, q_iload3, q_ic_ge, q_istore5, q_iload5, q_aload1, q_aload1N, q_get_r, pRf_s, q_get_i, q_invv0, inv_1, q_max, q_irem, q_istore6, q_iload6, q_ic_eq, q_istore7, q_bipush, q_iadd, q_invv3, q_istore8, q_iload8, q_iload7, q_ic_le, q_goto, q_invv2, q_iinc5, q_invv1, q_pop_i, q_pop_r, q_iinc4, q_vret, e_166_0, e_166_3, e_166_4, e_166_5, e_166_6, e_166_7, L_0, L_1, L_9, k_some, k_none, pRm_i, pRm_r, pRm_0, pF_1, pF_2, inv_s, R4.sh.k0, R4.nt, R4.ne, R4.nr, R4.nx, R4.day, R4.law, R4.sh.p0, R4.sh.p1, R4.sh.p2, R4.sh.p3, R4.sh.p4, R4.sh.p5, R4.sh.p6, R4.sh.p7, R4.sh.p8, R4.sh.k7, R4.nf, R4.sh.r0, R4.sh.r1, R4.sh.r2, R4.sh.r3, R4.sh.r4, R4.sh.r5, R4.sh.r6, w_atN R4.sh.k8, w_atN R4.sh.k9, w_atN R4.sh.k10, w_atN R4.sh.k11, w_atN R4.sh.k12, w_atN R4.sh.k13, w_atN R4.sh.k14, R4.g, R4.h, R4.am, R4.hd, R4.en, R4.fc, f4, h9, w_tally k85d, hb, n10, if_true, if_false, g2, g3, gS_sI, gP_sI, gI_sI, Nat.add_left_cancel_iff, Nat.add_eq_left, Nat.left_eq_add, nN_le, nN_lt, nN_eq, nN_add, nN_mul, nN_lt0, nN_ge0, nN_gt0, nN_le0, nN_eq0, nN_eq1, nN_neN, pIn_n, pIx_n, eq_self, Nat.reduceLT, Bool.false_eq_true, Nat.add_zero, Nat.zero_add, Nat.reduceAdd, Nat.reduceMul, Nat.reduceSub, Nat.zero_le, Nat.reduceLeDiff, Nat.reduceEqDiff, Nat.le_refl, not_false_eq_true, not_true_eq_false, false_implies, true_implies, forall_const, true_and, and_true, if_true, if_false, implies_true, and_self, ne_eq, false_and, and_false, or_false, false_or, true_or, or_true]
        exact ⟨by rw [k85d], nu hb h1 _ _ _ _ rfl⟩
theorem run_x (h85 : gS M 85 = (3, 0)) (hT : TmR M 47 a) (hK : K < 2000000) (hX : X < nP a) (h : PlO M a K s M1) {l2 l3 l4 z6 z7 z8 : Option Value}
    (go : ∀ M' z6 z7 z8, PlO M a K (plX X s) M' → bw (d + 13) 166 2 ([some (.ref 85), some (.ref 47), l2, l3, l4, some (.int (nN (X + 1))), z6, z7, z8], [], M') Q) :
    bw (d + 13) 166 2 ([some (.ref 85), some (.ref 47), l2, l3, l4, some (.int (nN X)), z6, z7, z8], [], M1) Q := by
  have T1 := h.tm hT
  obtain ⟨a1, sd, c1, c2, c3⟩ := s
  obtain ⟨PK, R, e0, C, A⟩ := h
  dsimp only at PK R e0 C T1
  have eP := pk_nP PK
  have k85 : gS M1 85 = (3, 0) := by rw [A.S]; exact h85
  have A1 : ∀ v, Ag (fun h _ => h = 85) M1 (sI M1 85 0 v) := fun v => Ag.one rfl
  have A2 : ∀ v w, Ag (fun h _ => h = 85) M1 (sI (sI M1 85 0 v) 85 0 w) := fun v w => Ag.put (A1 v) rfl
  have R2 : ∀ v, Rep (sI M1 85 0 v) 47 a1 := fun v => R.ag (A1 v) (fun h k h1 h2 h3 h4 => by omega)
  have R3 : ∀ v w, Rep (sI (sI M1 85 0 v) 85 0 w) 47 a1 := fun v w => R.ag (A2 v w) (fun h k h1 h2 h3 h4 => by omega)
  have T3 : ∀ v w, TmR (sI (sI M1 85 0 v) 85 0 w) 47 a1 := fun v w => T1.agA ((A2 v w).mono fun h k z => Or.inl (by omega))
  have C2 : ∀ v, CnO (sI M1 85 0 v) (c1, c2, c3) := fun v => ⟨by rw [gI_sI, if_neg (by omega)]; exact C.1, by rw [gI_sI, if_neg (by omega)]; exact C.2.1, by rw [gI_sI, if_neg (by omega)]; exact C.2.2⟩
  have C3 : ∀ v w, CnO (sI (sI M1 85 0 v) 85 0 w) (c1, c2, c3) := fun v w => ⟨by rw [gI_sI, if_neg (by omega)]; exact (C2 v).1, by rw [gI_sI, if_neg (by omega)]; exact (C2 v).2.1, by rw [gI_sI, if_neg (by omega)]; exact (C2 v).2.2⟩
  have A3 : ∀ v w, Ag (XPl (gS M) (gP M)) M (sI (sI M1 85 0 v) 85 0 w) := fun v w => A.trans ((A2 v w).mono fun h k z => Or.inr z)
  have AA : ∀ v, Ag (XPl (gS M) (gP M)) M (sI M1 85 0 v) := fun v => A.trans ((A1 v).mono fun h k z => Or.inr z)
  have D1 : ∀ Q, mw (d + 13) 168 [.ref 85] M1 Q = Q (.inl (some (.int (nN (drN sd))))) (sI M1 85 0 (drw sd)) := fun Q => by rw [w_drawn k85, e0]
  have D2 : ∀ v Q, mw (d + 13) 168 [.ref 85] (sI M1 85 0 v) Q = Q (.inl (some (.int (nN (drN v))))) (sI (sI M1 85 0 v) 85 0 (drw v)) := fun v Q => by
    rw [w_drawn (M := sI M1 85 0 v) k85, show gI (sI M1 85 0 v) 85 0 = v from by rw [gI_sI, if_pos ⟨rfl, rfl⟩]]
  have b1 := (drN_ok (s := sd)).1
  have b2 := (drN_ok (s := drw sd)).1
  have g1 : drN sd % nP a1 = X → plX X (a1, sd, c1, c2, c3) = (a1, drw sd, c1, c2, c3) := fun h => by unfold plX; exact if_pos h
  have g2 : ¬ drN sd % nP a1 = X → plX X (a1, sd, c1, c2, c3) = ((sSet a1 X (drN sd % nP a1) (drN (drw sd) % 9 + 1)).1, drw (drw sd), plC a1 X (drN sd % nP a1) (drN (drw sd) % 9 + 1) (c1, c2, c3)) := fun h => by unfold plX; exact if_neg h
  have D2 := D2 (drw sd)
  generalize hs1 : drw sd = s1 at *
  generalize hs2 : drw s1 = s2 at *
  generalize hn1 : drN sd = n1 at *
  generalize hn2 : drN s1 = n2 at *
  refine run_y (d := d) h85 hK PK (by omega) R k85 D1 D2 b1 b2 k85 (R2 _) (R3 _ _) (T3 _ _) (A3 _ _) (show gI (sI (sI M1 85 0 s1) 85 0 s2) 85 0 = s2 from by rw [gI_sI, if_pos ⟨rfl, rfl⟩]) (C3 _ _) (fun h z6 z7 z8 => go _ _ _ _ ?_) (fun h M' z6 z7 z8 hp => go _ _ _ _ ?_)
  · rw [g1 h]
    exact ⟨PK, R2 _, show gI (sI M1 85 0 s1) 85 0 = s1 from by rw [gI_sI, if_pos ⟨rfl, rfl⟩], C2 _, AA _⟩
  · rw [g2 h]
    exact hp
end CR
