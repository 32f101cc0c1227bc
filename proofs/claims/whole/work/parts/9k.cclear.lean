/-! clear: the class -/
def c0 (a : Nat → Int32) (p : Nat) : Nat := (sOwes a (nN (p / 12)) (nN (p % 12))).toInt.toNat
def sClr (a : Nat → Int32) : tO := mO a (nR a) (c0 a) 0 0 0 (fun _ => 0) (-1, fun _ => 0)
def sClear (a : Nat → Int32) (z : Int32) : Int32 := if z = iN (-1) then iN (sClr a).1 else if z < nN (nR a) then nN ((sClr a).2 z.toInt.toNat) else iN (-1)
section CC
variable {d t u n p q f g m e K k dd bl i h L v r l used dn sum j : Nat} {b : Nat → Nat} {a a' ak : Nat → Int32} {c c2 : Nat → Nat} {o : Nat → Nat} {s : tO} {img : Bool} {fl : Int32} {M M1 M' : pMem} {Q : pOut → pMem → Prop} {w x y z : Int32}
theorem sOwes_n (hw : Wf a) : ∃ v, v < 4000 ∧ sOwes a x y = nN v := by
  have hf' := hw.f'
  have := lp_inv (f := fun f (s : Int32) => s + if fa a f 0 = x ∧ fa a f 2 = y then fa a f 1 else nN 0) (P := fun k s => ∃ v, v ≤ 99 * k ∧ s = nN v) (nF a) 0 (nN 0) ⟨0, by omega, rfl⟩ (fun k s h1 h2 ⟨v, h3, h4⟩ => by
    obtain ⟨n, g1, g2, g3⟩ := hw.fA k (by omega)
    by_cases c : fa a k 0 = x ∧ fa a k 2 = y
    · refine ⟨v + n, by omega, ?_⟩
      show s + (if fa a k 0 = x ∧ fa a k 2 = y then fa a k 1 else nN 0) = _
      rw [if_pos c, g3, h4, nN_add]
    · refine ⟨v, by omega, ?_⟩
      show s + (if fa a k 0 = x ∧ fa a k 2 = y then fa a k 1 else nN 0) = _
      rw [if_neg c, h4, nN_add]; rfl)
  obtain ⟨v, h1, h2⟩ := this
  exact ⟨v, by omega, h2⟩
theorem c0_lt (hw : Wf a) (p : Nat) : c0 a p < 4000 := by
  obtain ⟨v, h1, h2⟩ := sOwes_n (x := nN (p / 12)) (y := nN (p % 12)) hw
  unfold c0
  rw [h2, nN_toInt (by omega)]
  omega
theorem c0_at (hw : Wf a) (hj : j < 12) : sOwes a (nN i) (nN j) = nN (c0 a (12 * i + j)) := by
  obtain ⟨v, h1, h2⟩ := sOwes_n (x := nN i) (y := nN j) hw
  unfold c0
  rw [show (12 * i + j) / 12 = i from by omega, show (12 * i + j) % 12 = j from by omega, h2, nN_toInt (by omega)]
  congr 1
theorem sClr_ok (hw : Wf a) : 0 ≤ (sClr a).1 ∧ (sClr a).1 ≤ 200000 := by
  refine ⟨mO_nn _ _ _ _ _ _ _ ?_, (mO_bd hw _ _ _ _ _ _ _ (by omega) (by omega) (c0_lt hw) (by constructor <;> decide)).2⟩
  have : ∀ (l k x : Nat), lp l k x (fun k c => c + if (fun r => (0 : Nat).testBit r) k = true then 1 else 0) = x := by
    intro l
    induction l with
    | zero => intro k x; rfl
    | succ l ih =>
      intro k x
      show lp l (k + 1) (x + if (0 : Nat).testBit k = true then 1 else 0) _ = x
      rw [Nat.zero_testBit, ih]
      rfl
  unfold cN
  rw [this]
  omega
theorem w_find (rs : RoS M a) (hw : Wf a) (hd : Rd a) : mw (d + 15) 191 [.ref 81] M (fun o' M' => o' = .inl none ∧ BsC M' a (sClr a) ∧ Ag XR M M') := by
  have hR := hw.r'
  have hp' := hw.p'
  have k81 := rs.k81
  simp (disch := omega) only [m_191, q_aload0, q_aload0N, q_iconst, q_put_i, pTag_1, q_istore1, q_nop, q_iload1, q_get_r, pRf_s, q_get_i, q_ic_ge, q_istore2, q_iload2, q_bipush, q_imul, q_iadd, q_invv2, inv_1, q_invs3_21, q_iinc2, q_goto, q_iinc1, q_invv3, q_vret, e_191_0, e_191_3, e_191_4, L_0, L_1, L_12, k_some, k_none, pRm_i, pRm_r, pRm_0, pF_1, pF_2, inv_s, k81, gS_sI, gP_sI, gI_sI, Nat.add_left_cancel_iff, Nat.add_eq_left, Nat.left_eq_add, nN_le, nN_lt, nN_eq, nN_add, nN_mul, nN_lt0, nN_ge0, nN_gt0, nN_le0, nN_eq0, nN_eq1, nN_neN, pIn_n, pIx_n, eq_self, Nat.reduceLT, Bool.false_eq_true, Nat.add_zero, Nat.zero_add, Nat.reduceAdd, Nat.reduceMul, Nat.reduceSub, Nat.zero_le, Nat.reduceLeDiff, Nat.reduceEqDiff, Nat.le_refl, not_false_eq_true, not_true_eq_false, false_implies, true_implies, forall_const, true_and, and_true, if_true, if_false, implies_true, and_self, ne_eq, false_and, and_false, or_false, false_or, true_or, or_true]
  have A0 : Ag XR M (sI M 81 4 (iN (-1))) := Ag.one (Or.inl ⟨rfl, rfl⟩)
  refine loopR (n := nP a) (J := Option Value) (C := fun i _ z M => ([some (.ref 81), some (.int (nN i)), z], [], M)) (f := fun _ (_ : Unit) => ()) (R := fun i _ M1 => Ag XR M M1 ∧ gI M1 81 4 = iN (-1) ∧ ∀ i' j', i' < i → j' < nP a → gI M1 82 (12 * i' + j') = nN (c0 a (12 * i' + j'))) ?_ (nP a) 0 () none _ (by omega) ⟨A0, by rw [gI_sI, if_pos ⟨rfl, rfl⟩], fun i' j' h => absurd h (by omega)⟩ ?_
  · rintro i _ z M1 hi ⟨A1, n1, e1⟩ go
    have rs1 := rs.ag A1
    have k1 := rs1.k81
    have h3 : ¬ nP a ≤ i := by omega
    obtain ⟨t, ht⟩ : ∃ t : Nat, t = 3 := ⟨3, rfl⟩
    have hr : Rep M1 t a := by rw [ht]; exact rs1.r
    have pd : gP M1 81 3 = some t := by rw [ht]; exact rs1.pd
    rw [e_191_1]
    simp (disch := omega) only [q_aload0, q_aload0N, q_iconst, q_put_i, pTag_1, q_istore1, q_nop, q_iload1, q_get_r, pRf_s, q_get_i, q_ic_ge, q_istore2, q_iload2, q_bipush, q_imul, q_iadd, q_invv2, inv_1, q_invs3_21, q_iinc2, q_goto, q_iinc1, q_invv3, q_vret, e_191_0, e_191_3, e_191_4, L_0, L_1, L_12, k_some, k_none, pRm_i, pRm_r, pRm_0, pF_1, pF_2, inv_s, k1, pd, hr.sh.k0, hr.nt, hr.ne, hr.nr, hr.nx, hr.day, hr.law, hr.sh.p0, hr.sh.p1, hr.sh.p2, hr.sh.p3, hr.sh.p4, hr.sh.p5, hr.sh.p6, hr.sh.p7, hr.sh.p8, hr.sh.k1, hr.np, hr.sh.q0, hr.sh.q1, hr.sh.q2, hr.sh.q3, hr.sh.q4, w_atN hr.sh.k2, w_atN hr.sh.k3, w_atN hr.sh.k4, w_atN hr.sh.k5, w_atN hr.sh.k6, hr.lim, hr.tmp, hr.near, hr.rich, hr.debt, hw.p, h3, gS_sI, gP_sI, gI_sI, Nat.add_left_cancel_iff, Nat.add_eq_left, Nat.left_eq_add, nN_le, nN_lt, nN_eq, nN_add, nN_mul, nN_lt0, nN_ge0, nN_gt0, nN_le0, nN_eq0, nN_eq1, nN_neN, pIn_n, pIx_n, eq_self, Nat.reduceLT, Bool.false_eq_true, Nat.add_zero, Nat.zero_add, Nat.reduceAdd, Nat.reduceMul, Nat.reduceSub, Nat.zero_le, Nat.reduceLeDiff, Nat.reduceEqDiff, Nat.le_refl, not_false_eq_true, not_true_eq_false, false_implies, true_implies, forall_const, true_and, and_true, if_true, if_false, implies_true, and_self, ne_eq, false_and, and_false, or_false, false_or, true_or, or_true]
    refine loopR (n := nP a) (J := Unit) (C := fun j _ z M => ([some (.ref 81), some (.int (nN i)), some (.int (nN j))], [], M)) (f := fun _ (_ : Unit) => ()) (R := fun j _ M1 => Ag XR M M1 ∧ gI M1 81 4 = iN (-1) ∧ ∀ i' j', (i' < i ∧ j' < nP a ∨ i' = i ∧ j' < j) → gI M1 82 (12 * i' + j') = nN (c0 a (12 * i' + j'))) ?_ (nP a) 0 () () M1 (by omega) ⟨A1, n1, fun i' j' h => e1 i' j' (by omega) (by omega)⟩ ?_
    · rintro j _ _ M2 hj ⟨A2, n2, e2⟩ go2
      have rs2 := rs.ag A2
      have k2 := rs2.k81
      have k82 := rs2.k82
      have pa := rs2.pa
      have hr2 : Rep M2 t a := by rw [ht]; exact rs2.r
      have pd2 : gP M2 81 3 = some t := by rw [ht]; exact rs2.pd
      have h4 : ¬ nP a ≤ j := by omega
      have i9 : i * 12 + j = 12 * i + j := by omega
      have ev := c0_at (i := i) (j := j) hw (by omega)
      rw [e_191_2]
      simp (disch := omega) only [q_aload0, q_aload0N, q_iconst, q_put_i, pTag_1, q_istore1, q_nop, q_iload1, q_get_r, pRf_s, q_get_i, q_ic_ge, q_istore2, q_iload2, q_bipush, q_imul, q_iadd, q_invv2, inv_1, q_invs3_21, q_iinc2, q_goto, q_iinc1, q_invv3, q_vret, e_191_0, e_191_3, e_191_4, L_0, L_1, L_12, k_some, k_none, pRm_i, pRm_r, pRm_0, pF_1, pF_2, inv_s, k2, pd2, pa, hr2.sh.k0, hr2.nt, hr2.ne, hr2.nr, hr2.nx, hr2.day, hr2.law, hr2.sh.p0, hr2.sh.p1, hr2.sh.p2, hr2.sh.p3, hr2.sh.p4, hr2.sh.p5, hr2.sh.p6, hr2.sh.p7, hr2.sh.p8, hr2.sh.k1, hr2.np, hr2.sh.q0, hr2.sh.q1, hr2.sh.q2, hr2.sh.q3, hr2.sh.q4, w_atN hr2.sh.k2, w_atN hr2.sh.k3, w_atN hr2.sh.k4, w_atN hr2.sh.k5, w_atN hr2.sh.k6, hr2.lim, hr2.tmp, hr2.near, hr2.rich, hr2.debt, hr2.sh.k7, hw.p, h4, i9, w_owed hr2 hw, ev, w_putN k82, gS_sI, gP_sI, gI_sI, Nat.add_left_cancel_iff, Nat.add_eq_left, Nat.left_eq_add, nN_le, nN_lt, nN_eq, nN_add, nN_mul, nN_lt0, nN_ge0, nN_gt0, nN_le0, nN_eq0, nN_eq1, nN_neN, pIn_n, pIx_n, eq_self, Nat.reduceLT, Bool.false_eq_true, Nat.add_zero, Nat.zero_add, Nat.reduceAdd, Nat.reduceMul, Nat.reduceSub, Nat.zero_le, Nat.reduceLeDiff, Nat.reduceEqDiff, Nat.le_refl, not_false_eq_true, not_true_eq_false, false_implies, true_implies, forall_const, true_and, and_true, if_true, if_false, implies_true, and_self, ne_eq, false_and, and_false, or_false, false_or, true_or, or_true]
      refine go2 _ () ⟨Ag.put A2 (Or.inr (Or.inl rfl)), by rw [gI_sI, if_neg (by omega)]; exact n2, fun i' j' h => ?_⟩
      rw [gI_sI]
      by_cases c : i' = i ∧ j' = j
      · rw [if_pos ⟨rfl, by omega⟩, c.1, c.2]
      · rw [if_neg (fun z => c (by omega))]; exact e2 i' j' (by omega)
    · rintro M2 _ ⟨A2, n2, e2⟩
      have rs2 := rs.ag A2
      have k2 := rs2.k81
      have hr2 : Rep M2 t a := by rw [ht]; exact rs2.r
      have pd2 : gP M2 81 3 = some t := by rw [ht]; exact rs2.pd
      rw [e_191_2]
      simp (disch := omega) only [q_aload0, q_aload0N, q_iconst, q_put_i, pTag_1, q_istore1, q_nop, q_iload1, q_get_r, pRf_s, q_get_i, q_ic_ge, q_istore2, q_iload2, q_bipush, q_imul, q_iadd, q_invv2, inv_1, q_invs3_21, q_iinc2, q_goto, q_iinc1, q_invv3, q_vret, e_191_0, e_191_3, e_191_4, L_0, L_1, L_12, k_some, k_none, pRm_i, pRm_r, pRm_0, pF_1, pF_2, inv_s, k2, pd2, hr2.sh.k0, hr2.nt, hr2.ne, hr2.nr, hr2.nx, hr2.day, hr2.law, hr2.sh.p0, hr2.sh.p1, hr2.sh.p2, hr2.sh.p3, hr2.sh.p4, hr2.sh.p5, hr2.sh.p6, hr2.sh.p7, hr2.sh.p8, hr2.sh.k1, hr2.np, hr2.sh.q0, hr2.sh.q1, hr2.sh.q2, hr2.sh.q3, hr2.sh.q4, w_atN hr2.sh.k2, w_atN hr2.sh.k3, w_atN hr2.sh.k4, w_atN hr2.sh.k5, w_atN hr2.sh.k6, hr2.lim, hr2.tmp, hr2.near, hr2.rich, hr2.debt, hw.p, gS_sI, gP_sI, gI_sI, Nat.add_left_cancel_iff, Nat.add_eq_left, Nat.left_eq_add, nN_le, nN_lt, nN_eq, nN_add, nN_mul, nN_lt0, nN_ge0, nN_gt0, nN_le0, nN_eq0, nN_eq1, nN_neN, pIn_n, pIx_n, eq_self, Nat.reduceLT, Bool.false_eq_true, Nat.add_zero, Nat.zero_add, Nat.reduceAdd, Nat.reduceMul, Nat.reduceSub, Nat.zero_le, Nat.reduceLeDiff, Nat.reduceEqDiff, Nat.le_refl, not_false_eq_true, not_true_eq_false, false_implies, true_implies, forall_const, true_and, and_true, if_true, if_false, implies_true, and_self, ne_eq, false_and, and_false, or_false, false_or, true_or, or_true]
      exact go M2 _ ⟨A2, n2, fun i' j' h1 h2 => e2 i' j' (by omega)⟩
  · rintro M1 z ⟨A1, n1, e1⟩
    have rs1 := rs.ag A1
    have k1 := rs1.k81
    obtain ⟨t, ht⟩ : ∃ t : Nat, t = 3 := ⟨3, rfl⟩
    have hr : Rep M1 t a := by rw [ht]; exact rs1.r
    have pd : gP M1 81 3 = some t := by rw [ht]; exact rs1.pd
    rw [e_191_1]
    simp (disch := omega) only [q_aload0, q_aload0N, q_iconst, q_put_i, pTag_1, q_istore1, q_nop, q_iload1, q_get_r, pRf_s, q_get_i, q_ic_ge, q_istore2, q_iload2, q_bipush, q_imul, q_iadd, q_invv2, inv_1, q_invs3_21, q_iinc2, q_goto, q_iinc1, q_invv3, q_vret, e_191_0, e_191_3, e_191_4, L_0, L_1, L_12, k_some, k_none, pRm_i, pRm_r, pRm_0, pF_1, pF_2, inv_s, k1, pd, hr.sh.k0, hr.nt, hr.ne, hr.nr, hr.nx, hr.day, hr.law, hr.sh.p0, hr.sh.p1, hr.sh.p2, hr.sh.p3, hr.sh.p4, hr.sh.p5, hr.sh.p6, hr.sh.p7, hr.sh.p8, hr.sh.k1, hr.np, hr.sh.q0, hr.sh.q1, hr.sh.q2, hr.sh.q3, hr.sh.q4, w_atN hr.sh.k2, w_atN hr.sh.k3, w_atN hr.sh.k4, w_atN hr.sh.k5, w_atN hr.sh.k6, hr.lim, hr.tmp, hr.near, hr.rich, hr.debt, hw.p, gS_sI, gP_sI, gI_sI, Nat.add_left_cancel_iff, Nat.add_eq_left, Nat.left_eq_add, nN_le, nN_lt, nN_eq, nN_add, nN_mul, nN_lt0, nN_ge0, nN_gt0, nN_le0, nN_eq0, nN_eq1, nN_neN, pIn_n, pIx_n, eq_self, Nat.reduceLT, Bool.false_eq_true, Nat.add_zero, Nat.zero_add, Nat.reduceAdd, Nat.reduceMul, Nat.reduceSub, Nat.zero_le, Nat.reduceLeDiff, Nat.reduceEqDiff, Nat.le_refl, not_false_eq_true, not_true_eq_false, false_implies, true_implies, forall_const, true_and, and_true, if_true, if_false, implies_true, and_self, ne_eq, false_and, and_false, or_false, false_or, true_or, or_true]
    rw [show d + 14 = (d + 8 - nR a) + nR a + 6 from by omega]
    refine mw_mono (w_try hw hd (nR a) 0 (c0 a) 0 0 (fun _ => 0) (-1, fun _ => 0) M1 rs1 (fun i j h1 h2 => e1 i j h1 h2) (c0_lt hw) (fun k hk => absurd hk (by omega)) ⟨n1, fun h => absurd h (by decide)⟩ (by omega) (by omega) (by omega) (by constructor <;> decide)) ?_
    rintro _ M2 ⟨rfl, o2, t2, b2, A2⟩
    rw [cO_eq] at b2
    simp (disch := omega) only [q_aload0, q_aload0N, q_iconst, q_put_i, pTag_1, q_istore1, q_nop, q_iload1, q_get_r, pRf_s, q_get_i, q_ic_ge, q_istore2, q_iload2, q_bipush, q_imul, q_iadd, q_invv2, inv_1, q_invs3_21, q_iinc2, q_goto, q_iinc1, q_invv3, q_vret, e_191_0, e_191_3, e_191_4, L_0, L_1, L_12, k_some, k_none, pRm_i, pRm_r, pRm_0, pF_1, pF_2, inv_s, eq_self, Nat.reduceLT, Bool.false_eq_true, Nat.add_zero, Nat.zero_add, Nat.reduceAdd, Nat.reduceMul, Nat.reduceSub, Nat.zero_le, Nat.reduceLeDiff, Nat.reduceEqDiff, Nat.le_refl, not_false_eq_true, not_true_eq_false, false_implies, true_implies, forall_const, true_and, and_true, if_true, if_false, implies_true, and_self, ne_eq, false_and, and_false, or_false, false_or, true_or, or_true]
    exact ⟨b2, A1.trans A2⟩
theorem ros_ci (c : CI M a ak img n b fl) : RoS M a := RoS.mk c.sh.k81 c.sh.k82 c.sh.k83 c.sh.k84 c.sh.q81a c.sh.q81b c.sh.q81c c.sh.q81d c.rep
theorem c_clear (c : CI M a ak img n b fl) (hw : Wf a) (hd : Rd a) (hz : iN (-1) ≤ z) : mw (d + 16) 29 [.ref 0, .int z] M (fun o M' => o = .inl (some (.int (sClear a z))) ∧ Yc M a M') := by
  obtain ⟨t, ht⟩ : ∃ t : Nat, t = 3 := ⟨3, rfl⟩
  have hr : Rep M t a := by rw [ht]; exact c.rep
  have hT : TmR M t a := by rw [ht]; exact c.tm
  have p1 : gP M 0 1 = some t := by rw [ht]; exact c.sh.p1
  have k0 := c.sh.k0
  have hp9 := hw.p'
  have hf9 := hw.f'
  have hR := hw.r'
  have p7 := c.sh.p7
  have hS : (gS M 81).1 = 5 := by rw [c.sh.k81]
  simp (disch := omega) only [m_29, q_iload1, q_invs1_20, q_aload0, q_aload0N, q_get_r, pTag_1, pRf_s, q_invv0, inv_1, q_iconst, q_ic_ne, q_get_i, q_iret, q_ic_ge, q_invs2_20, q_goto, q_nop, e_29_0, k_some, k_none, pRm_i, pRm_r, pRm_0, pF_1, pF_2, inv_s, k0, p7, hS, w_needK hz, nN_le, nN_lt, nN_eq, nN_add, nN_mul, nN_lt0, nN_ge0, nN_gt0, nN_le0, nN_eq0, nN_eq1, nN_neN, pIn_n, pIx_n, eq_self, Nat.reduceLT, Bool.false_eq_true, Nat.add_zero, Nat.zero_add, Nat.reduceAdd, Nat.reduceMul, Nat.reduceSub, Nat.zero_le, Nat.reduceLeDiff, Nat.reduceEqDiff, Nat.le_refl, not_false_eq_true, not_true_eq_false, false_implies, true_implies, forall_const, true_and, and_true, if_true, if_false, implies_true, and_self, ne_eq, false_and, and_false, or_false, false_or, true_or, or_true]
  refine mw_mono (w_find (d := d) (ros_ci c) hw hd) ?_
  rintro _ M1 ⟨rfl, B1, A1⟩
  have rs1 := (ros_ci c).ag A1
  have k01 : (gS M1 0).1 = 11 := by rw [A1.S, k0]
  have p71 : gP M1 0 7 = some 81 := by rw [A1.P]; exact p7
  have p11 : gP M1 0 1 = some t := by rw [A1.P]; exact p1
  have k81 := rs1.k81
  have pc := rs1.pc
  have k84 := rs1.k84
  have hr1 : Rep M1 t a := by rw [ht]; exact rs1.r
  have Y : Yc M a M1 := yc_85 c (A1.mono fun h k z => Or.inr (by rcases z with z | z | z | z <;> omega))
  have g4 := B1.1
  have ok := sClr_ok hw
  unfold sClear
  by_cases d2 : z = iN (-1)
  · subst d2
    rw [if_pos rfl]
    simp (disch := omega) only [q_iload1, q_invs1_20, q_aload0, q_aload0N, q_get_r, pTag_1, pRf_s, q_invv0, inv_1, q_iconst, q_ic_ne, q_get_i, q_iret, q_ic_ge, q_invs2_20, q_goto, q_nop, e_29_0, e_29_1, e_29_2, e_29_3, k_some, k_none, pRm_i, pRm_r, pRm_0, pF_1, pF_2, inv_s, k01, p71, k81, g4, nN_le, nN_lt, nN_eq, nN_add, nN_mul, nN_lt0, nN_ge0, nN_gt0, nN_le0, nN_eq0, nN_eq1, nN_neN, pIn_n, pIx_n, eq_self, Nat.reduceLT, Bool.false_eq_true, Nat.add_zero, Nat.zero_add, Nat.reduceAdd, Nat.reduceMul, Nat.reduceSub, Nat.zero_le, Nat.reduceLeDiff, Nat.reduceEqDiff, Nat.le_refl, not_false_eq_true, not_true_eq_false, false_implies, true_implies, forall_const, true_and, and_true, if_true, if_false, implies_true, and_self, ne_eq, false_and, and_false, or_false, false_or, true_or, or_true]
    exact Y
  · rw [if_neg d2]
    obtain ⟨zi, hzi, rfl⟩ := iN_ex z
    have b1 := (iN_le (a := -1) ⟨by decide, by decide⟩ hzi).mp hz
    have b3 : ¬ zi = -1 := fun e => d2 (by rw [e])
    have b4 := hzi.2
    have ez : iN zi = nN zi.toNat := by unfold nN; congr 1; omega
    rw [ez] at d2 ⊢
    rw [nN_toInt (by omega), show ((zi.toNat : Nat) : Int).toNat = zi.toNat from by omega]
    by_cases d3 : nN zi.toNat < nN (nR a)
    · rw [if_pos d3]
      rw [nN_lt (by omega) (by omega)] at d3
      have d4 : ¬ nR a ≤ zi.toNat := by omega
      have g8 := B1.2 ok.1 zi.toNat d3
      simp (disch := omega) only [q_iload1, q_invs1_20, q_aload0, q_aload0N, q_get_r, pTag_1, pRf_s, q_invv0, inv_1, q_iconst, q_ic_ne, q_get_i, q_iret, q_ic_ge, q_invs2_20, q_goto, q_nop, e_29_0, e_29_1, e_29_2, e_29_3, k_some, k_none, pRm_i, pRm_r, pRm_0, pF_1, pF_2, inv_s, k01, p71, p11, k81, pc, d2, hr1.sh.k0, hr1.nt, hr1.ne, hr1.nr, hr1.nx, hr1.day, hr1.law, hr1.sh.p0, hr1.sh.p1, hr1.sh.p2, hr1.sh.p3, hr1.sh.p4, hr1.sh.p5, hr1.sh.p6, hr1.sh.p7, hr1.sh.p8, hw.r, d4, w_atN k84, g8, nN_le, nN_lt, nN_eq, nN_add, nN_mul, nN_lt0, nN_ge0, nN_gt0, nN_le0, nN_eq0, nN_eq1, nN_neN, pIn_n, pIx_n, eq_self, Nat.reduceLT, Bool.false_eq_true, Nat.add_zero, Nat.zero_add, Nat.reduceAdd, Nat.reduceMul, Nat.reduceSub, Nat.zero_le, Nat.reduceLeDiff, Nat.reduceEqDiff, Nat.le_refl, not_false_eq_true, not_true_eq_false, false_implies, true_implies, forall_const, true_and, and_true, if_true, if_false, implies_true, and_self, ne_eq, false_and, and_false, or_false, false_or, true_or, or_true]
      exact Y
    · rw [if_neg d3]
      rw [nN_lt (by omega) (by omega)] at d3
      have d4 : nR a ≤ zi.toNat := by omega
      simp (disch := omega) only [q_iload1, q_invs1_20, q_aload0, q_aload0N, q_get_r, pTag_1, pRf_s, q_invv0, inv_1, q_iconst, q_ic_ne, q_get_i, q_iret, q_ic_ge, q_invs2_20, q_goto, q_nop, e_29_0, e_29_1, e_29_2, e_29_3, k_some, k_none, pRm_i, pRm_r, pRm_0, pF_1, pF_2, inv_s, k01, p71, p11, k81, pc, d2, hr1.sh.k0, hr1.nt, hr1.ne, hr1.nr, hr1.nx, hr1.day, hr1.law, hr1.sh.p0, hr1.sh.p1, hr1.sh.p2, hr1.sh.p3, hr1.sh.p4, hr1.sh.p5, hr1.sh.p6, hr1.sh.p7, hr1.sh.p8, hw.r, d4, nN_le, nN_lt, nN_eq, nN_add, nN_mul, nN_lt0, nN_ge0, nN_gt0, nN_le0, nN_eq0, nN_eq1, nN_neN, pIn_n, pIx_n, eq_self, Nat.reduceLT, Bool.false_eq_true, Nat.add_zero, Nat.zero_add, Nat.reduceAdd, Nat.reduceMul, Nat.reduceSub, Nat.zero_le, Nat.reduceLeDiff, Nat.reduceEqDiff, Nat.le_refl, not_false_eq_true, not_true_eq_false, false_implies, true_implies, forall_const, true_and, and_true, if_true, if_false, implies_true, and_self, ne_eq, false_and, and_false, or_false, false_or, true_or, or_true]
      exact Y
theorem c_clear_n (c : CI M a ak img n b fl) (hz : ¬ iN (-1) ≤ z) : mw (d + 8) 29 [.ref 0, .int z] M Q = Q (.inr 0) (nx M) := by
  have k0 := c.sh.k0
  simp (disch := omega) only [m_29, q_iload1, q_invs1_20, q_aload0, q_aload0N, q_get_r, pTag_1, pRf_s, q_invv0, inv_1, q_iconst, q_ic_ne, q_get_i, q_iret, q_ic_ge, q_invs2_20, q_goto, q_nop, e_29_0, k_some, k_none, pRm_i, pRm_r, pRm_0, pF_1, pF_2, inv_s, k0, w_needKn hz, k_t20 hs_29, nN_le, nN_lt, nN_eq, nN_add, nN_mul, nN_lt0, nN_ge0, nN_gt0, nN_le0, nN_eq0, nN_eq1, nN_neN, pIn_n, pIx_n, eq_self, Nat.reduceLT, Bool.false_eq_true, Nat.add_zero, Nat.zero_add, Nat.reduceAdd, Nat.reduceMul, Nat.reduceSub, Nat.zero_le, Nat.reduceLeDiff, Nat.reduceEqDiff, Nat.le_refl, not_false_eq_true, not_true_eq_false, false_implies, true_implies, forall_const, true_and, and_true, if_true, if_false, implies_true, and_self, ne_eq, false_and, and_false, or_false, false_or, true_or, or_true]
end CC
