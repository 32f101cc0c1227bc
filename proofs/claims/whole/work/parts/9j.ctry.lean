/-! clear: the class tries the orders -/
def TrC (M : pMem) (h dn : Nat) (o : Nat → Nat) : Prop := ∀ k, k < dn → gI M h k = nN (o k)
def BsC (M : pMem) (a : Nat → Int32) (s : tO) : Prop := gI M 81 4 = iN s.1 ∧ (0 ≤ s.1 → ∀ k, k < nR a → gI M 84 k = nN (s.2 k))
section TY
variable {d t u n p q f g m e K k dd bl x y i h L v r l used dn sum j : Nat} {a a' ak : Nat → Int32} {c c2 : Nat → Nat} {o : Nat → Nat} {s : tO} {img : Bool} {fl : Int32} {M M1 M' : pMem} {Q : pOut → pMem → Prop} {w z : Int32}
theorem rL_lt (hw : Wf a) (hr : r < nR a) (hc : ∀ p, c p < 4000) : rL a c r < 4000 := by
  have h1 := (rg_ok hw hr).1
  have h2 := rL_le (a := a) (c := c) (r := r) (k := 0) (by omega)
  have h3 := hc (rE a r 0)
  omega
theorem rLZ (hw : Wf a) (hr : r < nR a) (hc : ∀ p, c p < 4000) : rL a c r * rZ a r ≤ 24000 := by
  have h1 := (rg_ok hw hr).2.1
  have h2 := rL_lt hw hr hc
  exact Nat.mul_le_mul (show rL a c r ≤ 4000 by omega) h1
theorem rMo_le (hw : Wf a) (hc : ∀ p, c p < 4000) : rMo a c used ≤ 200000 := by
  have hR := hw.r'
  have := lp_inv (f := fun r s => s + if used.testBit r = true then 0 else rL a c r * rZ a r) (P := fun k s => s ≤ 24000 * k) (nR a) 0 0 (by omega) (fun r s h1 h2 h3 => by
    have := rLZ hw (show r < nR a by omega) hc
    show s + (if used.testBit r = true then 0 else rL a c r * rZ a r) ≤ _
    split <;> omega)
  show lp (nR a) 0 0 _ ≤ _
  omega
theorem tkE_lt (hc : ∀ p, c p < 4000) (p : Nat) : tkE a r l c p < 4000 := by
  have h1 := tkE_le (a := a) (r := r) (l := l) (c := c) (p := p)
  have h2 := hc p
  omega
theorem mO_bd (hw : Wf a) : ∀ (j : Nat) (c : Nat → Nat) (dn used sum : Nat) (o : Nat → Nat) (s : tO), dn + j = nR a → sum ≤ 24000 * dn → (∀ p, c p < 4000) → -1 ≤ s.1 ∧ s.1 ≤ 200000 → -1 ≤ (mO a j c dn used sum o s).1 ∧ (mO a j c dn used sum o s).1 ≤ 200000 := by
  have hR := hw.r'
  intro j
  induction j with
  | zero =>
    intro c dn used sum o s h1 h2 hc hs
    show -1 ≤ (if s.1 < (sum : Int) then ((sum : Int), o) else s).1 ∧ (if s.1 < (sum : Int) then ((sum : Int), o) else s).1 ≤ 200000
    split
    · dsimp only; omega
    · exact hs
  | succ j ih =>
    intro c dn used sum o s h1 h2 hc hs
    exact lp_inv (f := fun r s => if used.testBit r = true then s else mO a j (tkE a r (rL a c r) c) (dn + 1) (used ||| 1 <<< r) (sum + rL a c r * rZ a r) (fun k => if k = dn then r else o k) s) (P := fun _ s1 => -1 ≤ s1.1 ∧ s1.1 ≤ 200000) (nR a) 0 s hs (fun r s1 _ hr h3 => by
      split
      · exact h3
      · have := rLZ hw (show r < nR a by omega) hc
        exact ih _ _ _ _ _ _ (by omega) (by omega) (tkE_lt hc) h3)
theorem tk_v (hE : isE a r p = true) (h : l ≤ c p) : nN (c p) + -(nN l) = nN (tkE a r l c p) := by
  unfold tkE
  rw [if_pos hE, ← Int32.sub_eq_add_neg, nN_subN h]
theorem tk_b (hE : isE a r p = true) (h : l ≤ c p) : nN (tkE a r l c p) + - -(nN l) = nN (c p) := by
  unfold tkE
  rw [if_pos hE, Int32.neg_neg, nN_add]
  congr 1
  omega
theorem w_try (hw : Wf a) (hd : Rd a) : ∀ (j dn : Nat) (c : Nat → Nat) (used sum : Nat) (o : Nat → Nat) (s : tO) (M : pMem), RoS M a → OwC M 82 (nP a) c → (∀ p, c p < 4000) → TrC M 83 dn o → BsC M a s → dn + j = nR a → used < 256 → sum ≤ 24000 * dn → -1 ≤ s.1 ∧ s.1 ≤ 200000 → mw (d + j + 6) 192 [.ref 81, .int (nN dn), .int (nN used), .int (nN sum)] M (fun o' M' => o' = .inl none ∧ OwC M' 82 (nP a) c ∧ TrC M' 83 dn o ∧ BsC M' a (cO a j c dn used sum o s) ∧ Ag XR M M') := by
  have hR := hw.r'
  have hR5 := hw.r
  intro j
  induction j with
  | zero =>
    intro dn c used sum o s M rs ow hc tr bs hj hu hs hb
    have k81 := rs.k81
    have pb := rs.pb
    have pc := rs.pc
    have pd := rs.pd
    have k3 : gS M 3 = (9, 0) := rs.r.sh.k0
    have nr : gI M 3 11 = nN (nR a) := rs.r.nr.trans hR5
    have c1 : nR a ≤ dn := by omega
    have g4 := bs.1
    have ev : cO a 0 c dn used sum o s = if s.1 < (sum : Int) then ((sum : Int), o) else s := rfl
    have eS : (nN sum ≤ iN s.1) = ((sum : Int) ≤ s.1) := propext (iN_le (sm_n (by omega)) ⟨by omega, by omega⟩)
    rw [ev]
    by_cases b : s.1 < (sum : Int)
    · rw [if_pos b]
      have b2 : ¬ nN sum ≤ iN s.1 := by rw [eS]; omega
      simp (disch := first | omega | rfl | (repeat' (first | exact gS_sI | exact gP_sI | refine Eq.trans gS_sI ?_ | refine Eq.trans gP_sI ?_))) only [m_192, q_iload1, q_aload0, q_aload0N, q_get_r, pTag_1, pRf_s, q_get_i, q_ic_ge, q_bipush, q_ic_lt, q_nop, q_iload3, q_ic_le, q_put_i, q_invs2_21, q_vret, q_iload2, q_invv1, inv_1, q_iadd, q_ic_gt, q_iconst, q_istore4, q_iload4, q_if_ne, q_istore5, q_invs3_21, q_iload5, q_invv2, q_ishl, q_ior, q_imul, q_invv3, q_ineg, q_iinc4, q_goto, e_192_0, e_192_1, e_192_2, e_192_3, e_192_4, e_192_6, e_192_7, L_0, L_1, L_8, k_some, k_none, pRm_i, pRm_r, pRm_0, pF_1, pF_2, inv_s, k81, k3, pb, pc, pd, nr, c1, g4, b2, gS_sI, gP_sI, gS_sI, gP_sI, gI_sI, Nat.add_left_cancel_iff, Nat.add_eq_left, Nat.left_eq_add, nN_le, nN_lt, nN_eq, nN_add, nN_mul, nN_lt0, nN_ge0, nN_gt0, nN_le0, nN_eq0, nN_eq1, nN_neN, pIn_n, pIx_n, eq_self, Nat.reduceLT, Bool.false_eq_true, Nat.add_zero, Nat.zero_add, Nat.reduceAdd, Nat.reduceMul, Nat.reduceSub, Nat.zero_le, Nat.reduceLeDiff, Nat.reduceEqDiff, Nat.le_refl, not_false_eq_true, not_true_eq_false, false_implies, true_implies, forall_const, true_and, and_true, if_true, if_false, implies_true, and_self, ne_eq, false_and, and_false, or_false, false_or, true_or, or_true]
      refine mw_mono (w_copy (d := d + 4) (n := 8) rs.k83 rs.k84 (by omega) (by omega)) ?_
      rintro _ M1 ⟨rfl, A1, e1⟩
      simp (disch := omega) only [q_iload1, q_aload0, q_aload0N, q_get_r, pTag_1, pRf_s, q_get_i, q_ic_ge, q_bipush, q_ic_lt, q_nop, q_iload3, q_ic_le, q_put_i, q_invs2_21, q_vret, q_iload2, q_invv1, inv_1, q_iadd, q_ic_gt, q_iconst, q_istore4, q_iload4, q_if_ne, q_istore5, q_invs3_21, q_iload5, q_invv2, q_ishl, q_ior, q_imul, q_invv3, q_ineg, q_iinc4, q_goto, e_192_0, e_192_1, e_192_2, e_192_3, e_192_4, e_192_6, e_192_7, L_0, L_1, L_8, k_some, k_none, pRm_i, pRm_r, pRm_0, pF_1, pF_2, inv_s, eq_self, Nat.reduceLT, Bool.false_eq_true, Nat.add_zero, Nat.zero_add, Nat.reduceAdd, Nat.reduceMul, Nat.reduceSub, Nat.zero_le, Nat.reduceLeDiff, Nat.reduceEqDiff, Nat.le_refl, not_false_eq_true, not_true_eq_false, false_implies, true_implies, forall_const, true_and, and_true, if_true, if_false, implies_true, and_self, ne_eq, false_and, and_false, or_false, false_or, true_or, or_true]
      have A0 : Ag (fun h k => h = 81 ∧ k = 4) M (sI M 81 4 (nN sum)) := Ag.one ⟨rfl, rfl⟩
      have A : Ag XR M M1 := (A0.mono fun h k z => Or.inl z).trans (A1.mono fun h k z => Or.inr (Or.inr (Or.inr z)))
      have w3 : ∀ k, gI M1 83 k = gI M 83 k := fun k => by rw [A1.I (by omega), A0.I (by omega)]
      refine ⟨fun i j h1 h2 => ?_, fun k hk => by rw [w3]; exact tr k hk, ⟨?_, fun _ k hk => ?_⟩, A⟩
      · rw [A1.I (by omega), A0.I (by omega)]; exact ow i j h1 h2
      · rw [A1.I (by omega), gI_sI, if_pos ⟨rfl, rfl⟩]; rfl
      · rw [e1 k (by omega)]
        exact tr k (by omega)
    · rw [if_neg b]
      have b2 : nN sum ≤ iN s.1 := by rw [eS]; omega
      simp (disch := first | omega | rfl | (repeat' (first | exact gS_sI | exact gP_sI | refine Eq.trans gS_sI ?_ | refine Eq.trans gP_sI ?_))) only [m_192, q_iload1, q_aload0, q_aload0N, q_get_r, pTag_1, pRf_s, q_get_i, q_ic_ge, q_bipush, q_ic_lt, q_nop, q_iload3, q_ic_le, q_put_i, q_invs2_21, q_vret, q_iload2, q_invv1, inv_1, q_iadd, q_ic_gt, q_iconst, q_istore4, q_iload4, q_if_ne, q_istore5, q_invs3_21, q_iload5, q_invv2, q_ishl, q_ior, q_imul, q_invv3, q_ineg, q_iinc4, q_goto, e_192_0, e_192_1, e_192_2, e_192_3, e_192_4, e_192_6, e_192_7, L_0, L_1, L_8, k_some, k_none, pRm_i, pRm_r, pRm_0, pF_1, pF_2, inv_s, k81, k3, pb, pc, pd, nr, c1, g4, b2, gS_sI, gP_sI, gS_sI, gP_sI, gI_sI, Nat.add_left_cancel_iff, Nat.add_eq_left, Nat.left_eq_add, nN_le, nN_lt, nN_eq, nN_add, nN_mul, nN_lt0, nN_ge0, nN_gt0, nN_le0, nN_eq0, nN_eq1, nN_neN, pIn_n, pIx_n, eq_self, Nat.reduceLT, Bool.false_eq_true, Nat.add_zero, Nat.zero_add, Nat.reduceAdd, Nat.reduceMul, Nat.reduceSub, Nat.zero_le, Nat.reduceLeDiff, Nat.reduceEqDiff, Nat.le_refl, not_false_eq_true, not_true_eq_false, false_implies, true_implies, forall_const, true_and, and_true, if_true, if_false, implies_true, and_self, ne_eq, false_and, and_false, or_false, false_or, true_or, or_true]
      exact ⟨ow, tr, bs, Ag.rfl⟩
  | succ j ih =>
    intro dn c used sum o s M rs ow hc tr bs hj hu hs hb
    have k81 := rs.k81
    have pd := rs.pd
    have k3 : gS M 3 = (9, 0) := rs.r.sh.k0
    have nr : gI M 3 11 = nN (nR a) := rs.r.nr.trans hR5
    have c1 : ¬ nR a ≤ dn := by omega
    have c2 : dn < 8 := by omega
    have g4 := bs.1
    have b9 := rMo_le (used := used) hw hc
    have eS : (iN s.1 < nN (sum + rMo a c used)) = (s.1 < ((sum + rMo a c used : Nat) : Int)) := propext (iN_lt ⟨by omega, by omega⟩ (sm_n (by omega)))
    have ev : cO a (j + 1) c dn used sum o s = if ((sum + rMo a c used : Nat) : Int) ≤ s.1 then s else lp (nR a) 0 s (fun r s => if used.testBit r = true then s else cO a j (tkE a r (rL a c r) c) (dn + 1) (used ||| 1 <<< r) (sum + rL a c r * rZ a r) (fun k => if k = dn then r else o k) s) := rfl
    rw [ev, show d + (j + 1) + 6 = (d + j + 6) + 1 from by omega]
    by_cases b : ((sum + rMo a c used : Nat) : Int) ≤ s.1
    · rw [if_pos b]
      have b2 : ¬ iN s.1 < nN (sum + rMo a c used) := by rw [eS]; omega
      simp (disch := omega) only [m_192, q_iload1, q_aload0, q_aload0N, q_get_r, pTag_1, pRf_s, q_get_i, q_ic_ge, q_bipush, q_ic_lt, q_nop, q_iload3, q_ic_le, q_put_i, q_invs2_21, q_vret, q_iload2, q_invv1, inv_1, q_iadd, q_ic_gt, q_iconst, q_istore4, q_iload4, q_if_ne, q_istore5, q_invs3_21, q_iload5, q_invv2, q_ishl, q_ior, q_imul, q_invv3, q_ineg, q_iinc4, q_goto, e_192_0, e_192_2, e_192_3, e_192_4, e_192_6, e_192_7, L_0, L_1, L_8, k_some, k_none, pRm_i, pRm_r, pRm_0, pF_1, pF_2, inv_s, k81, k3, pd, nr, c1, c2, g4, w_mostToCome (d := d + j + 1) rs hw ow hc hu, b2, gS_sI, gP_sI, gI_sI, Nat.add_left_cancel_iff, Nat.add_eq_left, Nat.left_eq_add, nN_le, nN_lt, nN_eq, nN_add, nN_mul, nN_lt0, nN_ge0, nN_gt0, nN_le0, nN_eq0, nN_eq1, nN_neN, pIn_n, pIx_n, eq_self, Nat.reduceLT, Bool.false_eq_true, Nat.add_zero, Nat.zero_add, Nat.reduceAdd, Nat.reduceMul, Nat.reduceSub, Nat.zero_le, Nat.reduceLeDiff, Nat.reduceEqDiff, Nat.le_refl, not_false_eq_true, not_true_eq_false, false_implies, true_implies, forall_const, true_and, and_true, if_true, if_false, implies_true, and_self, ne_eq, false_and, and_false, or_false, false_or, true_or, or_true]
      exact ⟨ow, tr, bs, Ag.rfl⟩
    · rw [if_neg b]
      have b2 : iN s.1 < nN (sum + rMo a c used) := by rw [eS]; omega
      simp (disch := omega) only [m_192, q_iload1, q_aload0, q_aload0N, q_get_r, pTag_1, pRf_s, q_get_i, q_ic_ge, q_bipush, q_ic_lt, q_nop, q_iload3, q_ic_le, q_put_i, q_invs2_21, q_vret, q_iload2, q_invv1, inv_1, q_iadd, q_ic_gt, q_iconst, q_istore4, q_iload4, q_if_ne, q_istore5, q_invs3_21, q_iload5, q_invv2, q_ishl, q_ior, q_imul, q_invv3, q_ineg, q_iinc4, q_goto, e_192_0, e_192_2, e_192_3, e_192_4, e_192_6, e_192_7, L_0, L_1, L_8, k_some, k_none, pRm_i, pRm_r, pRm_0, pF_1, pF_2, inv_s, k81, k3, pd, nr, c1, c2, g4, w_mostToCome (d := d + j + 1) rs hw ow hc hu, b2, gS_sI, gP_sI, gI_sI, Nat.add_left_cancel_iff, Nat.add_eq_left, Nat.left_eq_add, nN_le, nN_lt, nN_eq, nN_add, nN_mul, nN_lt0, nN_ge0, nN_gt0, nN_le0, nN_eq0, nN_eq1, nN_neN, pIn_n, pIx_n, eq_self, Nat.reduceLT, Bool.false_eq_true, Nat.add_zero, Nat.zero_add, Nat.reduceAdd, Nat.reduceMul, Nat.reduceSub, Nat.zero_le, Nat.reduceLeDiff, Nat.reduceEqDiff, Nat.le_refl, not_false_eq_true, not_true_eq_false, false_implies, true_implies, forall_const, true_and, and_true, if_true, if_false, implies_true, and_self, ne_eq, false_and, and_false, or_false, false_or, true_or, or_true]
      refine loopR (n := nR a) (J := Option Value) (C := fun r _ z M => ([some (.ref 81), some (.int (nN dn)), some (.int (nN used)), some (.int (nN sum)), some (.int (nN r)), z], [], M)) (f := fun r s => if used.testBit r = true then s else cO a j (tkE a r (rL a c r) c) (dn + 1) (used ||| 1 <<< r) (sum + rL a c r * rZ a r) (fun k => if k = dn then r else o k) s) (R := fun r s M1 => (OwC M1 82 (nP a) c ∧ TrC M1 83 dn o) ∧ (BsC M1 a s ∧ -1 ≤ s.1 ∧ s.1 ≤ 200000) ∧ Ag XR M M1) ?_ (nR a) 0 s none M (by omega) ⟨⟨ow, tr⟩, ⟨bs, hb⟩, Ag.rfl⟩ ?_
      · rintro r s1 z M1 hr ⟨⟨o1, t1⟩, ⟨bs1, hb1⟩, A1⟩ go
        obtain ⟨h1, h2, h3, h4⟩ := rg_ok hw hr
        have rs1 := rs.ag A1
        have k81 := rs1.k81
        have k82 := rs1.k82
        have k83 := rs1.k83
        have pb := rs1.pb
        have pd := rs1.pd
        have k3 : gS M1 3 = (9, 0) := rs1.r.sh.k0
        have k23 : gS M1 23 = (100, 8) := rs1.r.sh.k20
        have p7 : gP M1 3 7 = some 23 := rs1.r.sh.p7
        have nr : gI M1 3 11 = nN (nR a) := rs1.r.nr.trans hR5
        have c9 : ¬ nR a ≤ r := by omega
        have bt := bit_nN (s := used) (h := r) (by omega) (by omega)
        rw [e_192_5]
        by_cases bu : used.testBit r = true
        · rw [if_pos bu] at go
          rw [bu] at bt
          simp (disch := omega) only [q_iload1, q_aload0, q_aload0N, q_get_r, pTag_1, pRf_s, q_get_i, q_ic_ge, q_bipush, q_ic_lt, q_nop, q_iload3, q_ic_le, q_put_i, q_invs2_21, q_vret, q_iload2, q_invv1, inv_1, q_iadd, q_ic_gt, q_iconst, q_istore4, q_iload4, q_if_ne, q_istore5, q_invs3_21, q_iload5, q_invv2, q_ishl, q_ior, q_imul, q_invv3, q_ineg, q_iinc4, q_goto, e_192_0, e_192_2, e_192_3, e_192_4, e_192_6, e_192_7, L_0, L_1, L_8, k_some, k_none, pRm_i, pRm_r, pRm_0, pF_1, pF_2, inv_s, k81, k3, pd, nr, c9, w_hasBit, bt, bI_eq0, gS_sI, gP_sI, gI_sI, Nat.add_left_cancel_iff, Nat.add_eq_left, Nat.left_eq_add, nN_le, nN_lt, nN_eq, nN_add, nN_mul, nN_lt0, nN_ge0, nN_gt0, nN_le0, nN_eq0, nN_eq1, nN_neN, pIn_n, pIx_n, eq_self, Nat.reduceLT, Bool.false_eq_true, Nat.add_zero, Nat.zero_add, Nat.reduceAdd, Nat.reduceMul, Nat.reduceSub, Nat.zero_le, Nat.reduceLeDiff, Nat.reduceEqDiff, Nat.le_refl, not_false_eq_true, not_true_eq_false, false_implies, true_implies, forall_const, true_and, and_true, if_true, if_false, implies_true, and_self, ne_eq, false_and, and_false, or_false, false_or, true_or, or_true]
          exact go M1 _ ⟨⟨o1, t1⟩, ⟨bs1, hb1⟩, A1⟩
        · rw [if_neg bu] at go
          have bt2 : ((nN used >>> (nN r &&& 31)) &&& nN 1 = nN 1) = False := by rw [bt]; exact eq_false bu
          simp (disch := first | omega | rfl | (repeat' (first | exact gS_sI | exact gP_sI | refine Eq.trans gS_sI ?_ | refine Eq.trans gP_sI ?_))) only [q_iload1, q_aload0, q_aload0N, q_get_r, pTag_1, pRf_s, q_get_i, q_ic_ge, q_bipush, q_ic_lt, q_nop, q_iload3, q_ic_le, q_put_i, q_invs2_21, q_vret, q_iload2, q_invv1, inv_1, q_iadd, q_ic_gt, q_iconst, q_istore4, q_iload4, q_if_ne, q_istore5, q_invs3_21, q_iload5, q_invv2, q_ishl, q_ior, q_imul, q_invv3, q_ineg, q_iinc4, q_goto, e_192_0, e_192_2, e_192_3, e_192_4, e_192_6, e_192_7, L_0, L_1, L_8, k_some, k_none, pRm_i, pRm_r, pRm_0, pF_1, pF_2, inv_s, k81, k3, pb, pd, nr, c9, gS_sI, gP_sI, w_hasBit, bt2, bI_eq0, w_leastOwed (d := d + j + 2) rs1 hw o1 hc hr, w_putS k83, gS_sI, gP_sI, gI_sI, Nat.add_left_cancel_iff, Nat.add_eq_left, Nat.left_eq_add, nN_le, nN_lt, nN_eq, nN_add, nN_mul, nN_lt0, nN_ge0, nN_gt0, nN_le0, nN_eq0, nN_eq1, nN_neN, pIn_n, pIx_n, eq_self, Nat.reduceLT, Bool.false_eq_true, Nat.add_zero, Nat.zero_add, Nat.reduceAdd, Nat.reduceMul, Nat.reduceSub, Nat.zero_le, Nat.reduceLeDiff, Nat.reduceEqDiff, Nat.le_refl, not_false_eq_true, not_true_eq_false, false_implies, true_implies, forall_const, true_and, and_true, if_true, if_false, implies_true, and_self, ne_eq, false_and, and_false, or_false, false_or, true_or, or_true]
          have hl : ∀ i, i < rZ a r → rL a c r ≤ c (rE a r i) := fun i hi => rL_le hi
          have hE : ∀ i, i < rZ a r → isE a r (rE a r i) = true := fun i hi => isE_iff.mpr ⟨i, hi, rfl⟩
          have lz := rLZ hw hr hc
          have mb := mO_bd hw j (tkE a r (rL a c r) c) (dn + 1) (used ||| 1 <<< r) (sum + rL a c r * rZ a r) (fun k => if k = dn then r else o k) s1 (by omega) (by omega) (tkE_lt hc) hb1
          rw [← cO_eq] at mb
          generalize rL a c r = l at *
          have A2 : Ag XR M1 (sI M1 83 dn (nN r)) := Ag.one (Or.inr (Or.inr (Or.inl rfl)))
          refine mw_mono (w_takeFrom (d := d + j + 2) (c2 := tkE a r l c) (rs1.ag A2) hw hd (fun i j h1 h2 => by rw [gI_sI, if_neg (by omega)]; exact o1 i j h1 h2) hr (fun i hi => tk_v (hE i hi) (hl i hi)) (fun p hp => if_neg hp)) ?_
          rintro _ M2 ⟨rfl, o2, A3⟩
          have A3' : Ag XR (sI M1 83 dn (nN r)) M2 := A3.mono fun h k z => Or.inr (Or.inl z)
          have A12 : Ag XR M1 M2 := A2.trans A3'
          have rs2 := rs1.ag A12
          have k812 := rs2.k81
          have pd2 := rs2.pd
          have k32 : gS M2 3 = (9, 0) := rs2.r.sh.k0
          have k232 : gS M2 23 = (100, 8) := rs2.r.sh.k20
          have p72 : gP M2 3 7 = some 23 := rs2.r.sh.p7
          have e23 : gI M2 23 r = nN (rZ a r) := by have := rs2.r.rs r hr; rw [h3] at this; exact this
          have e4 : nN used ||| nN 1 <<< (nN r &&& 31) = nN (used ||| 1 <<< r) := by rw [nN_shl (by omega), nN_or]
          have hu2 : used ||| 1 <<< r < 256 := by
            refine Nat.or_lt_two_pow (n := 8) hu ?_
            rw [Nat.one_shiftLeft]
            exact Nat.pow_lt_pow_right (by omega) (by omega)
          have t2 : TrC M2 83 (dn + 1) (fun k => if k = dn then r else o k) := fun k hk => by
            show gI M2 83 k = nN (if k = dn then r else o k)
            rw [A3.I (by omega), gI_sI]
            by_cases e : k = dn
            · rw [if_pos ⟨rfl, e⟩, if_pos e]
            · rw [if_neg (fun z => e z.2), if_neg e]; exact t1 k (by omega)
          have bs2 : BsC M2 a s1 := ⟨by rw [A3.I (by omega), gI_sI, if_neg (by omega)]; exact bs1.1, fun h k hk => by rw [A3.I (by omega), gI_sI, if_neg (by omega)]; exact bs1.2 h k hk⟩
          simp (disch := omega) only [q_iload1, q_aload0, q_aload0N, q_get_r, pTag_1, pRf_s, q_get_i, q_ic_ge, q_bipush, q_ic_lt, q_nop, q_iload3, q_ic_le, q_put_i, q_invs2_21, q_vret, q_iload2, q_invv1, inv_1, q_iadd, q_ic_gt, q_iconst, q_istore4, q_iload4, q_if_ne, q_istore5, q_invs3_21, q_iload5, q_invv2, q_ishl, q_ior, q_imul, q_invv3, q_ineg, q_iinc4, q_goto, e_192_0, e_192_2, e_192_3, e_192_4, e_192_6, e_192_7, L_0, L_1, L_8, k_some, k_none, pRm_i, pRm_r, pRm_0, pF_1, pF_2, inv_s, k812, k32, pd2, p72, w_atN k232, e23, e4, gS_sI, gP_sI, gI_sI, Nat.add_left_cancel_iff, Nat.add_eq_left, Nat.left_eq_add, nN_le, nN_lt, nN_eq, nN_add, nN_mul, nN_lt0, nN_ge0, nN_gt0, nN_le0, nN_eq0, nN_eq1, nN_neN, pIn_n, pIx_n, eq_self, Nat.reduceLT, Bool.false_eq_true, Nat.add_zero, Nat.zero_add, Nat.reduceAdd, Nat.reduceMul, Nat.reduceSub, Nat.zero_le, Nat.reduceLeDiff, Nat.reduceEqDiff, Nat.le_refl, not_false_eq_true, not_true_eq_false, false_implies, true_implies, forall_const, true_and, and_true, if_true, if_false, implies_true, and_self, ne_eq, false_and, and_false, or_false, false_or, true_or, or_true]
          refine mw_mono (ih (dn + 1) (tkE a r l c) (used ||| 1 <<< r) (sum + l * rZ a r) (fun k => if k = dn then r else o k) s1 M2 rs2 o2 (tkE_lt hc) t2 bs2 (by omega) hu2 (by omega) hb1) ?_
          rintro _ M3 ⟨rfl, o3, t3, bs3, A4⟩
          have rs3 := rs2.ag A4
          have k813 := rs3.k81
          simp (disch := omega) only [q_iload1, q_aload0, q_aload0N, q_get_r, pTag_1, pRf_s, q_get_i, q_ic_ge, q_bipush, q_ic_lt, q_nop, q_iload3, q_ic_le, q_put_i, q_invs2_21, q_vret, q_iload2, q_invv1, inv_1, q_iadd, q_ic_gt, q_iconst, q_istore4, q_iload4, q_if_ne, q_istore5, q_invs3_21, q_iload5, q_invv2, q_ishl, q_ior, q_imul, q_invv3, q_ineg, q_iinc4, q_goto, e_192_0, e_192_2, e_192_3, e_192_4, e_192_6, e_192_7, L_0, L_1, L_8, k_some, k_none, pRm_i, pRm_r, pRm_0, pF_1, pF_2, inv_s, k813, gS_sI, gP_sI, gI_sI, Nat.add_left_cancel_iff, Nat.add_eq_left, Nat.left_eq_add, nN_le, nN_lt, nN_eq, nN_add, nN_mul, nN_lt0, nN_ge0, nN_gt0, nN_le0, nN_eq0, nN_eq1, nN_neN, pIn_n, pIx_n, eq_self, Nat.reduceLT, Bool.false_eq_true, Nat.add_zero, Nat.zero_add, Nat.reduceAdd, Nat.reduceMul, Nat.reduceSub, Nat.zero_le, Nat.reduceLeDiff, Nat.reduceEqDiff, Nat.le_refl, not_false_eq_true, not_true_eq_false, false_implies, true_implies, forall_const, true_and, and_true, if_true, if_false, implies_true, and_self, ne_eq, false_and, and_false, or_false, false_or, true_or, or_true]
          refine mw_mono (w_takeFrom (d := d + j + 2) (c2 := c) rs3 hw hd o3 hr (fun i hi => tk_b (hE i hi) (hl i hi)) (fun p hp => (if_neg hp).symm)) ?_
          rintro _ M4 ⟨rfl, o4, A5⟩
          have A5' : Ag XR M3 M4 := A5.mono fun h k z => Or.inr (Or.inl z)
          simp (disch := omega) only [q_iload1, q_aload0, q_aload0N, q_get_r, pTag_1, pRf_s, q_get_i, q_ic_ge, q_bipush, q_ic_lt, q_nop, q_iload3, q_ic_le, q_put_i, q_invs2_21, q_vret, q_iload2, q_invv1, inv_1, q_iadd, q_ic_gt, q_iconst, q_istore4, q_iload4, q_if_ne, q_istore5, q_invs3_21, q_iload5, q_invv2, q_ishl, q_ior, q_imul, q_invv3, q_ineg, q_iinc4, q_goto, e_192_0, e_192_2, e_192_3, e_192_4, e_192_6, e_192_7, L_0, L_1, L_8, k_some, k_none, pRm_i, pRm_r, pRm_0, pF_1, pF_2, inv_s, nN_le, nN_lt, nN_eq, nN_add, nN_mul, nN_lt0, nN_ge0, nN_gt0, nN_le0, nN_eq0, nN_eq1, nN_neN, pIn_n, pIx_n, eq_self, Nat.reduceLT, Bool.false_eq_true, Nat.add_zero, Nat.zero_add, Nat.reduceAdd, Nat.reduceMul, Nat.reduceSub, Nat.zero_le, Nat.reduceLeDiff, Nat.reduceEqDiff, Nat.le_refl, not_false_eq_true, not_true_eq_false, false_implies, true_implies, forall_const, true_and, and_true, if_true, if_false, implies_true, and_self, ne_eq, false_and, and_false, or_false, false_or, true_or, or_true]
          refine go M4 _ ⟨⟨o4, fun k hk => ?_⟩, ⟨⟨?_, fun h k hk => ?_⟩, mb⟩, ((A1.trans A12).trans A4).trans A5'⟩
          · rw [A5.I (by omega)]
            exact (t3 k (by omega)).trans (congrArg nN (if_neg (show ¬ k = dn by omega)))
          · rw [A5.I (by omega)]; exact bs3.1
          · rw [A5.I (by omega)]; exact bs3.2 h k hk
      · rintro M1 z ⟨⟨o1, t1⟩, ⟨bs1, hb1⟩, A1⟩
        have rs1 := rs.ag A1
        have k81 := rs1.k81
        have pd := rs1.pd
        have k3 : gS M1 3 = (9, 0) := rs1.r.sh.k0
        have nr : gI M1 3 11 = nN (nR a) := rs1.r.nr.trans hR5
        rw [e_192_5]
        simp (disch := omega) only [q_iload1, q_aload0, q_aload0N, q_get_r, pTag_1, pRf_s, q_get_i, q_ic_ge, q_bipush, q_ic_lt, q_nop, q_iload3, q_ic_le, q_put_i, q_invs2_21, q_vret, q_iload2, q_invv1, inv_1, q_iadd, q_ic_gt, q_iconst, q_istore4, q_iload4, q_if_ne, q_istore5, q_invs3_21, q_iload5, q_invv2, q_ishl, q_ior, q_imul, q_invv3, q_ineg, q_iinc4, q_goto, e_192_0, e_192_2, e_192_3, e_192_4, e_192_6, e_192_7, L_0, L_1, L_8, k_some, k_none, pRm_i, pRm_r, pRm_0, pF_1, pF_2, inv_s, k81, k3, pd, nr, gS_sI, gP_sI, gI_sI, Nat.add_left_cancel_iff, Nat.add_eq_left, Nat.left_eq_add, nN_le, nN_lt, nN_eq, nN_add, nN_mul, nN_lt0, nN_ge0, nN_gt0, nN_le0, nN_eq0, nN_eq1, nN_neN, pIn_n, pIx_n, eq_self, Nat.reduceLT, Bool.false_eq_true, Nat.add_zero, Nat.zero_add, Nat.reduceAdd, Nat.reduceMul, Nat.reduceSub, Nat.zero_le, Nat.reduceLeDiff, Nat.reduceEqDiff, Nat.le_refl, not_false_eq_true, not_true_eq_false, false_implies, true_implies, forall_const, true_and, and_true, if_true, if_false, implies_true, and_self, ne_eq, false_and, and_false, or_false, false_or, true_or, or_true]
        exact ⟨o1, t1, bs1, A1⟩
end TY
