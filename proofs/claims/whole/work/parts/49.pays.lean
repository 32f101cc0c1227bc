/-! WHO PAYS BY WHAT; NEEDS -/
def sW (a : Nat → Int32) (f : Nat) : Int32 := sWorth (fa a f 1) (fa a f 3 + nN 1)
theorem sW_eq {a : Nat → Int32} {f : Nat} : sWorth (fa a f 1) (fa a f 3 + nN 1) = sW a f := rfl
def oI : Option Nat → Int32
  | none => iN (-1)
  | some b => nN b
def sBet (a : Nat → Int32) (n f : Nat) (s : Option Nat) : Bool := decide (nN (n * 1024) ≤ sW a f) && (match s with | none => true | some b => decide (sW a f < sW a b))
noncomputable def sPayF (a : Nat → Int32) (x y n f : Nat) (s : Option Nat) : Option Nat := if fa a f 2 = nN x ∧ sBet a n f s = true ∧ sGoTo a f y = true then some f else s
noncomputable def sPays (a : Nat → Int32) (x y n : Nat) : Option Nat := lp (nF a) 0 none (sPayF a x y n)
noncomputable def sPort (a : Nat → Int32) (x y : Nat) : Int32 := sS (nF a) fun f => if fa a f 2 = nN x ∧ sGoTo a f y = true then sW a f / nN 1024 else nN 0
noncomputable def sMet (a : Nat → Int32) (x y n : Nat) : Bool := (sPays a x y n).isSome || sCanGive a x y n 0 false
def eN (a : Nat → Int32) (k w : Nat) : Nat := (ea a k w).toInt.toNat
noncomputable def sMetK (a : Nat → Int32) (k : Nat) : Bool := sMet a (eN a k 0) (eN a k 1) (eN a k 2)
noncomputable def sUnm (a : Nat → Int32) : Nat → Nat → Option Nat
  | 0, _ => none
  | j + 1, k => if sMetK a k = true then sUnm a j (k + 1) else some k
noncomputable def sFirst (a : Nat → Int32) : Option Nat := sUnm a (nE a) 0
noncomputable def sSet (a : Nat → Int32) (x y n : Nat) : (Nat → Int32) × Int32 := match sPays a x y n with
  | some f => (sCome a f y, nN f)
  | none => if sCanGive a x y n 0 false = true then (gTail a x y n 0 false, nN (nF a)) else (a, iN (-1))
section PY
variable {d t u q f p g n y x dd k : Nat} {a a' : Nat → Int32} {M M' M0 : pMem} {Q : pOut → pMem → Prop}
theorem oI_neg {s : Option Nat} (h : ∀ b, s = some b → b < 100) : (oI s = iN (-1)) = (s = none) := by
  cases s with
  | none => simp [oI]
  | some b =>
    have := h b rfl
    simp only [oI, nN_neN (show b < 2147483648 by omega)]
    simp
theorem sPays_ok {f : Nat} (h : sPays a x y n = some f) : f < nF a ∧ fa a f 2 = nN x ∧ sGoTo a f y = true := by
  have := lp_inv (f := sPayF a x y n) (P := fun k s => ∀ b, s = some b → b < k ∧ fa a b 2 = nN x ∧ sGoTo a b y = true) (nF a) 0 none (by simp) (fun i s h1 h2 h3 b hb => by
    unfold sPayF at hb
    split at hb
    · rename_i c
      cases hb
      exact ⟨by omega, c.1, c.2.2⟩
    · obtain ⟨g1, g2⟩ := h3 b hb
      exact ⟨by omega, g2⟩)
  have h9 := this f h
  rw [Nat.zero_add] at h9
  exact h9
theorem w_favToPay (hr : Rep M t a) (hw : Wf a) (hT : TmR M t a) (ht : t + 22 ≤ 101) (hx : x < nP a) (hy : y < nP a) (hn : n < 100) :
    mw (d + 10) 236 [.ref t, .int (nN x), .int (nN y), .int (nN n)] M (fun o M' => o = .inl (some (.int (oI (sPays a x y n)))) ∧ Ag (XC (gS M) (gP M) t) M M') := by
  have hp' := hw.p'
  have hf' := hw.f'
  simp (disch := omega) only [m_236, q_iconst, q_istore4, q_istore5, q_nop, q_iload5, q_aload0, q_aload0N, q_get_r, pTag_1, pRf_s, q_get_i, q_ic_ge, q_invv2, inv_1, q_istore6, q_iload6, q_iload3, q_sipush, q_imul, q_ic_lt, q_iload4, q_ic_eq, q_goto, q_istore7, q_iload7, q_if_eq, q_invs2_21, q_iload1, q_ic_ne, q_iload2, q_iinc5, q_iret, e_236_0, L_0, L_1, L_1024, k_some, k_none, pRm_i, pRm_r, pRm_0, pF_1, pF_2, inv_s]
  refine loopR (n := nF a) (J := Option Value × Option Value) (C := fun k s z M => ([some (.ref t), some (.int (nN x)), some (.int (nN y)), some (.int (nN n)), some (.int (oI s)), some (.int (nN k)), z.1, z.2], [], M)) (f := sPayF a x y n) (R := fun k s M1 => Ag (XC (gS M) (gP M) t) M M1 ∧ ∀ b, s = some b → b < k) ?_ (nF a) 0 none (none, none) M (by omega) ⟨Ag.rfl, by simp⟩ ?_
  · rintro k s ⟨z1, z2⟩ M1 hk ⟨A1, hb⟩ go
    have r1 := hr.ag A1 (fun h k h1 h2 h3 h4 => XC_low (by omega) h3 h4)
    have T1 := hT.ag A1 (by omega)
    have e1 : ¬ nF a ≤ k := by omega
    have go5 : ∀ (M2 : pMem) (z : Option Value × Option Value) (s2 : Option Nat), s2 = sPayF a x y n k s → Ag (XC (gS M) (gP M) t) M M2 → bw (d + 9) 236 5 ([some (.ref t), some (.int (nN x)), some (.int (nN y)), some (.int (nN n)), some (.int (oI s2)), some (.int (nN k)), z.1, z.2], [], M2) _ := fun M2 z s2 h2 h1 => by
      rw [e_236_5]
      simp (disch := omega) only [q_iconst, q_istore4, q_istore5, q_nop, q_iload5, q_aload0, q_aload0N, q_get_r, pTag_1, pRf_s, q_get_i, q_ic_ge, q_invv2, inv_1, q_istore6, q_iload6, q_iload3, q_sipush, q_imul, q_ic_lt, q_iload4, q_ic_eq, q_goto, q_istore7, q_iload7, q_if_eq, q_invs2_21, q_iload1, q_ic_ne, q_iload2, q_iinc5, q_iret, e_236_0, L_0, L_1, L_1024, k_some, k_none, pRm_i, pRm_r, pRm_0, pF_1, pF_2, inv_s, nN_add]
      rw [h2]
      refine go M2 z ⟨h1, fun b hb2 => ?_⟩
      unfold sPayF at hb2
      split at hb2
      · cases hb2; omega
      · have := hb b hb2; omega
    have go4 : ∀ x4 z1 z2, x4 = bI (sBet a n k s = true) → bw (d + 9) 236 4 ([some (.ref t), some (.int (nN x)), some (.int (nN y)), some (.int (nN n)), some (.int (oI s)), some (.int (nN k)), z1, z2], [.int x4], M1) _ := fun x4 z1 z2 h4 => by
      rw [e_236_4]
      by_cases c1 : sBet a n k s = true
      · by_cases c2 : fa a k 2 = nN x
        · simp (disch := omega) only [q_iconst, q_istore4, q_istore5, q_nop, q_iload5, q_aload0, q_aload0N, q_get_r, pTag_1, pRf_s, q_get_i, q_ic_ge, q_invv2, inv_1, q_istore6, q_iload6, q_iload3, q_sipush, q_imul, q_ic_lt, q_iload4, q_ic_eq, q_goto, q_istore7, q_iload7, q_if_eq, q_invs2_21, q_iload1, q_ic_ne, q_iload2, q_iinc5, q_iret, e_236_0, L_0, L_1, L_1024, k_some, k_none, pRm_i, pRm_r, pRm_0, pF_1, pF_2, inv_s, h4, c1, c2, bI_eq0, r1.sh.k7, r1.nf, r1.sh.r0, r1.sh.r1, r1.sh.r2, r1.sh.r3, r1.sh.r4, r1.sh.r5, r1.sh.r6, w_atN r1.sh.k8, w_atN r1.sh.k9, w_atN r1.sh.k10, w_atN r1.sh.k11, w_atN r1.sh.k12, w_atN r1.sh.k13, w_atN r1.sh.k14, r1.g, r1.h, r1.am, r1.hd, r1.en, r1.fc, r1.sh.k0, r1.nt, r1.ne, r1.nr, r1.nx, r1.day, r1.law, r1.sh.p0, r1.sh.p1, r1.sh.p2, r1.sh.p3, r1.sh.p4, r1.sh.p5, r1.sh.p6, r1.sh.p7, r1.sh.p8, nN_le, nN_lt, nN_eq, nN_add, nN_mul, nN_lt0, nN_ge0, nN_gt0, nN_le0, nN_eq0, nN_eq1, nN_neN, pIn_n, pIx_n, eq_self, Bool.false_eq_true, Nat.add_zero, Nat.zero_add, Nat.reduceAdd, Nat.reduceMul, Nat.reduceSub, Nat.zero_le, Nat.reduceLeDiff, Nat.reduceEqDiff, Nat.le_refl, not_false_eq_true, not_true_eq_false, false_implies, true_implies, forall_const, true_and, and_true, if_true, if_false, implies_true, and_self, ne_eq, false_and, and_false, or_false, false_or, true_or, or_true]
          refine mw_mono (w_goTo r1 hw T1 (by omega) hy hk) ?_
          rintro _ M2 ⟨rfl, A2⟩
          rw [A1.S, A1.P] at A2
          have A12 := A1.trans A2
          by_cases c3 : sGoTo a k y = true
          · simp (disch := omega) only [q_iconst, q_istore4, q_istore5, q_nop, q_iload5, q_aload0, q_aload0N, q_get_r, pTag_1, pRf_s, q_get_i, q_ic_ge, q_invv2, inv_1, q_istore6, q_iload6, q_iload3, q_sipush, q_imul, q_ic_lt, q_iload4, q_ic_eq, q_goto, q_istore7, q_iload7, q_if_eq, q_invs2_21, q_iload1, q_ic_ne, q_iload2, q_iinc5, q_iret, e_236_0, L_0, L_1, L_1024, k_some, k_none, pRm_i, pRm_r, pRm_0, pF_1, pF_2, inv_s, c3, bI_eq0, nN_le, nN_lt, nN_eq, nN_add, nN_mul, nN_lt0, nN_ge0, nN_gt0, nN_le0, nN_eq0, nN_eq1, nN_neN, pIn_n, pIx_n, eq_self, Bool.false_eq_true, Nat.add_zero, Nat.zero_add, Nat.reduceAdd, Nat.reduceMul, Nat.reduceSub, Nat.zero_le, Nat.reduceLeDiff, Nat.reduceEqDiff, Nat.le_refl, not_false_eq_true, not_true_eq_false, false_implies, true_implies, forall_const, true_and, and_true, if_true, if_false, implies_true, and_self, ne_eq, false_and, and_false, or_false, false_or, true_or, or_true]
            exact go5 M2 (z1, some (.int (bI True))) (some k) (by unfold sPayF; rw [if_pos ⟨c2, c1, c3⟩]) A12
          · simp (disch := omega) only [q_iconst, q_istore4, q_istore5, q_nop, q_iload5, q_aload0, q_aload0N, q_get_r, pTag_1, pRf_s, q_get_i, q_ic_ge, q_invv2, inv_1, q_istore6, q_iload6, q_iload3, q_sipush, q_imul, q_ic_lt, q_iload4, q_ic_eq, q_goto, q_istore7, q_iload7, q_if_eq, q_invs2_21, q_iload1, q_ic_ne, q_iload2, q_iinc5, q_iret, e_236_0, L_0, L_1, L_1024, k_some, k_none, pRm_i, pRm_r, pRm_0, pF_1, pF_2, inv_s, c3, bI_eq0, nN_le, nN_lt, nN_eq, nN_add, nN_mul, nN_lt0, nN_ge0, nN_gt0, nN_le0, nN_eq0, nN_eq1, nN_neN, pIn_n, pIx_n, eq_self, Bool.false_eq_true, Nat.add_zero, Nat.zero_add, Nat.reduceAdd, Nat.reduceMul, Nat.reduceSub, Nat.zero_le, Nat.reduceLeDiff, Nat.reduceEqDiff, Nat.le_refl, not_false_eq_true, not_true_eq_false, false_implies, true_implies, forall_const, true_and, and_true, if_true, if_false, implies_true, and_self, ne_eq, false_and, and_false, or_false, false_or, true_or, or_true]
            exact go5 M2 (z1, some (.int (bI True))) s (by unfold sPayF; rw [if_neg (fun z => c3 z.2.2)]) A12
        · simp (disch := omega) only [q_iconst, q_istore4, q_istore5, q_nop, q_iload5, q_aload0, q_aload0N, q_get_r, pTag_1, pRf_s, q_get_i, q_ic_ge, q_invv2, inv_1, q_istore6, q_iload6, q_iload3, q_sipush, q_imul, q_ic_lt, q_iload4, q_ic_eq, q_goto, q_istore7, q_iload7, q_if_eq, q_invs2_21, q_iload1, q_ic_ne, q_iload2, q_iinc5, q_iret, e_236_0, L_0, L_1, L_1024, k_some, k_none, pRm_i, pRm_r, pRm_0, pF_1, pF_2, inv_s, h4, c1, c2, bI_eq0, r1.sh.k7, r1.nf, r1.sh.r0, r1.sh.r1, r1.sh.r2, r1.sh.r3, r1.sh.r4, r1.sh.r5, r1.sh.r6, w_atN r1.sh.k8, w_atN r1.sh.k9, w_atN r1.sh.k10, w_atN r1.sh.k11, w_atN r1.sh.k12, w_atN r1.sh.k13, w_atN r1.sh.k14, r1.g, r1.h, r1.am, r1.hd, r1.en, r1.fc, r1.sh.k0, r1.nt, r1.ne, r1.nr, r1.nx, r1.day, r1.law, r1.sh.p0, r1.sh.p1, r1.sh.p2, r1.sh.p3, r1.sh.p4, r1.sh.p5, r1.sh.p6, r1.sh.p7, r1.sh.p8, nN_le, nN_lt, nN_eq, nN_add, nN_mul, nN_lt0, nN_ge0, nN_gt0, nN_le0, nN_eq0, nN_eq1, nN_neN, pIn_n, pIx_n, eq_self, Bool.false_eq_true, Nat.add_zero, Nat.zero_add, Nat.reduceAdd, Nat.reduceMul, Nat.reduceSub, Nat.zero_le, Nat.reduceLeDiff, Nat.reduceEqDiff, Nat.le_refl, not_false_eq_true, not_true_eq_false, false_implies, true_implies, forall_const, true_and, and_true, if_true, if_false, implies_true, and_self, ne_eq, false_and, and_false, or_false, false_or, true_or, or_true]
          exact go5 M1 (z1, some (.int (bI True))) s (by unfold sPayF; rw [if_neg (fun z => c2 z.1)]) A1
      · simp (disch := omega) only [q_iconst, q_istore4, q_istore5, q_nop, q_iload5, q_aload0, q_aload0N, q_get_r, pTag_1, pRf_s, q_get_i, q_ic_ge, q_invv2, inv_1, q_istore6, q_iload6, q_iload3, q_sipush, q_imul, q_ic_lt, q_iload4, q_ic_eq, q_goto, q_istore7, q_iload7, q_if_eq, q_invs2_21, q_iload1, q_ic_ne, q_iload2, q_iinc5, q_iret, e_236_0, L_0, L_1, L_1024, k_some, k_none, pRm_i, pRm_r, pRm_0, pF_1, pF_2, inv_s, h4, c1, bI_eq0, r1.sh.k7, r1.nf, r1.sh.r0, r1.sh.r1, r1.sh.r2, r1.sh.r3, r1.sh.r4, r1.sh.r5, r1.sh.r6, w_atN r1.sh.k8, w_atN r1.sh.k9, w_atN r1.sh.k10, w_atN r1.sh.k11, w_atN r1.sh.k12, w_atN r1.sh.k13, w_atN r1.sh.k14, r1.g, r1.h, r1.am, r1.hd, r1.en, r1.fc, r1.sh.k0, r1.nt, r1.ne, r1.nr, r1.nx, r1.day, r1.law, r1.sh.p0, r1.sh.p1, r1.sh.p2, r1.sh.p3, r1.sh.p4, r1.sh.p5, r1.sh.p6, r1.sh.p7, r1.sh.p8, nN_le, nN_lt, nN_eq, nN_add, nN_mul, nN_lt0, nN_ge0, nN_gt0, nN_le0, nN_eq0, nN_eq1, nN_neN, pIn_n, pIx_n, eq_self, Bool.false_eq_true, Nat.add_zero, Nat.zero_add, Nat.reduceAdd, Nat.reduceMul, Nat.reduceSub, Nat.zero_le, Nat.reduceLeDiff, Nat.reduceEqDiff, Nat.le_refl, not_false_eq_true, not_true_eq_false, false_implies, true_implies, forall_const, true_and, and_true, if_true, if_false, implies_true, and_self, ne_eq, false_and, and_false, or_false, false_or, true_or, or_true]
        exact go5 M1 (z1, some (.int (bI False))) s (by unfold sPayF; rw [if_neg (fun z => c1 z.2.1)]) A1
    rw [e_236_1]
    by_cases c1 : sW a k < nN (n * 1024)
    · have c1' : ¬ nN (n * 1024) ≤ sW a k := Int32.not_le.mpr c1
      simp (disch := omega) only [q_iconst, q_istore4, q_istore5, q_nop, q_iload5, q_aload0, q_aload0N, q_get_r, pTag_1, pRf_s, q_get_i, q_ic_ge, q_invv2, inv_1, q_istore6, q_iload6, q_iload3, q_sipush, q_imul, q_ic_lt, q_iload4, q_ic_eq, q_goto, q_istore7, q_iload7, q_if_eq, q_invs2_21, q_iload1, q_ic_ne, q_iload2, q_iinc5, q_iret, e_236_0, e_236_3, L_0, L_1, L_1024, k_some, k_none, pRm_i, pRm_r, pRm_0, pF_1, pF_2, inv_s, w_worth r1 hw, hw.f, c1, e1, r1.sh.k7, r1.nf, r1.sh.r0, r1.sh.r1, r1.sh.r2, r1.sh.r3, r1.sh.r4, r1.sh.r5, r1.sh.r6, w_atN r1.sh.k8, w_atN r1.sh.k9, w_atN r1.sh.k10, w_atN r1.sh.k11, w_atN r1.sh.k12, w_atN r1.sh.k13, w_atN r1.sh.k14, r1.g, r1.h, r1.am, r1.hd, r1.en, r1.fc, r1.sh.k0, r1.nt, r1.ne, r1.nr, r1.nx, r1.day, r1.law, r1.sh.p0, r1.sh.p1, r1.sh.p2, r1.sh.p3, r1.sh.p4, r1.sh.p5, r1.sh.p6, r1.sh.p7, r1.sh.p8, nN_le, nN_lt, nN_eq, nN_add, nN_mul, nN_lt0, nN_ge0, nN_gt0, nN_le0, nN_eq0, nN_eq1, nN_neN, pIn_n, pIx_n, eq_self, Bool.false_eq_true, Nat.add_zero, Nat.zero_add, Nat.reduceAdd, Nat.reduceMul, Nat.reduceSub, Nat.zero_le, Nat.reduceLeDiff, Nat.reduceEqDiff, Nat.le_refl, not_false_eq_true, not_true_eq_false, false_implies, true_implies, forall_const, true_and, and_true, if_true, if_false, implies_true, and_self, ne_eq, false_and, and_false, or_false, false_or, true_or, or_true, sW_eq]
      exact go4 _ _ _ (by simp [sBet, c1', bI])
    · have c1' : nN (n * 1024) ≤ sW a k := Int32.not_lt.mp c1
      cases s with
      | none =>
        simp (disch := omega) only [q_iconst, q_istore4, q_istore5, q_nop, q_iload5, q_aload0, q_aload0N, q_get_r, pTag_1, pRf_s, q_get_i, q_ic_ge, q_invv2, inv_1, q_istore6, q_iload6, q_iload3, q_sipush, q_imul, q_ic_lt, q_iload4, q_ic_eq, q_goto, q_istore7, q_iload7, q_if_eq, q_invs2_21, q_iload1, q_ic_ne, q_iload2, q_iinc5, q_iret, e_236_0, e_236_2, L_0, L_1, L_1024, k_some, k_none, pRm_i, pRm_r, pRm_0, pF_1, pF_2, inv_s, w_worth r1 hw, hw.f, c1, e1, oI, r1.sh.k7, r1.nf, r1.sh.r0, r1.sh.r1, r1.sh.r2, r1.sh.r3, r1.sh.r4, r1.sh.r5, r1.sh.r6, w_atN r1.sh.k8, w_atN r1.sh.k9, w_atN r1.sh.k10, w_atN r1.sh.k11, w_atN r1.sh.k12, w_atN r1.sh.k13, w_atN r1.sh.k14, r1.g, r1.h, r1.am, r1.hd, r1.en, r1.fc, r1.sh.k0, r1.nt, r1.ne, r1.nr, r1.nx, r1.day, r1.law, r1.sh.p0, r1.sh.p1, r1.sh.p2, r1.sh.p3, r1.sh.p4, r1.sh.p5, r1.sh.p6, r1.sh.p7, r1.sh.p8, nN_le, nN_lt, nN_eq, nN_add, nN_mul, nN_lt0, nN_ge0, nN_gt0, nN_le0, nN_eq0, nN_eq1, nN_neN, pIn_n, pIx_n, eq_self, Bool.false_eq_true, Nat.add_zero, Nat.zero_add, Nat.reduceAdd, Nat.reduceMul, Nat.reduceSub, Nat.zero_le, Nat.reduceLeDiff, Nat.reduceEqDiff, Nat.le_refl, not_false_eq_true, not_true_eq_false, false_implies, true_implies, forall_const, true_and, and_true, if_true, if_false, implies_true, and_self, ne_eq, false_and, and_false, or_false, false_or, true_or, or_true, sW_eq]
        exact go4 _ _ _ (by simp [sBet, c1', bI])
      | some b =>
        have hb1 := hb b rfl
        have hb2 : ¬ nN b = iN (-1) := by rw [nN_neN (by omega)]; exact not_false
        by_cases c2 : sW a k < sW a b
        · have c2' : ¬ sW a b ≤ sW a k := Int32.not_le.mpr c2
          simp (disch := omega) only [q_iconst, q_istore4, q_istore5, q_nop, q_iload5, q_aload0, q_aload0N, q_get_r, pTag_1, pRf_s, q_get_i, q_ic_ge, q_invv2, inv_1, q_istore6, q_iload6, q_iload3, q_sipush, q_imul, q_ic_lt, q_iload4, q_ic_eq, q_goto, q_istore7, q_iload7, q_if_eq, q_invs2_21, q_iload1, q_ic_ne, q_iload2, q_iinc5, q_iret, e_236_0, e_236_2, L_0, L_1, L_1024, k_some, k_none, pRm_i, pRm_r, pRm_0, pF_1, pF_2, inv_s, w_worth r1 hw, hw.f, c1, e1, oI, hb2, c2', r1.sh.k7, r1.nf, r1.sh.r0, r1.sh.r1, r1.sh.r2, r1.sh.r3, r1.sh.r4, r1.sh.r5, r1.sh.r6, w_atN r1.sh.k8, w_atN r1.sh.k9, w_atN r1.sh.k10, w_atN r1.sh.k11, w_atN r1.sh.k12, w_atN r1.sh.k13, w_atN r1.sh.k14, r1.g, r1.h, r1.am, r1.hd, r1.en, r1.fc, r1.sh.k0, r1.nt, r1.ne, r1.nr, r1.nx, r1.day, r1.law, r1.sh.p0, r1.sh.p1, r1.sh.p2, r1.sh.p3, r1.sh.p4, r1.sh.p5, r1.sh.p6, r1.sh.p7, r1.sh.p8, nN_le, nN_lt, nN_eq, nN_add, nN_mul, nN_lt0, nN_ge0, nN_gt0, nN_le0, nN_eq0, nN_eq1, nN_neN, pIn_n, pIx_n, eq_self, Bool.false_eq_true, Nat.add_zero, Nat.zero_add, Nat.reduceAdd, Nat.reduceMul, Nat.reduceSub, Nat.zero_le, Nat.reduceLeDiff, Nat.reduceEqDiff, Nat.le_refl, not_false_eq_true, not_true_eq_false, false_implies, true_implies, forall_const, true_and, and_true, if_true, if_false, implies_true, and_self, ne_eq, false_and, and_false, or_false, false_or, true_or, or_true, sW_eq]
          exact go4 _ _ _ (by simp [sBet, c1', bI, c2])
        · have c2' : sW a b ≤ sW a k := Int32.not_lt.mp c2
          simp (disch := omega) only [q_iconst, q_istore4, q_istore5, q_nop, q_iload5, q_aload0, q_aload0N, q_get_r, pTag_1, pRf_s, q_get_i, q_ic_ge, q_invv2, inv_1, q_istore6, q_iload6, q_iload3, q_sipush, q_imul, q_ic_lt, q_iload4, q_ic_eq, q_goto, q_istore7, q_iload7, q_if_eq, q_invs2_21, q_iload1, q_ic_ne, q_iload2, q_iinc5, q_iret, e_236_0, e_236_3, L_0, L_1, L_1024, k_some, k_none, pRm_i, pRm_r, pRm_0, pF_1, pF_2, inv_s, w_worth r1 hw, hw.f, c1, e1, oI, hb2, c2', r1.sh.k7, r1.nf, r1.sh.r0, r1.sh.r1, r1.sh.r2, r1.sh.r3, r1.sh.r4, r1.sh.r5, r1.sh.r6, w_atN r1.sh.k8, w_atN r1.sh.k9, w_atN r1.sh.k10, w_atN r1.sh.k11, w_atN r1.sh.k12, w_atN r1.sh.k13, w_atN r1.sh.k14, r1.g, r1.h, r1.am, r1.hd, r1.en, r1.fc, r1.sh.k0, r1.nt, r1.ne, r1.nr, r1.nx, r1.day, r1.law, r1.sh.p0, r1.sh.p1, r1.sh.p2, r1.sh.p3, r1.sh.p4, r1.sh.p5, r1.sh.p6, r1.sh.p7, r1.sh.p8, nN_le, nN_lt, nN_eq, nN_add, nN_mul, nN_lt0, nN_ge0, nN_gt0, nN_le0, nN_eq0, nN_eq1, nN_neN, pIn_n, pIx_n, eq_self, Bool.false_eq_true, Nat.add_zero, Nat.zero_add, Nat.reduceAdd, Nat.reduceMul, Nat.reduceSub, Nat.zero_le, Nat.reduceLeDiff, Nat.reduceEqDiff, Nat.le_refl, not_false_eq_true, not_true_eq_false, false_implies, true_implies, forall_const, true_and, and_true, if_true, if_false, implies_true, and_self, ne_eq, false_and, and_false, or_false, false_or, true_or, or_true, sW_eq]
          exact go4 _ _ _ (by simp [sBet, c1', bI, c2])
  · rintro M1 ⟨z1, z2⟩ ⟨A1, hb⟩
    have r1 := hr.ag A1 (fun h k h1 h2 h3 h4 => XC_low (by omega) h3 h4)
    rw [e_236_1]
    simp (disch := omega) only [q_iconst, q_istore4, q_istore5, q_nop, q_iload5, q_aload0, q_aload0N, q_get_r, pTag_1, pRf_s, q_get_i, q_ic_ge, q_invv2, inv_1, q_istore6, q_iload6, q_iload3, q_sipush, q_imul, q_ic_lt, q_iload4, q_ic_eq, q_goto, q_istore7, q_iload7, q_if_eq, q_invs2_21, q_iload1, q_ic_ne, q_iload2, q_iinc5, q_iret, e_236_0, e_236_6, L_0, L_1, L_1024, k_some, k_none, pRm_i, pRm_r, pRm_0, pF_1, pF_2, inv_s, hw.f, r1.sh.k7, r1.nf, r1.sh.r0, r1.sh.r1, r1.sh.r2, r1.sh.r3, r1.sh.r4, r1.sh.r5, r1.sh.r6, w_atN r1.sh.k8, w_atN r1.sh.k9, w_atN r1.sh.k10, w_atN r1.sh.k11, w_atN r1.sh.k12, w_atN r1.sh.k13, w_atN r1.sh.k14, r1.g, r1.h, r1.am, r1.hd, r1.en, r1.fc, r1.sh.k0, r1.nt, r1.ne, r1.nr, r1.nx, r1.day, r1.law, r1.sh.p0, r1.sh.p1, r1.sh.p2, r1.sh.p3, r1.sh.p4, r1.sh.p5, r1.sh.p6, r1.sh.p7, r1.sh.p8, nN_le, nN_lt, nN_eq, nN_add, nN_mul, nN_lt0, nN_ge0, nN_gt0, nN_le0, nN_eq0, nN_eq1, nN_neN, pIn_n, pIx_n, eq_self, Bool.false_eq_true, Nat.add_zero, Nat.zero_add, Nat.reduceAdd, Nat.reduceMul, Nat.reduceSub, Nat.zero_le, Nat.reduceLeDiff, Nat.reduceEqDiff, Nat.le_refl, not_false_eq_true, not_true_eq_false, false_implies, true_implies, forall_const, true_and, and_true, if_true, if_false, implies_true, and_self, ne_eq, false_and, and_false, or_false, false_or, true_or, or_true]
    exact ⟨rfl, A1⟩
theorem w_portBetween (hr : Rep M t a) (hw : Wf a) (hT : TmR M t a) (ht : t + 22 ≤ 101) (hx : x < nP a) (hy : y < nP a) :
    mw (d + 10) 240 [.ref t, .int (nN x), .int (nN y)] M (fun o M' => o = .inl (some (.int (sPort a x y))) ∧ Ag (XC (gS M) (gP M) t) M M') := by
  have hp' := hw.p'
  have hf' := hw.f'
  simp (disch := omega) only [m_240, q_iconst, q_istore3, q_istore4, q_nop, q_iload4, q_aload0, q_aload0N, q_get_r, pTag_1, pRf_s, q_get_i, q_ic_ge, q_invs2_21, q_iload1, q_ic_ne, q_iload2, q_invv2, inv_1, q_if_eq, q_iload3, q_sipush, q_idiv, q_iadd, q_iinc4, q_goto, q_iret, e_240_0, L_0, L_1, L_1024, k_some, k_none, pRm_i, pRm_r, pRm_0, pF_1, pF_2, inv_s]
  refine loopR (n := nF a) (J := Unit) (C := fun k s _ M => ([some (.ref t), some (.int (nN x)), some (.int (nN y)), some (.int s), some (.int (nN k))], [], M)) (f := fun f s => s + if fa a f 2 = nN x ∧ sGoTo a f y = true then sW a f / nN 1024 else nN 0) (R := fun k s M1 => Ag (XC (gS M) (gP M) t) M M1) ?_ (nF a) 0 (nN 0) () M (by omega) Ag.rfl ?_
  · rintro k s _ M1 hk A1 go
    have r1 := hr.ag A1 (fun h k h1 h2 h3 h4 => XC_low (by omega) h3 h4)
    have T1 := hT.ag A1 (by omega)
    have e1 : ¬ nF a ≤ k := by omega
    have go2 : ∀ M2 v, v = (s + if fa a k 2 = nN x ∧ sGoTo a k y = true then sW a k / nN 1024 else nN 0) → Ag (XC (gS M) (gP M) t) M M2 → bw (d + 9) 240 2 ([some (.ref t), some (.int (nN x)), some (.int (nN y)), some (.int v), some (.int (nN k))], [], M2) _ := fun M2 v h2 h1 => by
      rw [e_240_2]
      simp (disch := omega) only [q_iconst, q_istore3, q_istore4, q_nop, q_iload4, q_aload0, q_aload0N, q_get_r, pTag_1, pRf_s, q_get_i, q_ic_ge, q_invs2_21, q_iload1, q_ic_ne, q_iload2, q_invv2, inv_1, q_if_eq, q_iload3, q_sipush, q_idiv, q_iadd, q_iinc4, q_goto, q_iret, e_240_0, L_0, L_1, L_1024, k_some, k_none, pRm_i, pRm_r, pRm_0, pF_1, pF_2, inv_s, nN_add]
      rw [h2]
      exact go M2 () h1
    rw [e_240_1]
    by_cases c1 : fa a k 2 = nN x
    · simp (disch := omega) only [q_iconst, q_istore3, q_istore4, q_nop, q_iload4, q_aload0, q_aload0N, q_get_r, pTag_1, pRf_s, q_get_i, q_ic_ge, q_invs2_21, q_iload1, q_ic_ne, q_iload2, q_invv2, inv_1, q_if_eq, q_iload3, q_sipush, q_idiv, q_iadd, q_iinc4, q_goto, q_iret, e_240_0, L_0, L_1, L_1024, k_some, k_none, pRm_i, pRm_r, pRm_0, pF_1, pF_2, inv_s, hw.f, c1, e1, r1.sh.k7, r1.nf, r1.sh.r0, r1.sh.r1, r1.sh.r2, r1.sh.r3, r1.sh.r4, r1.sh.r5, r1.sh.r6, w_atN r1.sh.k8, w_atN r1.sh.k9, w_atN r1.sh.k10, w_atN r1.sh.k11, w_atN r1.sh.k12, w_atN r1.sh.k13, w_atN r1.sh.k14, r1.g, r1.h, r1.am, r1.hd, r1.en, r1.fc, r1.sh.k0, r1.nt, r1.ne, r1.nr, r1.nx, r1.day, r1.law, r1.sh.p0, r1.sh.p1, r1.sh.p2, r1.sh.p3, r1.sh.p4, r1.sh.p5, r1.sh.p6, r1.sh.p7, r1.sh.p8, nN_le, nN_lt, nN_eq, nN_add, nN_mul, nN_lt0, nN_ge0, nN_gt0, nN_le0, nN_eq0, nN_eq1, nN_neN, pIn_n, pIx_n, eq_self, Bool.false_eq_true, Nat.add_zero, Nat.zero_add, Nat.reduceAdd, Nat.reduceMul, Nat.reduceSub, Nat.zero_le, Nat.reduceLeDiff, Nat.reduceEqDiff, Nat.le_refl, not_false_eq_true, not_true_eq_false, false_implies, true_implies, forall_const, true_and, and_true, if_true, if_false, implies_true, and_self, ne_eq, false_and, and_false, or_false, false_or, true_or, or_true]
      refine mw_mono (w_goTo r1 hw T1 (by omega) hy hk) ?_
      rintro _ M2 ⟨rfl, A2⟩
      rw [A1.S, A1.P] at A2
      have A12 := A1.trans A2
      have r2 := hr.ag A12 (fun h k h1 h2 h3 h4 => XC_low (by omega) h3 h4)
      by_cases c3 : sGoTo a k y = true
      · simp (disch := omega) only [q_iconst, q_istore3, q_istore4, q_nop, q_iload4, q_aload0, q_aload0N, q_get_r, pTag_1, pRf_s, q_get_i, q_ic_ge, q_invs2_21, q_iload1, q_ic_ne, q_iload2, q_invv2, inv_1, q_if_eq, q_iload3, q_sipush, q_idiv, q_iadd, q_iinc4, q_goto, q_iret, e_240_0, L_0, L_1, L_1024, k_some, k_none, pRm_i, pRm_r, pRm_0, pF_1, pF_2, inv_s, c3, bI_eq0, w_worth r2 hw, r2.sh.k7, r2.nf, r2.sh.r0, r2.sh.r1, r2.sh.r2, r2.sh.r3, r2.sh.r4, r2.sh.r5, r2.sh.r6, w_atN r2.sh.k8, w_atN r2.sh.k9, w_atN r2.sh.k10, w_atN r2.sh.k11, w_atN r2.sh.k12, w_atN r2.sh.k13, w_atN r2.sh.k14, r2.g, r2.h, r2.am, r2.hd, r2.en, r2.fc, r2.sh.k0, r2.nt, r2.ne, r2.nr, r2.nx, r2.day, r2.law, r2.sh.p0, r2.sh.p1, r2.sh.p2, r2.sh.p3, r2.sh.p4, r2.sh.p5, r2.sh.p6, r2.sh.p7, r2.sh.p8, nN_le, nN_lt, nN_eq, nN_add, nN_mul, nN_lt0, nN_ge0, nN_gt0, nN_le0, nN_eq0, nN_eq1, nN_neN, pIn_n, pIx_n, eq_self, Bool.false_eq_true, Nat.add_zero, Nat.zero_add, Nat.reduceAdd, Nat.reduceMul, Nat.reduceSub, Nat.zero_le, Nat.reduceLeDiff, Nat.reduceEqDiff, Nat.le_refl, not_false_eq_true, not_true_eq_false, false_implies, true_implies, forall_const, true_and, and_true, if_true, if_false, implies_true, and_self, ne_eq, false_and, and_false, or_false, false_or, true_or, or_true]
        exact go2 M2 _ (by rw [if_pos ⟨c1, c3⟩]; rfl) A12
      · simp (disch := omega) only [q_iconst, q_istore3, q_istore4, q_nop, q_iload4, q_aload0, q_aload0N, q_get_r, pTag_1, pRf_s, q_get_i, q_ic_ge, q_invs2_21, q_iload1, q_ic_ne, q_iload2, q_invv2, inv_1, q_if_eq, q_iload3, q_sipush, q_idiv, q_iadd, q_iinc4, q_goto, q_iret, e_240_0, L_0, L_1, L_1024, k_some, k_none, pRm_i, pRm_r, pRm_0, pF_1, pF_2, inv_s, c3, bI_eq0, nN_le, nN_lt, nN_eq, nN_add, nN_mul, nN_lt0, nN_ge0, nN_gt0, nN_le0, nN_eq0, nN_eq1, nN_neN, pIn_n, pIx_n, eq_self, Bool.false_eq_true, Nat.add_zero, Nat.zero_add, Nat.reduceAdd, Nat.reduceMul, Nat.reduceSub, Nat.zero_le, Nat.reduceLeDiff, Nat.reduceEqDiff, Nat.le_refl, not_false_eq_true, not_true_eq_false, false_implies, true_implies, forall_const, true_and, and_true, if_true, if_false, implies_true, and_self, ne_eq, false_and, and_false, or_false, false_or, true_or, or_true]
        exact go2 M2 _ (by rw [if_neg (fun z => c3 z.2), add_n0]) A12
    · simp (disch := omega) only [q_iconst, q_istore3, q_istore4, q_nop, q_iload4, q_aload0, q_aload0N, q_get_r, pTag_1, pRf_s, q_get_i, q_ic_ge, q_invs2_21, q_iload1, q_ic_ne, q_iload2, q_invv2, inv_1, q_if_eq, q_iload3, q_sipush, q_idiv, q_iadd, q_iinc4, q_goto, q_iret, e_240_0, L_0, L_1, L_1024, k_some, k_none, pRm_i, pRm_r, pRm_0, pF_1, pF_2, inv_s, hw.f, c1, e1, r1.sh.k7, r1.nf, r1.sh.r0, r1.sh.r1, r1.sh.r2, r1.sh.r3, r1.sh.r4, r1.sh.r5, r1.sh.r6, w_atN r1.sh.k8, w_atN r1.sh.k9, w_atN r1.sh.k10, w_atN r1.sh.k11, w_atN r1.sh.k12, w_atN r1.sh.k13, w_atN r1.sh.k14, r1.g, r1.h, r1.am, r1.hd, r1.en, r1.fc, r1.sh.k0, r1.nt, r1.ne, r1.nr, r1.nx, r1.day, r1.law, r1.sh.p0, r1.sh.p1, r1.sh.p2, r1.sh.p3, r1.sh.p4, r1.sh.p5, r1.sh.p6, r1.sh.p7, r1.sh.p8, nN_le, nN_lt, nN_eq, nN_add, nN_mul, nN_lt0, nN_ge0, nN_gt0, nN_le0, nN_eq0, nN_eq1, nN_neN, pIn_n, pIx_n, eq_self, Bool.false_eq_true, Nat.add_zero, Nat.zero_add, Nat.reduceAdd, Nat.reduceMul, Nat.reduceSub, Nat.zero_le, Nat.reduceLeDiff, Nat.reduceEqDiff, Nat.le_refl, not_false_eq_true, not_true_eq_false, false_implies, true_implies, forall_const, true_and, and_true, if_true, if_false, implies_true, and_self, ne_eq, false_and, and_false, or_false, false_or, true_or, or_true]
      exact go2 M1 _ (by rw [if_neg (fun z => c1 z.1), add_n0]) A1
  · rintro M1 _ A1
    have r1 := hr.ag A1 (fun h k h1 h2 h3 h4 => XC_low (by omega) h3 h4)
    rw [e_240_1]
    simp (disch := omega) only [q_iconst, q_istore3, q_istore4, q_nop, q_iload4, q_aload0, q_aload0N, q_get_r, pTag_1, pRf_s, q_get_i, q_ic_ge, q_invs2_21, q_iload1, q_ic_ne, q_iload2, q_invv2, inv_1, q_if_eq, q_iload3, q_sipush, q_idiv, q_iadd, q_iinc4, q_goto, q_iret, e_240_0, e_240_3, L_0, L_1, L_1024, k_some, k_none, pRm_i, pRm_r, pRm_0, pF_1, pF_2, inv_s, hw.f, r1.sh.k7, r1.nf, r1.sh.r0, r1.sh.r1, r1.sh.r2, r1.sh.r3, r1.sh.r4, r1.sh.r5, r1.sh.r6, w_atN r1.sh.k8, w_atN r1.sh.k9, w_atN r1.sh.k10, w_atN r1.sh.k11, w_atN r1.sh.k12, w_atN r1.sh.k13, w_atN r1.sh.k14, r1.g, r1.h, r1.am, r1.hd, r1.en, r1.fc, r1.sh.k0, r1.nt, r1.ne, r1.nr, r1.nx, r1.day, r1.law, r1.sh.p0, r1.sh.p1, r1.sh.p2, r1.sh.p3, r1.sh.p4, r1.sh.p5, r1.sh.p6, r1.sh.p7, r1.sh.p8, nN_le, nN_lt, nN_eq, nN_add, nN_mul, nN_lt0, nN_ge0, nN_gt0, nN_le0, nN_eq0, nN_eq1, nN_neN, pIn_n, pIx_n, eq_self, Bool.false_eq_true, Nat.add_zero, Nat.zero_add, Nat.reduceAdd, Nat.reduceMul, Nat.reduceSub, Nat.zero_le, Nat.reduceLeDiff, Nat.reduceEqDiff, Nat.le_refl, not_false_eq_true, not_true_eq_false, false_implies, true_implies, forall_const, true_and, and_true, if_true, if_false, implies_true, and_self, ne_eq, false_and, and_false, or_false, false_or, true_or, or_true]
    exact ⟨rfl, A1⟩
theorem eN_ok (hw : Wf a) (hk : k < nE a) : (eN a k 0 < nP a ∧ eN a k 1 < nP a ∧ eN a k 0 ≠ eN a k 1 ∧ 1 ≤ eN a k 2 ∧ eN a k 2 ≤ 99) ∧ ea a k 0 = nN (eN a k 0) ∧ ea a k 1 = nN (eN a k 1) ∧ ea a k 2 = nN (eN a k 2) := by
  have hp' := hw.p'
  obtain ⟨x, y, n, h1, h2, h3, h4, h5, h6, h7, h8⟩ := hw.need k hk
  have e0 : eN a k 0 = x := by unfold eN; rw [h6, nN_toInt (by omega)]; omega
  have e1 : eN a k 1 = y := by unfold eN; rw [h7, nN_toInt (by omega)]; omega
  have e2 : eN a k 2 = n := by unfold eN; rw [h8, nN_toInt (by omega)]; omega
  rw [e0, e1, e2]
  exact ⟨⟨h1, h2, h3, h4, h5⟩, h6, h7, h8⟩
theorem w_couldMeet (hr : Rep M t a) (hw : Wf a) (hT : TmR M t a) (hd : DyO a) (ht : t + 22 ≤ 101) (hk : k < nE a) :
    mw (d + 11) 237 [.ref t, .int (nN k)] M (fun o M' => o = .inl (some (.int (bI (sMetK a k = true)))) ∧ Ag (XC (gS M) (gP M) t) M M') := by
  have hp' := hw.p'
  have hn' := hw.n'
  obtain ⟨⟨h1, h2, h3, h4, h5⟩, h6, h7, h8⟩ := eN_ok hw hk
  have g1 := hr.nb k hk
  have g2 := hr.no k hk
  have g3 := hr.nw k hk
  rw [h6] at g1
  rw [h7] at g2
  rw [h8] at g3
  simp (disch := omega) only [m_237, q_aload0, q_aload0N, q_get_r, pTag_1, pRf_s, q_iload1, q_invs2_21, q_istore2, q_istore3, q_istore4, q_iload2, q_iload3, q_iload4, q_invv3, inv_1, q_iconst, q_ic_ne, q_invv5, q_if_eq, q_nop, q_goto, q_zret, e_237_0, L_0, L_1, k_some, k_none, pRm_i, pRm_r, pRm_0, pF_1, pF_2, inv_s, hr.sh.k0, hr.nt, hr.ne, hr.nr, hr.nx, hr.day, hr.law, hr.sh.p0, hr.sh.p1, hr.sh.p2, hr.sh.p3, hr.sh.p4, hr.sh.p5, hr.sh.p6, hr.sh.p7, hr.sh.p8, w_atN hr.sh.k17, w_atN hr.sh.k18, w_atN hr.sh.k19, g1, g2, g3, nN_le, nN_lt, nN_eq, nN_add, nN_mul, nN_lt0, nN_ge0, nN_gt0, nN_le0, nN_eq0, nN_eq1, nN_neN, pIn_n, pIx_n, eq_self, Bool.false_eq_true, Nat.add_zero, Nat.zero_add, Nat.reduceAdd, Nat.reduceMul, Nat.reduceSub, Nat.zero_le, Nat.reduceLeDiff, Nat.reduceEqDiff, Nat.le_refl, not_false_eq_true, not_true_eq_false, false_implies, true_implies, forall_const, true_and, and_true, if_true, if_false, implies_true, and_self, ne_eq, false_and, and_false, or_false, false_or, true_or, or_true]
  refine mw_mono (w_favToPay hr hw hT ht h1 h2 (by omega)) ?_
  rintro _ M1 ⟨rfl, A1⟩
  have r1 := hr.ag A1 (fun h k h1 h2 h3 h4 => XC_low (by omega) h3 h4)
  have T1 := hT.ag A1 (by omega)
  have hf' := hw.f'
  cases c : sPays a (eN a k 0) (eN a k 1) (eN a k 2) with
  | some b =>
    have hb := (sPays_ok c).1
    have e : sMetK a k = true := by simp [sMetK, sMet, c]
    have hb2 : ¬ nN b = iN (-1) := by rw [nN_neN (by omega)]; exact not_false
    simp (disch := omega) only [q_aload0, q_aload0N, q_get_r, pTag_1, pRf_s, q_iload1, q_invs2_21, q_istore2, q_istore3, q_istore4, q_iload2, q_iload3, q_iload4, q_invv3, inv_1, q_iconst, q_ic_ne, q_invv5, q_if_eq, q_nop, q_goto, q_zret, e_237_0, e_237_1, e_237_2, e_237_3, L_0, L_1, k_some, k_none, pRm_i, pRm_r, pRm_0, pF_1, pF_2, inv_s, oI, hb2, e, r1.sh.k0, r1.nt, r1.ne, r1.nr, r1.nx, r1.day, r1.law, r1.sh.p0, r1.sh.p1, r1.sh.p2, r1.sh.p3, r1.sh.p4, r1.sh.p5, r1.sh.p6, r1.sh.p7, r1.sh.p8, nN_le, nN_lt, nN_eq, nN_add, nN_mul, nN_lt0, nN_ge0, nN_gt0, nN_le0, nN_eq0, nN_eq1, nN_neN, pIn_n, pIx_n, eq_self, Bool.false_eq_true, Nat.add_zero, Nat.zero_add, Nat.reduceAdd, Nat.reduceMul, Nat.reduceSub, Nat.zero_le, Nat.reduceLeDiff, Nat.reduceEqDiff, Nat.le_refl, not_false_eq_true, not_true_eq_false, false_implies, true_implies, forall_const, true_and, and_true, if_true, if_false, implies_true, and_self, ne_eq, false_and, and_false, or_false, false_or, true_or, or_true]
    simp [bI, z11, A1]
  | none =>
    simp (disch := omega) only [q_aload0, q_aload0N, q_get_r, pTag_1, pRf_s, q_iload1, q_invs2_21, q_istore2, q_istore3, q_istore4, q_iload2, q_iload3, q_iload4, q_invv3, inv_1, q_iconst, q_ic_ne, q_invv5, q_if_eq, q_nop, q_goto, q_zret, e_237_0, L_0, L_1, k_some, k_none, pRm_i, pRm_r, pRm_0, pF_1, pF_2, inv_s, oI, r1.sh.k0, r1.nt, r1.ne, r1.nr, r1.nx, r1.day, r1.law, r1.sh.p0, r1.sh.p1, r1.sh.p2, r1.sh.p3, r1.sh.p4, r1.sh.p5, r1.sh.p6, r1.sh.p7, r1.sh.p8, nN_le, nN_lt, nN_eq, nN_add, nN_mul, nN_lt0, nN_ge0, nN_gt0, nN_le0, nN_eq0, nN_eq1, nN_neN, pIn_n, pIx_n, eq_self, Bool.false_eq_true, Nat.add_zero, Nat.zero_add, Nat.reduceAdd, Nat.reduceMul, Nat.reduceSub, Nat.zero_le, Nat.reduceLeDiff, Nat.reduceEqDiff, Nat.le_refl, not_false_eq_true, not_true_eq_false, false_implies, true_implies, forall_const, true_and, and_true, if_true, if_false, implies_true, and_self, ne_eq, false_and, and_false, or_false, false_or, true_or, or_true]
    refine mw_mono (w_couldGive (fc := false) (dd := 0) r1 hw T1 hd (by omega) h1 h2 (by omega) (by omega)) ?_
    rintro _ M2 ⟨rfl, A2⟩
    rw [A1.S, A1.P] at A2
    by_cases c2 : sCanGive a (eN a k 0) (eN a k 1) (eN a k 2) 0 false = true
    · have e : sMetK a k = true := by simp [sMetK, sMet, c, c2]
      simp (disch := omega) only [q_aload0, q_aload0N, q_get_r, pTag_1, pRf_s, q_iload1, q_invs2_21, q_istore2, q_istore3, q_istore4, q_iload2, q_iload3, q_iload4, q_invv3, inv_1, q_iconst, q_ic_ne, q_invv5, q_if_eq, q_nop, q_goto, q_zret, e_237_0, e_237_1, e_237_2, e_237_3, L_0, L_1, k_some, k_none, pRm_i, pRm_r, pRm_0, pF_1, pF_2, inv_s, c2, e, bI_eq0, nN_le, nN_lt, nN_eq, nN_add, nN_mul, nN_lt0, nN_ge0, nN_gt0, nN_le0, nN_eq0, nN_eq1, nN_neN, pIn_n, pIx_n, eq_self, Bool.false_eq_true, Nat.add_zero, Nat.zero_add, Nat.reduceAdd, Nat.reduceMul, Nat.reduceSub, Nat.zero_le, Nat.reduceLeDiff, Nat.reduceEqDiff, Nat.le_refl, not_false_eq_true, not_true_eq_false, false_implies, true_implies, forall_const, true_and, and_true, if_true, if_false, implies_true, and_self, ne_eq, false_and, and_false, or_false, false_or, true_or, or_true]
      simp [bI, z11, A1.trans A2]
    · have e : ¬ sMetK a k = true := by simp [sMetK, sMet, c, c2]
      simp (disch := omega) only [q_aload0, q_aload0N, q_get_r, pTag_1, pRf_s, q_iload1, q_invs2_21, q_istore2, q_istore3, q_istore4, q_iload2, q_iload3, q_iload4, q_invv3, inv_1, q_iconst, q_ic_ne, q_invv5, q_if_eq, q_nop, q_goto, q_zret, e_237_0, e_237_1, e_237_2, e_237_3, L_0, L_1, k_some, k_none, pRm_i, pRm_r, pRm_0, pF_1, pF_2, inv_s, c2, e, bI_eq0, nN_le, nN_lt, nN_eq, nN_add, nN_mul, nN_lt0, nN_ge0, nN_gt0, nN_le0, nN_eq0, nN_eq1, nN_neN, pIn_n, pIx_n, eq_self, Bool.false_eq_true, Nat.add_zero, Nat.zero_add, Nat.reduceAdd, Nat.reduceMul, Nat.reduceSub, Nat.zero_le, Nat.reduceLeDiff, Nat.reduceEqDiff, Nat.le_refl, not_false_eq_true, not_true_eq_false, false_implies, true_implies, forall_const, true_and, and_true, if_true, if_false, implies_true, and_self, ne_eq, false_and, and_false, or_false, false_or, true_or, or_true]
      simp [bI, zb_0, A1.trans A2]
theorem w_firstUnmet (hr : Rep M t a) (hw : Wf a) (hT : TmR M t a) (hd : DyO a) (ht : t + 22 ≤ 101) :
    mw (d + 12) 239 [.ref t] M (fun o M' => o = .inl (some (.int (oI (sFirst a)))) ∧ Ag (XC (gS M) (gP M) t) M M') := by
  have hn' := hw.n'
  have key : ∀ (j k : Nat) (M1 : pMem), k + j = nE a → Ag (XC (gS M) (gP M) t) M M1 → bw (d + 11) 239 1 ([some (.ref t), some (.int (nN k))], [], M1) (fun o M' => o = .inl (some (.int (oI (sUnm a j k)))) ∧ Ag (XC (gS M) (gP M) t) M M') := by
    intro j
    induction j with
    | zero =>
      intro k M1 hk A1
      have r1 := hr.ag A1 (fun h k h1 h2 h3 h4 => XC_low (by omega) h3 h4)
      have e : nE a ≤ k := by omega
      rw [e_239_1]
      simp (disch := omega) only [q_iconst, q_istore1, q_nop, q_iload1, q_aload0, q_aload0N, q_get_i, pTag_1, pRf_s, q_ic_ge, q_invv1, inv_1, q_if_ne, q_iret, q_iinc1, q_goto, e_239_0, e_239_2, e_239_3, L_0, L_1, k_some, k_none, pRm_i, pRm_r, pRm_0, pF_1, pF_2, inv_s, r1.sh.k0, r1.nt, r1.ne, r1.nr, r1.nx, r1.day, r1.law, r1.sh.p0, r1.sh.p1, r1.sh.p2, r1.sh.p3, r1.sh.p4, r1.sh.p5, r1.sh.p6, r1.sh.p7, r1.sh.p8, hw.n, e, nN_le, nN_lt, nN_eq, nN_add, nN_mul, nN_lt0, nN_ge0, nN_gt0, nN_le0, nN_eq0, nN_eq1, nN_neN, pIn_n, pIx_n, eq_self, Bool.false_eq_true, Nat.add_zero, Nat.zero_add, Nat.reduceAdd, Nat.reduceMul, Nat.reduceSub, Nat.zero_le, Nat.reduceLeDiff, Nat.reduceEqDiff, Nat.le_refl, not_false_eq_true, not_true_eq_false, false_implies, true_implies, forall_const, true_and, and_true, if_true, if_false, implies_true, and_self, ne_eq, false_and, and_false, or_false, false_or, true_or, or_true]
      exact ⟨rfl, A1⟩
    | succ j ih =>
      intro k M1 hk A1
      have r1 := hr.ag A1 (fun h k h1 h2 h3 h4 => XC_low (by omega) h3 h4)
      have T1 := hT.ag A1 (by omega)
      have e : ¬ nE a ≤ k := by omega
      rw [e_239_1]
      simp (disch := omega) only [q_iconst, q_istore1, q_nop, q_iload1, q_aload0, q_aload0N, q_get_i, pTag_1, pRf_s, q_ic_ge, q_invv1, inv_1, q_if_ne, q_iret, q_iinc1, q_goto, e_239_0, e_239_2, e_239_3, L_0, L_1, k_some, k_none, pRm_i, pRm_r, pRm_0, pF_1, pF_2, inv_s, r1.sh.k0, r1.nt, r1.ne, r1.nr, r1.nx, r1.day, r1.law, r1.sh.p0, r1.sh.p1, r1.sh.p2, r1.sh.p3, r1.sh.p4, r1.sh.p5, r1.sh.p6, r1.sh.p7, r1.sh.p8, hw.n, e, nN_le, nN_lt, nN_eq, nN_add, nN_mul, nN_lt0, nN_ge0, nN_gt0, nN_le0, nN_eq0, nN_eq1, nN_neN, pIn_n, pIx_n, eq_self, Bool.false_eq_true, Nat.add_zero, Nat.zero_add, Nat.reduceAdd, Nat.reduceMul, Nat.reduceSub, Nat.zero_le, Nat.reduceLeDiff, Nat.reduceEqDiff, Nat.le_refl, not_false_eq_true, not_true_eq_false, false_implies, true_implies, forall_const, true_and, and_true, if_true, if_false, implies_true, and_self, ne_eq, false_and, and_false, or_false, false_or, true_or, or_true]
      refine mw_mono (w_couldMeet r1 hw T1 hd ht (by omega)) ?_
      rintro _ M2 ⟨rfl, A2⟩
      rw [A1.S, A1.P] at A2
      have A12 := A1.trans A2
      by_cases c : sMetK a k = true
      · simp (disch := omega) only [q_iconst, q_istore1, q_nop, q_iload1, q_aload0, q_aload0N, q_get_i, pTag_1, pRf_s, q_ic_ge, q_invv1, inv_1, q_if_ne, q_iret, q_iinc1, q_goto, e_239_0, e_239_2, e_239_3, L_0, L_1, k_some, k_none, pRm_i, pRm_r, pRm_0, pF_1, pF_2, inv_s, c, bI_eq0, nN_le, nN_lt, nN_eq, nN_add, nN_mul, nN_lt0, nN_ge0, nN_gt0, nN_le0, nN_eq0, nN_eq1, nN_neN, pIn_n, pIx_n, eq_self, Bool.false_eq_true, Nat.add_zero, Nat.zero_add, Nat.reduceAdd, Nat.reduceMul, Nat.reduceSub, Nat.zero_le, Nat.reduceLeDiff, Nat.reduceEqDiff, Nat.le_refl, not_false_eq_true, not_true_eq_false, false_implies, true_implies, forall_const, true_and, and_true, if_true, if_false, implies_true, and_self, ne_eq, false_and, and_false, or_false, false_or, true_or, or_true]
        rw [show sUnm a (j + 1) k = sUnm a j (k + 1) by simp [sUnm, c]]
        exact ih (k + 1) M2 (by omega) A12
      · simp (disch := omega) only [q_iconst, q_istore1, q_nop, q_iload1, q_aload0, q_aload0N, q_get_i, pTag_1, pRf_s, q_ic_ge, q_invv1, inv_1, q_if_ne, q_iret, q_iinc1, q_goto, e_239_0, e_239_2, e_239_3, L_0, L_1, k_some, k_none, pRm_i, pRm_r, pRm_0, pF_1, pF_2, inv_s, c, bI_eq0, nN_le, nN_lt, nN_eq, nN_add, nN_mul, nN_lt0, nN_ge0, nN_gt0, nN_le0, nN_eq0, nN_eq1, nN_neN, pIn_n, pIx_n, eq_self, Bool.false_eq_true, Nat.add_zero, Nat.zero_add, Nat.reduceAdd, Nat.reduceMul, Nat.reduceSub, Nat.zero_le, Nat.reduceLeDiff, Nat.reduceEqDiff, Nat.le_refl, not_false_eq_true, not_true_eq_false, false_implies, true_implies, forall_const, true_and, and_true, if_true, if_false, implies_true, and_self, ne_eq, false_and, and_false, or_false, false_or, true_or, or_true]
        rw [show sUnm a (j + 1) k = some k by simp [sUnm, c]]
        exact ⟨rfl, A12⟩
  simp (disch := omega) only [m_239, q_iconst, q_istore1, q_nop, q_iload1, q_aload0, q_aload0N, q_get_i, pTag_1, pRf_s, q_ic_ge, q_invv1, inv_1, q_if_ne, q_iret, q_iinc1, q_goto, e_239_0, e_239_2, e_239_3, L_0, L_1, k_some, k_none, pRm_i, pRm_r, pRm_0, pF_1, pF_2, inv_s]
  exact key (nE a) 0 M (by omega) Ag.rfl
theorem sGoTo_ok (h : sGoTo a f y = true) : sMay a f = true ∧ ¬ fa a f 0 = nN y ∧ sTakeF a y f = true := by
  simp only [sGoTo, Bool.and_eq_true, Bool.not_eq_true', decide_eq_false_iff_not] at h
  exact ⟨h.1.1, h.1.2, h.2⟩
theorem w_settle (hr : Rep M t a) (hw : Wf a) (hT : TmR M t a) (hd : DyO a) (ht : t + 22 ≤ 101) (hx : x < nP a) (hy : y < nP a) (hn : 1 ≤ n) (hn2 : n ≤ 99) (hxy : x ≠ y) :
    mw (d + 12) 238 [.ref t, .int (nN x), .int (nN y), .int (nN n)] M (fun o M' => o = .inl (some (.int (sSet a x y n).2)) ∧ Rep M' t (sSet a x y n).1 ∧ Ag (XTw (gS M) (gP M) t) M M') := by
  have hp' := hw.p'
  have hf' := hw.f'
  simp (disch := omega) only [m_238, q_aload0, q_aload0N, q_iload1, q_iload2, q_iload3, q_invv3, inv_1, q_istore4, q_iload4, q_iconst, q_ic_ne, q_invv5, q_iret, q_invv2, q_pop_i, q_pop_r, e_238_0, L_0, k_some, k_none, pRm_i, pRm_r, pRm_0, pF_1, pF_2, inv_s, hr.sh.k0, hr.nt, hr.ne, hr.nr, hr.nx, hr.day, hr.law, hr.sh.p0, hr.sh.p1, hr.sh.p2, hr.sh.p3, hr.sh.p4, hr.sh.p5, hr.sh.p6, hr.sh.p7, hr.sh.p8, nN_le, nN_lt, nN_eq, nN_add, nN_mul, nN_lt0, nN_ge0, nN_gt0, nN_le0, nN_eq0, nN_eq1, nN_neN, pIn_n, pIx_n, eq_self, Bool.false_eq_true, Nat.add_zero, Nat.zero_add, Nat.reduceAdd, Nat.reduceMul, Nat.reduceSub, Nat.zero_le, Nat.reduceLeDiff, Nat.reduceEqDiff, Nat.le_refl, not_false_eq_true, not_true_eq_false, false_implies, true_implies, forall_const, true_and, and_true, if_true, if_false, implies_true, and_self, ne_eq, false_and, and_false, or_false, false_or, true_or, or_true]
  refine mw_mono (w_favToPay hr hw hT ht hx hy (by omega)) ?_
  rintro _ M1 ⟨rfl, A1⟩
  have r1 := hr.ag A1 (fun h k h1 h2 h3 h4 => XC_low (by omega) h3 h4)
  have T1 := hT.ag A1 (by omega)
  cases c : sPays a x y n with
  | some b =>
    obtain ⟨hb, hb3, hb4⟩ := sPays_ok c
    obtain ⟨g1, g2, g3⟩ := sGoTo_ok hb4
    have hb2 : ¬ nN b = iN (-1) := by rw [nN_neN (by omega)]; exact not_false
    have e : sSet a x y n = (sCome a b y, nN b) := by simp [sSet, c]
    rw [e]
    simp (disch := omega) only [q_aload0, q_aload0N, q_iload1, q_iload2, q_iload3, q_invv3, inv_1, q_istore4, q_iload4, q_iconst, q_ic_ne, q_invv5, q_iret, q_invv2, q_pop_i, q_pop_r, e_238_0, e_238_1, L_0, k_some, k_none, pRm_i, pRm_r, pRm_0, pF_1, pF_2, inv_s, oI, hb2, r1.sh.k0, r1.nt, r1.ne, r1.nr, r1.nx, r1.day, r1.law, r1.sh.p0, r1.sh.p1, r1.sh.p2, r1.sh.p3, r1.sh.p4, r1.sh.p5, r1.sh.p6, r1.sh.p7, r1.sh.p8, nN_le, nN_lt, nN_eq, nN_add, nN_mul, nN_lt0, nN_ge0, nN_gt0, nN_le0, nN_eq0, nN_eq1, nN_neN, pIn_n, pIx_n, eq_self, Bool.false_eq_true, Nat.add_zero, Nat.zero_add, Nat.reduceAdd, Nat.reduceMul, Nat.reduceSub, Nat.zero_le, Nat.reduceLeDiff, Nat.reduceEqDiff, Nat.le_refl, not_false_eq_true, not_true_eq_false, false_implies, true_implies, forall_const, true_and, and_true, if_true, if_false, implies_true, and_self, ne_eq, false_and, and_false, or_false, false_or, true_or, or_true]
    refine mw_mono (w_pass r1 hw T1 ht hb hy (by rw [hb3, nN_eq (by omega) (by omega)]; exact hxy)) ?_
    rintro o M2 h
    have ec : sCanP a b y = true := by simp [sCanP, g1, g3]
    rw [if_pos ec] at h
    obtain ⟨rfl, R2, A2⟩ := h
    rw [A1.S, A1.P] at A2
    have ep : sPassA a b y = sCome a b y := if_neg g2
    rw [ep] at R2
    simp (disch := omega) only [q_aload0, q_aload0N, q_iload1, q_iload2, q_iload3, q_invv3, inv_1, q_istore4, q_iload4, q_iconst, q_ic_ne, q_invv5, q_iret, q_invv2, q_pop_i, q_pop_r, e_238_0, e_238_1, L_0, k_some, k_none, pRm_i, pRm_r, pRm_0, pF_1, pF_2, inv_s, nN_le, nN_lt, nN_eq, nN_add, nN_mul, nN_lt0, nN_ge0, nN_gt0, nN_le0, nN_eq0, nN_eq1, nN_neN, pIn_n, pIx_n, eq_self, Bool.false_eq_true, Nat.add_zero, Nat.zero_add, Nat.reduceAdd, Nat.reduceMul, Nat.reduceSub, Nat.zero_le, Nat.reduceLeDiff, Nat.reduceEqDiff, Nat.le_refl, not_false_eq_true, not_true_eq_false, false_implies, true_implies, forall_const, true_and, and_true, if_true, if_false, implies_true, and_self, ne_eq, false_and, and_false, or_false, false_or, true_or, or_true]
    exact ⟨R2, (A1.mono XC_XTw).trans A2⟩
  | none =>
    simp (disch := omega) only [q_aload0, q_aload0N, q_iload1, q_iload2, q_iload3, q_invv3, inv_1, q_istore4, q_iload4, q_iconst, q_ic_ne, q_invv5, q_iret, q_invv2, q_pop_i, q_pop_r, e_238_0, L_0, k_some, k_none, pRm_i, pRm_r, pRm_0, pF_1, pF_2, inv_s, oI, r1.sh.k0, r1.nt, r1.ne, r1.nr, r1.nx, r1.day, r1.law, r1.sh.p0, r1.sh.p1, r1.sh.p2, r1.sh.p3, r1.sh.p4, r1.sh.p5, r1.sh.p6, r1.sh.p7, r1.sh.p8, nN_le, nN_lt, nN_eq, nN_add, nN_mul, nN_lt0, nN_ge0, nN_gt0, nN_le0, nN_eq0, nN_eq1, nN_neN, pIn_n, pIx_n, eq_self, Bool.false_eq_true, Nat.add_zero, Nat.zero_add, Nat.reduceAdd, Nat.reduceMul, Nat.reduceSub, Nat.zero_le, Nat.reduceLeDiff, Nat.reduceEqDiff, Nat.le_refl, not_false_eq_true, not_true_eq_false, false_implies, true_implies, forall_const, true_and, and_true, if_true, if_false, implies_true, and_self, ne_eq, false_and, and_false, or_false, false_or, true_or, or_true]
    have w := w_give (d := d + 2) (fc := false) (dd := 0) r1 hw T1 hd ht hx hy hn hn2 (by omega) hxy
    have e0 : bI (false = true) = nN 0 := by simp [bI]
    rw [e0] at w
    refine mw_mono w ?_
    rintro o M2 h
    by_cases c2 : sCanGive a x y n 0 false = true
    · rw [if_pos c2] at h
      obtain ⟨rfl, R2, A2⟩ := h
      rw [A1.S, A1.P] at A2
      have e : sSet a x y n = (gTail a x y n 0 false, nN (nF a)) := by simp [sSet, c, c2]
      rw [e]
      simp (disch := omega) only [q_aload0, q_aload0N, q_iload1, q_iload2, q_iload3, q_invv3, inv_1, q_istore4, q_iload4, q_iconst, q_ic_ne, q_invv5, q_iret, q_invv2, q_pop_i, q_pop_r, e_238_0, L_0, k_some, k_none, pRm_i, pRm_r, pRm_0, pF_1, pF_2, inv_s, nN_le, nN_lt, nN_eq, nN_add, nN_mul, nN_lt0, nN_ge0, nN_gt0, nN_le0, nN_eq0, nN_eq1, nN_neN, pIn_n, pIx_n, eq_self, Bool.false_eq_true, Nat.add_zero, Nat.zero_add, Nat.reduceAdd, Nat.reduceMul, Nat.reduceSub, Nat.zero_le, Nat.reduceLeDiff, Nat.reduceEqDiff, Nat.le_refl, not_false_eq_true, not_true_eq_false, false_implies, true_implies, forall_const, true_and, and_true, if_true, if_false, implies_true, and_self, ne_eq, false_and, and_false, or_false, false_or, true_or, or_true]
      exact ⟨R2, (A1.mono XC_XTw).trans A2⟩
    · rw [if_neg c2] at h
      obtain ⟨rfl, R2, A2⟩ := h
      rw [A1.S, A1.P] at A2
      have e : sSet a x y n = (a, iN (-1)) := by simp [sSet, c, c2]
      rw [e]
      simp (disch := omega) only [q_aload0, q_aload0N, q_iload1, q_iload2, q_iload3, q_invv3, inv_1, q_istore4, q_iload4, q_iconst, q_ic_ne, q_invv5, q_iret, q_invv2, q_pop_i, q_pop_r, e_238_0, L_0, k_some, k_none, pRm_i, pRm_r, pRm_0, pF_1, pF_2, inv_s, nN_le, nN_lt, nN_eq, nN_add, nN_mul, nN_lt0, nN_ge0, nN_gt0, nN_le0, nN_eq0, nN_eq1, nN_neN, pIn_n, pIx_n, eq_self, Bool.false_eq_true, Nat.add_zero, Nat.zero_add, Nat.reduceAdd, Nat.reduceMul, Nat.reduceSub, Nat.zero_le, Nat.reduceLeDiff, Nat.reduceEqDiff, Nat.le_refl, not_false_eq_true, not_true_eq_false, false_implies, true_implies, forall_const, true_and, and_true, if_true, if_false, implies_true, and_self, ne_eq, false_and, and_false, or_false, false_or, true_or, or_true]
      exact ⟨R2, (A1.mono XC_XTw).trans A2⟩
end PY
