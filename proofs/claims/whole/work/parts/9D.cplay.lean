/-! play: richest, the class's answer -/
def sRstF (a : Nat → Int32) (k : Nat) (s : Option Nat) : Option Nat := match s with
  | none => some k
  | some r => if sRich a (nN k) ≤ sRich a (nN r) then some r else some k
def sRst (a : Nat → Int32) : Option Nat := lp (nP a) 0 none (sRstF a)
noncomputable def sPlayV (a : Nat → Int32) (sd : Int32) (n w : Nat) : Int32 := if w = 0 then (sPlay a sd n).2.2.1 else if w = 1 then (sPlay a sd n).2.2.2.1 else if w = 2 then (sPlay a sd n).2.2.2.2 else if w = 3 then sLeft (sPlay a sd n).1 else if w = 4 then sAll (sPlay a sd n).1 else oI (sRst (sPlay a sd n).1)
section CPL
variable {d t u n p q f g m e K k dd : Nat} {n' : Nat} {b b' : Nat → Nat} {a a0 a' ak : Nat → Int32} {img fc : Bool} {fl : Int32} {M M0 M1 M' : pMem} {Q : pOut → pMem → Prop} {x y z v : Int32} {X Y w : Nat} {s : Option Nat}
theorem sRst_lt : ∀ j k s, (∀ r, s = some r → r < k) → ∀ r, lp j k s (sRstF a) = some r → r < k + j := by
  intro j
  induction j with
  | zero => intro k s h r h2; exact h r h2
  | succ j ih =>
    intro k s h r h2
    have := ih (k + 1) (sRstF a k s) (fun r hr => by
      unfold sRstF at hr
      split at hr
      · injection hr with hr; omega
      · rename_i s r0
        split at hr
        · injection hr with hr; have := h r0 rfl; omega
        · injection hr with hr; omega) r h2
    omega
theorem w_richest (hr : Rep M t a) (hw : Wf a) : mw (d + 3) 164 [.ref (t + 1)] M Q = Q (.inl (some (.int (oI (sRst a))))) M := by
  have hp' := hw.p'
  have m1 : (nN 0 : Int32) = nN 0 := rfl
  have key : ∀ (j k : Nat) (s : Option Nat), k + j = nP a → (∀ r, s = some r → r < k) → bw (d + 2) 164 1 ([some (.ref (t + 1)), some (.int (oI s)), some (.int (nN k))], [], M) Q = Q (.inl (some (.int (oI (lp j k s (sRstF a)))))) M := by
    intro j
    induction j with
    | zero =>
      intro k s hk hs
      have e : nP a ≤ k := by omega
      rw [e_164_1]
      simp (disch := omega) only [q_iconst, q_istore1, q_istore2, q_nop, q_iload2, q_aload0, q_aload0N, q_get_i, pTag_1, pRf_s, q_ic_ge, q_iload1, q_ic_eq, q_get_r, q_invs2_21, q_ic_le, q_iinc2, q_goto, q_iret, e_164_0, e_164_2, e_164_3, e_164_4, L_0, L_1, k_some, k_none, pRm_i, pRm_r, pRm_0, pF_1, pF_2, inv_s, hr.sh.k1, hr.np, hr.sh.q0, hr.sh.q1, hr.sh.q2, hr.sh.q3, hr.sh.q4, w_atN hr.sh.k2, w_atN hr.sh.k3, w_atN hr.sh.k4, w_atN hr.sh.k5, w_atN hr.sh.k6, hr.lim, hr.tmp, hr.near, hr.rich, hr.debt, hw.p, e, nN_le, nN_lt, nN_eq, nN_add, nN_mul, nN_lt0, nN_ge0, nN_gt0, nN_le0, nN_eq0, nN_eq1, nN_neN, pIn_n, pIx_n, eq_self, Nat.reduceLT, Bool.false_eq_true, Nat.add_zero, Nat.zero_add, Nat.reduceAdd, Nat.reduceMul, Nat.reduceSub, Nat.zero_le, Nat.reduceLeDiff, Nat.reduceEqDiff, Nat.le_refl, not_false_eq_true, not_true_eq_false, false_implies, true_implies, forall_const, true_and, and_true, if_true, if_false, implies_true, and_self, ne_eq, false_and, and_false, or_false, false_or, true_or, or_true]
      rfl
    | succ j ih =>
      intro k s hk hs
      have e : ¬ nP a ≤ k := by omega
      have r1 := hr.rich k (by omega)
      have go := ih (k + 1) (sRstF a k s) (by omega) (fun r hr => by
        unfold sRstF at hr
        split at hr
        · injection hr with hr; omega
        · rename_i s r0
          split at hr
          · injection hr with hr; have := hs r0 rfl; omega
          · injection hr with hr; omega)
      rw [show lp (j + 1) k s (sRstF a) = lp j (k + 1) (sRstF a k s) (sRstF a) from rfl, ← go, e_164_1]
      cases s with
      | none =>
        simp (disch := omega) only [q_iconst, q_istore1, q_istore2, q_nop, q_iload2, q_aload0, q_aload0N, q_get_i, pTag_1, pRf_s, q_ic_ge, q_iload1, q_ic_eq, q_get_r, q_invs2_21, q_ic_le, q_iinc2, q_goto, q_iret, e_164_0, e_164_2, e_164_3, e_164_4, L_0, L_1, k_some, k_none, pRm_i, pRm_r, pRm_0, pF_1, pF_2, inv_s, oI, hr.sh.k1, hr.np, hr.sh.q0, hr.sh.q1, hr.sh.q2, hr.sh.q3, hr.sh.q4, w_atN hr.sh.k2, w_atN hr.sh.k3, w_atN hr.sh.k4, w_atN hr.sh.k5, w_atN hr.sh.k6, hr.lim, hr.tmp, hr.near, hr.rich, hr.debt, hw.p, e, nN_le, nN_lt, nN_eq, nN_add, nN_mul, nN_lt0, nN_ge0, nN_gt0, nN_le0, nN_eq0, nN_eq1, nN_neN, pIn_n, pIx_n, eq_self, Nat.reduceLT, Bool.false_eq_true, Nat.add_zero, Nat.zero_add, Nat.reduceAdd, Nat.reduceMul, Nat.reduceSub, Nat.zero_le, Nat.reduceLeDiff, Nat.reduceEqDiff, Nat.le_refl, not_false_eq_true, not_true_eq_false, false_implies, true_implies, forall_const, true_and, and_true, if_true, if_false, implies_true, and_self, ne_eq, false_and, and_false, or_false, false_or, true_or, or_true]
        rfl
      | some r =>
        have hr9 := hs r rfl
        have r2 := hr.rich r (by omega)
        have e9 : ¬ nN r = iN (-1) := by rw [nN_neN (by omega)]; exact not_false
        by_cases c : sRich a (nN k) ≤ sRich a (nN r)
        · have e8 : sRstF a k (some r) = some r := if_pos c
          rw [e8]
          simp (disch := omega) only [q_iconst, q_istore1, q_istore2, q_nop, q_iload2, q_aload0, q_aload0N, q_get_i, pTag_1, pRf_s, q_ic_ge, q_iload1, q_ic_eq, q_get_r, q_invs2_21, q_ic_le, q_iinc2, q_goto, q_iret, e_164_0, e_164_2, e_164_3, e_164_4, L_0, L_1, k_some, k_none, pRm_i, pRm_r, pRm_0, pF_1, pF_2, inv_s, oI, hr.sh.k1, hr.np, hr.sh.q0, hr.sh.q1, hr.sh.q2, hr.sh.q3, hr.sh.q4, w_atN hr.sh.k2, w_atN hr.sh.k3, w_atN hr.sh.k4, w_atN hr.sh.k5, w_atN hr.sh.k6, hr.lim, hr.tmp, hr.near, hr.rich, hr.debt, hw.p, e, e9, r1, r2, c, nN_le, nN_lt, nN_eq, nN_add, nN_mul, nN_lt0, nN_ge0, nN_gt0, nN_le0, nN_eq0, nN_eq1, nN_neN, pIn_n, pIx_n, eq_self, Nat.reduceLT, Bool.false_eq_true, Nat.add_zero, Nat.zero_add, Nat.reduceAdd, Nat.reduceMul, Nat.reduceSub, Nat.zero_le, Nat.reduceLeDiff, Nat.reduceEqDiff, Nat.le_refl, not_false_eq_true, not_true_eq_false, false_implies, true_implies, forall_const, true_and, and_true, if_true, if_false, implies_true, and_self, ne_eq, false_and, and_false, or_false, false_or, true_or, or_true]
          done
        · have e8 : sRstF a k (some r) = some k := if_neg c
          rw [e8]
          simp (disch := omega) only [q_iconst, q_istore1, q_istore2, q_nop, q_iload2, q_aload0, q_aload0N, q_get_i, pTag_1, pRf_s, q_ic_ge, q_iload1, q_ic_eq, q_get_r, q_invs2_21, q_ic_le, q_iinc2, q_goto, q_iret, e_164_0, e_164_2, e_164_3, e_164_4, L_0, L_1, k_some, k_none, pRm_i, pRm_r, pRm_0, pF_1, pF_2, inv_s, oI, hr.sh.k1, hr.np, hr.sh.q0, hr.sh.q1, hr.sh.q2, hr.sh.q3, hr.sh.q4, w_atN hr.sh.k2, w_atN hr.sh.k3, w_atN hr.sh.k4, w_atN hr.sh.k5, w_atN hr.sh.k6, hr.lim, hr.tmp, hr.near, hr.rich, hr.debt, hw.p, e, e9, r1, r2, c, nN_le, nN_lt, nN_eq, nN_add, nN_mul, nN_lt0, nN_ge0, nN_gt0, nN_le0, nN_eq0, nN_eq1, nN_neN, pIn_n, pIx_n, eq_self, Nat.reduceLT, Bool.false_eq_true, Nat.add_zero, Nat.zero_add, Nat.reduceAdd, Nat.reduceMul, Nat.reduceSub, Nat.zero_le, Nat.reduceLeDiff, Nat.reduceEqDiff, Nat.le_refl, not_false_eq_true, not_true_eq_false, false_implies, true_implies, forall_const, true_and, and_true, if_true, if_false, implies_true, and_self, ne_eq, false_and, and_false, or_false, false_or, true_or, or_true]
          done
  have := key (nP a) 0 none (by omega) (by simp)
  simp (disch := omega) only [m_164, q_iconst, q_istore1, q_istore2, q_nop, q_iload2, q_aload0, q_aload0N, q_get_i, pTag_1, pRf_s, q_ic_ge, q_iload1, q_ic_eq, q_get_r, q_invs2_21, q_ic_le, q_iinc2, q_goto, q_iret, e_164_0, e_164_2, e_164_3, e_164_4, L_0, L_1, k_some, k_none, pRm_i, pRm_r, pRm_0, pF_1, pF_2, inv_s, nN_le, nN_lt, nN_eq, nN_add, nN_mul, nN_lt0, nN_ge0, nN_gt0, nN_le0, nN_eq0, nN_eq1, nN_neN, pIn_n, pIx_n, eq_self, Nat.reduceLT, Bool.false_eq_true, Nat.add_zero, Nat.zero_add, Nat.reduceAdd, Nat.reduceMul, Nat.reduceSub, Nat.zero_le, Nat.reduceLeDiff, Nat.reduceEqDiff, Nat.le_refl, not_false_eq_true, not_true_eq_false, false_implies, true_implies, forall_const, true_and, and_true, if_true, if_false, implies_true, and_self, ne_eq, false_and, and_false, or_false, false_or, true_or, or_true]
  exact this
theorem KF.pl (h : ShF (gS M) (gP M)) (A : Ag (XPl (gS M) (gP M)) M M') : KF M M' := by
  refine ⟨⟨A.S, A.J, A.N, A.L⟩, fun h k _ => by rw [A.P], fun j k z => ?_, fun q cs h => h.agA (A.mono ?_)⟩
  · refine A.I ?_
    rintro ((e | ⟨q, e1, e2⟩) | e)
    · omega
    · by_cases c : j = 900000
      · subst c; exact TSh_900 h e1 e2
      · obtain ⟨e3, -⟩ := e1
        rcases e2 with e | ⟨e, -⟩ <;> omega
    · omega
  · rintro h k (z | z)
    · exact XTw_XA (t := 47) (by omega) h k z
    · exact Or.inl (by omega)
theorem c_play (c : CI M a ak img n b fl) (hwt : Wt a K) (hK : K + 6000 < 2000000) (hg : g ≤ 60) (hw6 : w < 6) : mw (d + 15) 33 [.ref 0, .int x, .int (nN g), .int (nN w)] M (fun o M' => o = .inl (some (.int (sPlayV a x g w))) ∧ Yc M a M') := by
  have hw := hwt.1
  obtain ⟨t, ht⟩ : ∃ t : Nat, t = 3 := ⟨3, rfl⟩
  have hr : Rep M t a := by rw [ht]; exact c.rep
  have hT : TmR M t a := by rw [ht]; exact c.tm
  have p1 : gP M 0 1 = some t := by rw [ht]; exact c.sh.p1
  have k0 := c.sh.k0
  have hp9 := hw.p'
  have hf9 := hw.f'
  obtain ⟨s, hs⟩ : ∃ s : Nat, s = 47 := ⟨47, rfl⟩
  have p3 : gP M 0 3 = some s := by rw [hs]; exact c.sh.p3
  have p8 := c.sh.p8
  have hS : (gS M s).1 = 9 := by rw [hs]; rw [c.sh.t47.k0]
  have i1 : ¬ g < 0 := by omega
  have i2 : w ≤ 5 := by omega
  simp (disch := omega) only [m_33, q_iload2, q_if_lt, q_bipush, q_ic_le, q_nop, q_thr, q_iload3, q_iconst, q_aload0, q_aload0N, q_get_r, pTag_1, pRf_s, q_invv1, inv_1, q_iload1, q_invv3, q_table, q_get_i, q_iret, q_invv0, e_33_0, e_33_1, e_33_2, e_33_3, e_33_4, L_5, L_60, k_some, k_none, pRm_i, pRm_r, pRm_0, pF_1, pF_2, inv_s, k0, p1, p3, p8, hS, hg, i2, nN_le, nN_lt, nN_eq, nN_add, nN_mul, nN_lt0, nN_ge0, nN_gt0, nN_le0, nN_eq0, nN_eq1, nN_neN, pIn_n, pIx_n, eq_self, Nat.reduceLT, Bool.false_eq_true, Nat.add_zero, Nat.zero_add, Nat.reduceAdd, Nat.reduceMul, Nat.reduceSub, Nat.zero_le, Nat.reduceLeDiff, Nat.reduceEqDiff, Nat.le_refl, not_false_eq_true, not_true_eq_false, false_implies, true_implies, forall_const, true_and, and_true, if_true, if_false, implies_true, and_self, ne_eq, false_and, and_false, or_false, false_or, true_or, or_true]
  refine mw_mono (w_spare (d := d + 6) c hw hs ht) ?_
  rintro _ M1 ⟨rfl, Y1, R1, T1, -⟩
  subst hs
  have c1 := c.sh.kf Y1.1
  have k1 := c1.k0
  have p31 := c1.p3
  have p81 := c1.p8
  have h85 := c1.k85
  have hS1 : (gS M1 47).1 = 9 := by rw [c1.t47.k0]
  have hS5 : (gS M1 85).1 = 3 := by rw [h85]
  simp (disch := omega) only [q_iload2, q_if_lt, q_bipush, q_ic_le, q_nop, q_thr, q_iload3, q_iconst, q_aload0, q_aload0N, q_get_r, pTag_1, pRf_s, q_invv1, inv_1, q_iload1, q_invv3, q_table, q_get_i, q_iret, q_invv0, e_33_0, e_33_1, e_33_2, e_33_3, e_33_4, L_5, L_60, k_some, k_none, pRm_i, pRm_r, pRm_0, pF_1, pF_2, inv_s, k1, p31, p81, hS1, hS5, nN_le, nN_lt, nN_eq, nN_add, nN_mul, nN_lt0, nN_ge0, nN_gt0, nN_le0, nN_eq0, nN_eq1, nN_neN, pIn_n, pIx_n, eq_self, Nat.reduceLT, Bool.false_eq_true, Nat.add_zero, Nat.zero_add, Nat.reduceAdd, Nat.reduceMul, Nat.reduceSub, Nat.zero_le, Nat.reduceLeDiff, Nat.reduceEqDiff, Nat.le_refl, not_false_eq_true, not_true_eq_false, false_implies, true_implies, forall_const, true_and, and_true, if_true, if_false, implies_true, and_self, ne_eq, false_and, and_false, or_false, false_or, true_or, or_true]
  refine mw_mono (w_run (d := d) (n := g) h85 T1 R1 hwt hg hK) ?_
  rintro _ M2 ⟨rfl, PK, R2, e2, C2, A2⟩
  have n3 : ∀ h k, 3 ≤ h → h < 25 → ¬ XPl (gS M1) (gP M1) h k := by
    rintro h k h1 h2 ((z | ⟨q, ⟨z, -⟩, z2 | ⟨z2, -⟩⟩) | z) <;> omega
  have KF2 := KF.pl c1 A2
  have Y2 : Yc M a M2 := ⟨Y1.1.trans KF2, Y1.2.1.ag A2 (fun h k h1 h2 _ => n3 h k h1 (by omega)), KF2.tm Y1.2.2 (by omega)⟩
  have c2 := c1.kf KF2
  have k2 := c2.k0
  have p32 := c2.p3
  have p82 := c2.p8
  have h85 := c2.k85
  have hw2 := PK.1.1
  have ev : sPlayV a x g w = if w = 0 then (sPlay a x g).2.2.1 else if w = 1 then (sPlay a x g).2.2.2.1 else if w = 2 then (sPlay a x g).2.2.2.2 else if w = 3 then sLeft (sPlay a x g).1 else if w = 4 then sAll (sPlay a x g).1 else oI (sRst (sPlay a x g).1) := rfl
  rw [ev]
  clear ev PK
  obtain ⟨C21, C22, C23⟩ := C2
  generalize sPlay a x g = s2 at *
  have : w = 0 ∨ w = 1 ∨ w = 2 ∨ w = 3 ∨ w = 4 ∨ w = 5 := by omega
  rcases this with rfl | rfl | rfl | rfl | rfl | rfl
  · simp (disch := omega) only [q_iload2, q_if_lt, q_bipush, q_ic_le, q_nop, q_thr, q_iload3, q_iconst, q_aload0, q_aload0N, q_get_r, pTag_1, pRf_s, q_invv1, inv_1, q_iload1, q_invv3, q_table, q_get_i, q_iret, q_invv0, e_33_0, e_33_1, e_33_2, e_33_3, e_33_4, L_5, L_60, k_some, k_none, pRm_i, pRm_r, pRm_0, pF_1, pF_2, inv_s, nN_toInt, swt]
    refine (show bw (d + 14) 33 5 _ _ from ?_)
    rw [e_33_5]
    simp (disch := omega) only [q_iload2, q_if_lt, q_bipush, q_ic_le, q_nop, q_thr, q_iload3, q_iconst, q_aload0, q_aload0N, q_get_r, pTag_1, pRf_s, q_invv1, inv_1, q_iload1, q_invv3, q_table, q_get_i, q_iret, q_invv0, e_33_0, e_33_1, e_33_2, e_33_3, e_33_4, L_5, L_60, k_some, k_none, pRm_i, pRm_r, pRm_0, pF_1, pF_2, inv_s, k2, p32, p82, h85, C21, C22, C23, R2.sh.k7, R2.nf, R2.sh.r0, R2.sh.r1, R2.sh.r2, R2.sh.r3, R2.sh.r4, R2.sh.r5, R2.sh.r6, w_atN R2.sh.k8, w_atN R2.sh.k9, w_atN R2.sh.k10, w_atN R2.sh.k11, w_atN R2.sh.k12, w_atN R2.sh.k13, w_atN R2.sh.k14, R2.g, R2.h, R2.am, R2.hd, R2.en, R2.fc, R2.sh.k0, R2.nt, R2.ne, R2.nr, R2.nx, R2.day, R2.law, R2.sh.p0, R2.sh.p1, R2.sh.p2, R2.sh.p3, R2.sh.p4, R2.sh.p5, R2.sh.p6, R2.sh.p7, R2.sh.p8, R2.sh.k1, R2.np, R2.sh.q0, R2.sh.q1, R2.sh.q2, R2.sh.q3, R2.sh.q4, w_atN R2.sh.k2, w_atN R2.sh.k3, w_atN R2.sh.k4, w_atN R2.sh.k5, w_atN R2.sh.k6, R2.lim, R2.tmp, R2.near, R2.rich, R2.debt, w_countLeft R2 hw2, w_richTogether R2 hw2, w_richest R2 hw2, nN_le, nN_lt, nN_eq, nN_add, nN_mul, nN_lt0, nN_ge0, nN_gt0, nN_le0, nN_eq0, nN_eq1, nN_neN, pIn_n, pIx_n, eq_self, Nat.reduceLT, Bool.false_eq_true, Nat.add_zero, Nat.zero_add, Nat.reduceAdd, Nat.reduceMul, Nat.reduceSub, Nat.zero_le, Nat.reduceLeDiff, Nat.reduceEqDiff, Nat.le_refl, not_false_eq_true, not_true_eq_false, false_implies, true_implies, forall_const, true_and, and_true, if_true, if_false, implies_true, and_self, ne_eq, false_and, and_false, or_false, false_or, true_or, or_true]
    exact Y2
  · simp (disch := omega) only [q_iload2, q_if_lt, q_bipush, q_ic_le, q_nop, q_thr, q_iload3, q_iconst, q_aload0, q_aload0N, q_get_r, pTag_1, pRf_s, q_invv1, inv_1, q_iload1, q_invv3, q_table, q_get_i, q_iret, q_invv0, e_33_0, e_33_1, e_33_2, e_33_3, e_33_4, L_5, L_60, k_some, k_none, pRm_i, pRm_r, pRm_0, pF_1, pF_2, inv_s, nN_toInt, swt]
    refine (show bw (d + 14) 33 6 _ _ from ?_)
    rw [e_33_6]
    simp (disch := omega) only [q_iload2, q_if_lt, q_bipush, q_ic_le, q_nop, q_thr, q_iload3, q_iconst, q_aload0, q_aload0N, q_get_r, pTag_1, pRf_s, q_invv1, inv_1, q_iload1, q_invv3, q_table, q_get_i, q_iret, q_invv0, e_33_0, e_33_1, e_33_2, e_33_3, e_33_4, L_5, L_60, k_some, k_none, pRm_i, pRm_r, pRm_0, pF_1, pF_2, inv_s, k2, p32, p82, h85, C21, C22, C23, R2.sh.k7, R2.nf, R2.sh.r0, R2.sh.r1, R2.sh.r2, R2.sh.r3, R2.sh.r4, R2.sh.r5, R2.sh.r6, w_atN R2.sh.k8, w_atN R2.sh.k9, w_atN R2.sh.k10, w_atN R2.sh.k11, w_atN R2.sh.k12, w_atN R2.sh.k13, w_atN R2.sh.k14, R2.g, R2.h, R2.am, R2.hd, R2.en, R2.fc, R2.sh.k0, R2.nt, R2.ne, R2.nr, R2.nx, R2.day, R2.law, R2.sh.p0, R2.sh.p1, R2.sh.p2, R2.sh.p3, R2.sh.p4, R2.sh.p5, R2.sh.p6, R2.sh.p7, R2.sh.p8, R2.sh.k1, R2.np, R2.sh.q0, R2.sh.q1, R2.sh.q2, R2.sh.q3, R2.sh.q4, w_atN R2.sh.k2, w_atN R2.sh.k3, w_atN R2.sh.k4, w_atN R2.sh.k5, w_atN R2.sh.k6, R2.lim, R2.tmp, R2.near, R2.rich, R2.debt, w_countLeft R2 hw2, w_richTogether R2 hw2, w_richest R2 hw2, nN_le, nN_lt, nN_eq, nN_add, nN_mul, nN_lt0, nN_ge0, nN_gt0, nN_le0, nN_eq0, nN_eq1, nN_neN, pIn_n, pIx_n, eq_self, Nat.reduceLT, Bool.false_eq_true, Nat.add_zero, Nat.zero_add, Nat.reduceAdd, Nat.reduceMul, Nat.reduceSub, Nat.zero_le, Nat.reduceLeDiff, Nat.reduceEqDiff, Nat.le_refl, not_false_eq_true, not_true_eq_false, false_implies, true_implies, forall_const, true_and, and_true, if_true, if_false, implies_true, and_self, ne_eq, false_and, and_false, or_false, false_or, true_or, or_true]
    exact Y2
  · simp (disch := omega) only [q_iload2, q_if_lt, q_bipush, q_ic_le, q_nop, q_thr, q_iload3, q_iconst, q_aload0, q_aload0N, q_get_r, pTag_1, pRf_s, q_invv1, inv_1, q_iload1, q_invv3, q_table, q_get_i, q_iret, q_invv0, e_33_0, e_33_1, e_33_2, e_33_3, e_33_4, L_5, L_60, k_some, k_none, pRm_i, pRm_r, pRm_0, pF_1, pF_2, inv_s, nN_toInt, swt]
    refine (show bw (d + 14) 33 7 _ _ from ?_)
    rw [e_33_7]
    simp (disch := omega) only [q_iload2, q_if_lt, q_bipush, q_ic_le, q_nop, q_thr, q_iload3, q_iconst, q_aload0, q_aload0N, q_get_r, pTag_1, pRf_s, q_invv1, inv_1, q_iload1, q_invv3, q_table, q_get_i, q_iret, q_invv0, e_33_0, e_33_1, e_33_2, e_33_3, e_33_4, L_5, L_60, k_some, k_none, pRm_i, pRm_r, pRm_0, pF_1, pF_2, inv_s, k2, p32, p82, h85, C21, C22, C23, R2.sh.k7, R2.nf, R2.sh.r0, R2.sh.r1, R2.sh.r2, R2.sh.r3, R2.sh.r4, R2.sh.r5, R2.sh.r6, w_atN R2.sh.k8, w_atN R2.sh.k9, w_atN R2.sh.k10, w_atN R2.sh.k11, w_atN R2.sh.k12, w_atN R2.sh.k13, w_atN R2.sh.k14, R2.g, R2.h, R2.am, R2.hd, R2.en, R2.fc, R2.sh.k0, R2.nt, R2.ne, R2.nr, R2.nx, R2.day, R2.law, R2.sh.p0, R2.sh.p1, R2.sh.p2, R2.sh.p3, R2.sh.p4, R2.sh.p5, R2.sh.p6, R2.sh.p7, R2.sh.p8, R2.sh.k1, R2.np, R2.sh.q0, R2.sh.q1, R2.sh.q2, R2.sh.q3, R2.sh.q4, w_atN R2.sh.k2, w_atN R2.sh.k3, w_atN R2.sh.k4, w_atN R2.sh.k5, w_atN R2.sh.k6, R2.lim, R2.tmp, R2.near, R2.rich, R2.debt, w_countLeft R2 hw2, w_richTogether R2 hw2, w_richest R2 hw2, nN_le, nN_lt, nN_eq, nN_add, nN_mul, nN_lt0, nN_ge0, nN_gt0, nN_le0, nN_eq0, nN_eq1, nN_neN, pIn_n, pIx_n, eq_self, Nat.reduceLT, Bool.false_eq_true, Nat.add_zero, Nat.zero_add, Nat.reduceAdd, Nat.reduceMul, Nat.reduceSub, Nat.zero_le, Nat.reduceLeDiff, Nat.reduceEqDiff, Nat.le_refl, not_false_eq_true, not_true_eq_false, false_implies, true_implies, forall_const, true_and, and_true, if_true, if_false, implies_true, and_self, ne_eq, false_and, and_false, or_false, false_or, true_or, or_true]
    exact Y2
  · simp (disch := omega) only [q_iload2, q_if_lt, q_bipush, q_ic_le, q_nop, q_thr, q_iload3, q_iconst, q_aload0, q_aload0N, q_get_r, pTag_1, pRf_s, q_invv1, inv_1, q_iload1, q_invv3, q_table, q_get_i, q_iret, q_invv0, e_33_0, e_33_1, e_33_2, e_33_3, e_33_4, L_5, L_60, k_some, k_none, pRm_i, pRm_r, pRm_0, pF_1, pF_2, inv_s, nN_toInt, swt]
    refine (show bw (d + 14) 33 8 _ _ from ?_)
    rw [e_33_8]
    simp (disch := omega) only [q_iload2, q_if_lt, q_bipush, q_ic_le, q_nop, q_thr, q_iload3, q_iconst, q_aload0, q_aload0N, q_get_r, pTag_1, pRf_s, q_invv1, inv_1, q_iload1, q_invv3, q_table, q_get_i, q_iret, q_invv0, e_33_0, e_33_1, e_33_2, e_33_3, e_33_4, L_5, L_60, k_some, k_none, pRm_i, pRm_r, pRm_0, pF_1, pF_2, inv_s, k2, p32, p82, h85, C21, C22, C23, R2.sh.k7, R2.nf, R2.sh.r0, R2.sh.r1, R2.sh.r2, R2.sh.r3, R2.sh.r4, R2.sh.r5, R2.sh.r6, w_atN R2.sh.k8, w_atN R2.sh.k9, w_atN R2.sh.k10, w_atN R2.sh.k11, w_atN R2.sh.k12, w_atN R2.sh.k13, w_atN R2.sh.k14, R2.g, R2.h, R2.am, R2.hd, R2.en, R2.fc, R2.sh.k0, R2.nt, R2.ne, R2.nr, R2.nx, R2.day, R2.law, R2.sh.p0, R2.sh.p1, R2.sh.p2, R2.sh.p3, R2.sh.p4, R2.sh.p5, R2.sh.p6, R2.sh.p7, R2.sh.p8, R2.sh.k1, R2.np, R2.sh.q0, R2.sh.q1, R2.sh.q2, R2.sh.q3, R2.sh.q4, w_atN R2.sh.k2, w_atN R2.sh.k3, w_atN R2.sh.k4, w_atN R2.sh.k5, w_atN R2.sh.k6, R2.lim, R2.tmp, R2.near, R2.rich, R2.debt, w_countLeft R2 hw2, w_richTogether R2 hw2, w_richest R2 hw2, nN_le, nN_lt, nN_eq, nN_add, nN_mul, nN_lt0, nN_ge0, nN_gt0, nN_le0, nN_eq0, nN_eq1, nN_neN, pIn_n, pIx_n, eq_self, Nat.reduceLT, Bool.false_eq_true, Nat.add_zero, Nat.zero_add, Nat.reduceAdd, Nat.reduceMul, Nat.reduceSub, Nat.zero_le, Nat.reduceLeDiff, Nat.reduceEqDiff, Nat.le_refl, not_false_eq_true, not_true_eq_false, false_implies, true_implies, forall_const, true_and, and_true, if_true, if_false, implies_true, and_self, ne_eq, false_and, and_false, or_false, false_or, true_or, or_true]
    exact Y2
  · simp (disch := omega) only [q_iload2, q_if_lt, q_bipush, q_ic_le, q_nop, q_thr, q_iload3, q_iconst, q_aload0, q_aload0N, q_get_r, pTag_1, pRf_s, q_invv1, inv_1, q_iload1, q_invv3, q_table, q_get_i, q_iret, q_invv0, e_33_0, e_33_1, e_33_2, e_33_3, e_33_4, L_5, L_60, k_some, k_none, pRm_i, pRm_r, pRm_0, pF_1, pF_2, inv_s, nN_toInt, swt]
    refine (show bw (d + 14) 33 9 _ _ from ?_)
    rw [e_33_9]
    simp (disch := omega) only [q_iload2, q_if_lt, q_bipush, q_ic_le, q_nop, q_thr, q_iload3, q_iconst, q_aload0, q_aload0N, q_get_r, pTag_1, pRf_s, q_invv1, inv_1, q_iload1, q_invv3, q_table, q_get_i, q_iret, q_invv0, e_33_0, e_33_1, e_33_2, e_33_3, e_33_4, L_5, L_60, k_some, k_none, pRm_i, pRm_r, pRm_0, pF_1, pF_2, inv_s, k2, p32, p82, h85, C21, C22, C23, R2.sh.k7, R2.nf, R2.sh.r0, R2.sh.r1, R2.sh.r2, R2.sh.r3, R2.sh.r4, R2.sh.r5, R2.sh.r6, w_atN R2.sh.k8, w_atN R2.sh.k9, w_atN R2.sh.k10, w_atN R2.sh.k11, w_atN R2.sh.k12, w_atN R2.sh.k13, w_atN R2.sh.k14, R2.g, R2.h, R2.am, R2.hd, R2.en, R2.fc, R2.sh.k0, R2.nt, R2.ne, R2.nr, R2.nx, R2.day, R2.law, R2.sh.p0, R2.sh.p1, R2.sh.p2, R2.sh.p3, R2.sh.p4, R2.sh.p5, R2.sh.p6, R2.sh.p7, R2.sh.p8, R2.sh.k1, R2.np, R2.sh.q0, R2.sh.q1, R2.sh.q2, R2.sh.q3, R2.sh.q4, w_atN R2.sh.k2, w_atN R2.sh.k3, w_atN R2.sh.k4, w_atN R2.sh.k5, w_atN R2.sh.k6, R2.lim, R2.tmp, R2.near, R2.rich, R2.debt, w_countLeft R2 hw2, w_richTogether R2 hw2, w_richest R2 hw2, nN_le, nN_lt, nN_eq, nN_add, nN_mul, nN_lt0, nN_ge0, nN_gt0, nN_le0, nN_eq0, nN_eq1, nN_neN, pIn_n, pIx_n, eq_self, Nat.reduceLT, Bool.false_eq_true, Nat.add_zero, Nat.zero_add, Nat.reduceAdd, Nat.reduceMul, Nat.reduceSub, Nat.zero_le, Nat.reduceLeDiff, Nat.reduceEqDiff, Nat.le_refl, not_false_eq_true, not_true_eq_false, false_implies, true_implies, forall_const, true_and, and_true, if_true, if_false, implies_true, and_self, ne_eq, false_and, and_false, or_false, false_or, true_or, or_true]
    exact Y2
  · simp (disch := omega) only [q_iload2, q_if_lt, q_bipush, q_ic_le, q_nop, q_thr, q_iload3, q_iconst, q_aload0, q_aload0N, q_get_r, pTag_1, pRf_s, q_invv1, inv_1, q_iload1, q_invv3, q_table, q_get_i, q_iret, q_invv0, e_33_0, e_33_1, e_33_2, e_33_3, e_33_4, L_5, L_60, k_some, k_none, pRm_i, pRm_r, pRm_0, pF_1, pF_2, inv_s, nN_toInt, swt]
    refine (show bw (d + 14) 33 10 _ _ from ?_)
    rw [e_33_10]
    simp (disch := omega) only [q_iload2, q_if_lt, q_bipush, q_ic_le, q_nop, q_thr, q_iload3, q_iconst, q_aload0, q_aload0N, q_get_r, pTag_1, pRf_s, q_invv1, inv_1, q_iload1, q_invv3, q_table, q_get_i, q_iret, q_invv0, e_33_0, e_33_1, e_33_2, e_33_3, e_33_4, L_5, L_60, k_some, k_none, pRm_i, pRm_r, pRm_0, pF_1, pF_2, inv_s, k2, p32, p82, h85, C21, C22, C23, R2.sh.k7, R2.nf, R2.sh.r0, R2.sh.r1, R2.sh.r2, R2.sh.r3, R2.sh.r4, R2.sh.r5, R2.sh.r6, w_atN R2.sh.k8, w_atN R2.sh.k9, w_atN R2.sh.k10, w_atN R2.sh.k11, w_atN R2.sh.k12, w_atN R2.sh.k13, w_atN R2.sh.k14, R2.g, R2.h, R2.am, R2.hd, R2.en, R2.fc, R2.sh.k0, R2.nt, R2.ne, R2.nr, R2.nx, R2.day, R2.law, R2.sh.p0, R2.sh.p1, R2.sh.p2, R2.sh.p3, R2.sh.p4, R2.sh.p5, R2.sh.p6, R2.sh.p7, R2.sh.p8, R2.sh.k1, R2.np, R2.sh.q0, R2.sh.q1, R2.sh.q2, R2.sh.q3, R2.sh.q4, w_atN R2.sh.k2, w_atN R2.sh.k3, w_atN R2.sh.k4, w_atN R2.sh.k5, w_atN R2.sh.k6, R2.lim, R2.tmp, R2.near, R2.rich, R2.debt, w_countLeft R2 hw2, w_richTogether R2 hw2, w_richest R2 hw2, nN_le, nN_lt, nN_eq, nN_add, nN_mul, nN_lt0, nN_ge0, nN_gt0, nN_le0, nN_eq0, nN_eq1, nN_neN, pIn_n, pIx_n, eq_self, Nat.reduceLT, Bool.false_eq_true, Nat.add_zero, Nat.zero_add, Nat.reduceAdd, Nat.reduceMul, Nat.reduceSub, Nat.zero_le, Nat.reduceLeDiff, Nat.reduceEqDiff, Nat.le_refl, not_false_eq_true, not_true_eq_false, false_implies, true_implies, forall_const, true_and, and_true, if_true, if_false, implies_true, and_self, ne_eq, false_and, and_false, or_false, false_or, true_or, or_true]
    exact Y2
theorem c_play_n1 (hg : ¬ Ix 61 y) : mw (d + 6) 33 [.ref 0, .int x, .int y, .int z] M Q = Q (.inr 0) (nx M) := by
  rw [← Ix_lt (by omega)] at hg
  by_cases h1 : y < 0
  · simp (disch := omega) only [m_33, q_iload2, q_if_lt, q_bipush, q_ic_le, q_nop, q_thr, q_iload3, q_iconst, q_aload0, q_aload0N, q_get_r, pTag_1, pRf_s, q_invv1, inv_1, q_iload1, q_invv3, q_table, q_get_i, q_iret, q_invv0, e_33_0, e_33_1, e_33_2, e_33_3, L_5, L_60, k_some, k_none, pRm_i, pRm_r, pRm_0, pF_1, pF_2, inv_s, h1, nN_le, nN_lt, nN_eq, nN_add, nN_mul, nN_lt0, nN_ge0, nN_gt0, nN_le0, nN_eq0, nN_eq1, nN_neN, pIn_n, pIx_n, eq_self, Nat.reduceLT, Bool.false_eq_true, Nat.add_zero, Nat.zero_add, Nat.reduceAdd, Nat.reduceMul, Nat.reduceSub, Nat.zero_le, Nat.reduceLeDiff, Nat.reduceEqDiff, Nat.le_refl, not_false_eq_true, not_true_eq_false, false_implies, true_implies, forall_const, true_and, and_true, if_true, if_false, implies_true, and_self, ne_eq, false_and, and_false, or_false, false_or, true_or, or_true]
  · have h2 : ¬ y ≤ nN 60 := fun z => hg ⟨Int32.not_lt.mp h1, by
      obtain ⟨w, hw, rfl⟩ := iN_ex y
      have := (iN_le hw (sm_n (a := 60) (by omega))).mp z
      exact (iN_lt hw (sm_n (a := 61) (by omega))).mpr (by omega)⟩
    simp (disch := omega) only [m_33, q_iload2, q_if_lt, q_bipush, q_ic_le, q_nop, q_thr, q_iload3, q_iconst, q_aload0, q_aload0N, q_get_r, pTag_1, pRf_s, q_invv1, inv_1, q_iload1, q_invv3, q_table, q_get_i, q_iret, q_invv0, e_33_0, e_33_1, e_33_2, e_33_3, L_5, L_60, k_some, k_none, pRm_i, pRm_r, pRm_0, pF_1, pF_2, inv_s, h1, h2, nN_le, nN_lt, nN_eq, nN_add, nN_mul, nN_lt0, nN_ge0, nN_gt0, nN_le0, nN_eq0, nN_eq1, nN_neN, pIn_n, pIx_n, eq_self, Nat.reduceLT, Bool.false_eq_true, Nat.add_zero, Nat.zero_add, Nat.reduceAdd, Nat.reduceMul, Nat.reduceSub, Nat.zero_le, Nat.reduceLeDiff, Nat.reduceEqDiff, Nat.le_refl, not_false_eq_true, not_true_eq_false, false_implies, true_implies, forall_const, true_and, and_true, if_true, if_false, implies_true, and_self, ne_eq, false_and, and_false, or_false, false_or, true_or, or_true]
theorem c_play_n2 (hg : g ≤ 60) (hy : ¬ Ix 6 z) : mw (d + 6) 33 [.ref 0, .int x, .int (nN g), .int z] M Q = Q (.inr 3) (nx M) := by
  rw [← Ix_lt (by omega)] at hy
  have i1 : ¬ g < 0 := by omega
  by_cases h1 : z < 0
  · simp (disch := omega) only [m_33, q_iload2, q_if_lt, q_bipush, q_ic_le, q_nop, q_thr, q_iload3, q_iconst, q_aload0, q_aload0N, q_get_r, pTag_1, pRf_s, q_invv1, inv_1, q_iload1, q_invv3, q_table, q_get_i, q_iret, q_invv0, e_33_0, e_33_1, e_33_2, e_33_3, L_5, L_60, k_some, k_none, pRm_i, pRm_r, pRm_0, pF_1, pF_2, inv_s, hg, h1, nN_le, nN_lt, nN_eq, nN_add, nN_mul, nN_lt0, nN_ge0, nN_gt0, nN_le0, nN_eq0, nN_eq1, nN_neN, pIn_n, pIx_n, eq_self, Nat.reduceLT, Bool.false_eq_true, Nat.add_zero, Nat.zero_add, Nat.reduceAdd, Nat.reduceMul, Nat.reduceSub, Nat.zero_le, Nat.reduceLeDiff, Nat.reduceEqDiff, Nat.le_refl, not_false_eq_true, not_true_eq_false, false_implies, true_implies, forall_const, true_and, and_true, if_true, if_false, implies_true, and_self, ne_eq, false_and, and_false, or_false, false_or, true_or, or_true]
  · have h2 : ¬ z ≤ nN 5 := fun e => hy ⟨Int32.not_lt.mp h1, by
      obtain ⟨w, hw, rfl⟩ := iN_ex z
      have := (iN_le hw (sm_n (a := 5) (by omega))).mp e
      exact (iN_lt hw (sm_n (a := 6) (by omega))).mpr (by omega)⟩
    simp (disch := omega) only [m_33, q_iload2, q_if_lt, q_bipush, q_ic_le, q_nop, q_thr, q_iload3, q_iconst, q_aload0, q_aload0N, q_get_r, pTag_1, pRf_s, q_invv1, inv_1, q_iload1, q_invv3, q_table, q_get_i, q_iret, q_invv0, e_33_0, e_33_1, e_33_2, e_33_3, L_5, L_60, k_some, k_none, pRm_i, pRm_r, pRm_0, pF_1, pF_2, inv_s, hg, h1, h2, nN_le, nN_lt, nN_eq, nN_add, nN_mul, nN_lt0, nN_ge0, nN_gt0, nN_le0, nN_eq0, nN_eq1, nN_neN, pIn_n, pIx_n, eq_self, Nat.reduceLT, Bool.false_eq_true, Nat.add_zero, Nat.zero_add, Nat.reduceAdd, Nat.reduceMul, Nat.reduceSub, Nat.zero_le, Nat.reduceLeDiff, Nat.reduceEqDiff, Nat.le_refl, not_false_eq_true, not_true_eq_false, false_implies, true_implies, forall_const, true_and, and_true, if_true, if_false, implies_true, and_self, ne_eq, false_and, and_false, or_false, false_or, true_or, or_true]
end CPL
