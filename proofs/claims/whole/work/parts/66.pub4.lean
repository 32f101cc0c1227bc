/-! what if a set forgave; the image -/
def CF (M M' : pMem) : Prop := (gS M' = gS M ∧ gJ M' = gJ M ∧ gN M' = gN M ∧ gL M' = gL M) ∧ (∀ h k, (86 ≤ h ∧ h ≤ 100) ∨ h = 900000 → gI M' h k = gI M h k) ∧ (∀ h k, 86 ≤ h → gP M' h k = gP M h k)
theorem KF.cf {M M' : pMem} (A : KF M M') : CF M M' := ⟨A.1, fun h k z => A.2.2.1 h k (by omega), fun h k z => A.2.1 h k (by omega)⟩
theorem CF.rfl {M : pMem} : CF M M := KF.rfl.cf
section PX9
variable {d n : Nat} {a a' ak : Nat → Int32} {img : Bool} {b : Nat → Nat} {fl : Int32} {M M1 M2 M' : pMem} {Q : pOut → pMem → Prop} {x y z : Int32} {p q f g k t s : Nat}
/-- the spare town, after it became the live one and a set forgave -/
theorem w_spare (c : CI M a ak img n b fl) (hw : Wf a) (hs : s = 47) (ht : t = 3) : mw (d + 8) 216 [.ref s, .ref t] M (fun o M' => o = .inl none ∧ Yc M a M' ∧ Rep M' s a ∧ TmR M' s a ∧ QO M' s) := by
  subst hs
  subst ht
  refine mw_mono (w_become (by omega) c.sh.t3 c.sh.t47 c.qo) ?_
  rintro _ M1 ⟨rfl, B1, P1⟩
  refine ⟨rfl, ⟨KF.bk B1, rep_other B1 c.rep hw (by omega), (KF.bk B1).tm c.tm (by omega)⟩, rep_become c.rep hw c.sh.t47 B1, TmR.become c.tm hw B1 (by omega) P1, ?_⟩
  intro k hk q hq
  rw [P1 k hk] at hq
  rw [B1.1.1]
  exact c.qo k hk q hq
theorem w_spareLet (h : Rep M s a) (hw : Wf a) (hT : TmR M s a) (h3 : Rep M 3 a') (hT3 : TmR M 3 a') (hF : ShF (gS M) (gP M)) (hs : s = 47) : mw (d + 8) 235 [.ref s, .int x] M (fun o M' => o = .inl (some (.int (sLets a x).2)) ∧ Yc M a' M' ∧ Rep M' s (sLets a x).1 ∧ TmR M' s (sLets a x).1) := by
  subst hs
  refine mw_mono (w_letGo h hw) ?_
  rintro _ M1 ⟨rfl, R1, A1⟩
  have G := (sLets_ok (set := x) hw).2
  have n3 : ∀ h k, 3 ≤ h → h < 25 → ¬ XTw (gS M) (gP M) 47 h k := by
    rintro h k h1 h2 (z | ⟨q, ⟨z, -⟩, z2 | ⟨z2, -⟩⟩) <;> omega
  refine ⟨rfl, ⟨KF.of hF A1 (by omega), h3.ag A1 (fun h k h1 h2 _ => n3 h k h1 (by omega)), hT3.agA (A1.mono (XTw_XA (by omega)))⟩, R1, (hT.agA (A1.mono (XTw_XA (by omega)))).tab (lo_nT G.1) (fun k _ => txt_hi G.2)⟩
theorem w_spareUn (h : Rep M s a) (hw : Wf a) (hT : TmR M s a) (hd : DyO a) (h3 : Rep M 3 a') (hT3 : TmR M 3 a') (hF : ShF (gS M) (gP M)) (hs : s = 47) : mw (d + 14) 239 [.ref s] M (fun o M' => o = .inl (some (.int (oI (sFirst a)))) ∧ Yc M a' M' ∧ Rep M' s a ∧ TmR M' s a) := by
  subst hs
  refine mw_mono (w_firstUnmet h hw hT hd (by omega)) ?_
  rintro _ M1 ⟨rfl, A1⟩
  have n3 : ∀ h k, 3 ≤ h → h < 25 → ¬ XC (gS M) (gP M) 47 h k := fun h k h1 h2 => XC_low (by omega) (by omega)
  have A2 := A1.mono XC_XTw
  refine ⟨rfl, ⟨KF.of hF A2 (by omega), h3.ag A1 (fun h k h1 h2 _ => n3 h k h1 (by omega)), hT3.agA (A2.mono (XTw_XA (by omega)))⟩, h.ag A1 (fun h k h1 h2 h3 h4 => XC_low (by omega) h3 h4), hT.agA (A2.mono (XTw_XA (by omega)))⟩
theorem Yc.trans (h : Yc M a M1) (h2 : Yc M1 a' M2) : Yc M a' M2 := ⟨h.1.trans h2.1, h2.2.1, h2.2.2⟩
theorem c_witness (c : CI M a ak img n b fl) (hw : Wf a) (hd : DyO a) : mw (d + 15) 21 [.ref 0, .int x] M (fun o M' => o = .inl (some (.int (oI (sFirst (sLets a x).1)))) ∧ Yc M a M') := by
  obtain ⟨t, ht⟩ : ∃ t : Nat, t = 3 := ⟨3, rfl⟩
  have hr : Rep M t a := by rw [ht]; exact c.rep
  have hT : TmR M t a := by rw [ht]; exact c.tm
  have p1 : gP M 0 1 = some t := by rw [ht]; exact c.sh.p1
  have k0 := c.sh.k0
  have hp9 := hw.p'
  have hf9 := hw.f'
  obtain ⟨s, hs⟩ : ∃ s : Nat, s = 47 := ⟨47, rfl⟩
  have p3 : gP M 0 3 = some s := by rw [hs]; exact c.sh.p3
  have hS : (gS M s).1 = 9 := by rw [hs]; rw [c.sh.t47.k0]
  simp (disch := omega) only [m_21, q_aload0, q_aload0N, q_get_r, pTag_1, pRf_s, q_invv1, inv_1, q_iload1, q_pop_i, q_pop_r, q_invv0, q_iret, e_21_0, k_some, k_none, pRm_i, pRm_r, pRm_0, pF_1, pF_2, inv_s, k0, p1, p3, hS, nN_le, nN_lt, nN_eq, nN_add, nN_mul, nN_lt0, nN_ge0, nN_gt0, nN_le0, nN_eq0, nN_eq1, nN_neN, pIn_n, pIx_n, eq_self, Nat.reduceLT, Bool.false_eq_true, Nat.add_zero, Nat.zero_add, Nat.reduceAdd, Nat.reduceMul, Nat.reduceSub, Nat.zero_le, Nat.reduceLeDiff, Nat.reduceEqDiff, Nat.le_refl, not_false_eq_true, not_true_eq_false, false_implies, true_implies, forall_const, true_and, and_true, if_true, if_false, implies_true, and_self, ne_eq, false_and, and_false, or_false, false_or, true_or, or_true]
  refine mw_mono (w_spare (d := d + 6) c hw hs ht) ?_
  rintro _ M1 ⟨rfl, Y1, R1, T1, -⟩
  have c1 := c.sh.kf Y1.1
  have k1 := c1.k0
  have p1' : gP M1 0 3 = some s := by rw [hs]; exact c1.p3
  have hS1 : (gS M1 s).1 = 9 := by rw [hs]; rw [c1.t47.k0]
  simp (disch := omega) only [q_aload0, q_aload0N, q_get_r, pTag_1, pRf_s, q_invv1, inv_1, q_iload1, q_pop_i, q_pop_r, q_invv0, q_iret, e_21_0, k_some, k_none, pRm_i, pRm_r, pRm_0, pF_1, pF_2, inv_s, k1, p1', hS1, nN_le, nN_lt, nN_eq, nN_add, nN_mul, nN_lt0, nN_ge0, nN_gt0, nN_le0, nN_eq0, nN_eq1, nN_neN, pIn_n, pIx_n, eq_self, Nat.reduceLT, Bool.false_eq_true, Nat.add_zero, Nat.zero_add, Nat.reduceAdd, Nat.reduceMul, Nat.reduceSub, Nat.zero_le, Nat.reduceLeDiff, Nat.reduceEqDiff, Nat.le_refl, not_false_eq_true, not_true_eq_false, false_implies, true_implies, forall_const, true_and, and_true, if_true, if_false, implies_true, and_self, ne_eq, false_and, and_false, or_false, false_or, true_or, or_true]
  refine mw_mono (w_spareLet (d := d + 6) R1 hw T1 Y1.2.1 Y1.2.2 c1 hs) ?_
  rintro _ M2 ⟨rfl, Y2, R2, T2⟩
  have c2 := c1.kf Y2.1
  have k2 := c2.k0
  have p2' : gP M2 0 3 = some s := by rw [hs]; exact c2.p3
  have hS2 : (gS M2 s).1 = 9 := by rw [hs]; rw [c2.t47.k0]
  obtain ⟨w2, G2⟩ := sLets_ok (set := x) hw
  simp (disch := omega) only [q_aload0, q_aload0N, q_get_r, pTag_1, pRf_s, q_invv1, inv_1, q_iload1, q_pop_i, q_pop_r, q_invv0, q_iret, e_21_0, k_some, k_none, pRm_i, pRm_r, pRm_0, pF_1, pF_2, inv_s, k2, p2', hS2, nN_le, nN_lt, nN_eq, nN_add, nN_mul, nN_lt0, nN_ge0, nN_gt0, nN_le0, nN_eq0, nN_eq1, nN_neN, pIn_n, pIx_n, eq_self, Nat.reduceLT, Bool.false_eq_true, Nat.add_zero, Nat.zero_add, Nat.reduceAdd, Nat.reduceMul, Nat.reduceSub, Nat.zero_le, Nat.reduceLeDiff, Nat.reduceEqDiff, Nat.le_refl, not_false_eq_true, not_true_eq_false, false_implies, true_implies, forall_const, true_and, and_true, if_true, if_false, implies_true, and_self, ne_eq, false_and, and_false, or_false, false_or, true_or, or_true]
  refine mw_mono (w_spareUn (d := d) R2 w2 T2 (G2.dy hd) Y2.2.1 Y2.2.2 c2 hs) ?_
  rintro _ M3 ⟨rfl, Y3, -, -⟩
  simp (disch := omega) only [q_aload0, q_aload0N, q_get_r, pTag_1, pRf_s, q_invv1, inv_1, q_iload1, q_pop_i, q_pop_r, q_invv0, q_iret, e_21_0, k_some, k_none, pRm_i, pRm_r, pRm_0, pF_1, pF_2, inv_s, eq_self, Nat.reduceLT, Bool.false_eq_true, Nat.add_zero, Nat.zero_add, Nat.reduceAdd, Nat.reduceMul, Nat.reduceSub, Nat.zero_le, Nat.reduceLeDiff, Nat.reduceEqDiff, Nat.le_refl, not_false_eq_true, not_true_eq_false, false_implies, true_implies, forall_const, true_and, and_true, if_true, if_false, implies_true, and_self, ne_eq, false_and, and_false, or_false, false_or, true_or, or_true]
  exact (Y1.trans Y2).trans Y3
theorem c_enough (c : CI M a ak img n b fl) (hw : Wf a) (hd : DyO a) : mw (d + 15) 20 [.ref 0, .int x] M (fun o M' => o = .inl (some (.int (bI (sFirst (sLets a x).1 = none)))) ∧ Yc M a M') := by
  obtain ⟨t, ht⟩ : ∃ t : Nat, t = 3 := ⟨3, rfl⟩
  have hr : Rep M t a := by rw [ht]; exact c.rep
  have hT : TmR M t a := by rw [ht]; exact c.tm
  have p1 : gP M 0 1 = some t := by rw [ht]; exact c.sh.p1
  have k0 := c.sh.k0
  have hp9 := hw.p'
  have hf9 := hw.f'
  obtain ⟨s, hs⟩ : ∃ s : Nat, s = 47 := ⟨47, rfl⟩
  have p3 : gP M 0 3 = some s := by rw [hs]; exact c.sh.p3
  have hS : (gS M s).1 = 9 := by rw [hs]; rw [c.sh.t47.k0]
  simp (disch := omega) only [m_20, q_aload0, q_aload0N, q_get_r, pTag_1, pRf_s, q_invv1, inv_1, q_iload1, q_pop_i, q_pop_r, q_invv0, q_iconst, q_ic_ne, q_goto, q_nop, q_zret, e_20_0, L_0, L_1, k_some, k_none, pRm_i, pRm_r, pRm_0, pF_1, pF_2, inv_s, k0, p1, p3, hS, nN_le, nN_lt, nN_eq, nN_add, nN_mul, nN_lt0, nN_ge0, nN_gt0, nN_le0, nN_eq0, nN_eq1, nN_neN, pIn_n, pIx_n, eq_self, Nat.reduceLT, Bool.false_eq_true, Nat.add_zero, Nat.zero_add, Nat.reduceAdd, Nat.reduceMul, Nat.reduceSub, Nat.zero_le, Nat.reduceLeDiff, Nat.reduceEqDiff, Nat.le_refl, not_false_eq_true, not_true_eq_false, false_implies, true_implies, forall_const, true_and, and_true, if_true, if_false, implies_true, and_self, ne_eq, false_and, and_false, or_false, false_or, true_or, or_true]
  refine mw_mono (w_spare (d := d + 6) c hw hs ht) ?_
  rintro _ M1 ⟨rfl, Y1, R1, T1, -⟩
  have c1 := c.sh.kf Y1.1
  have k1 := c1.k0
  have p1' : gP M1 0 3 = some s := by rw [hs]; exact c1.p3
  have hS1 : (gS M1 s).1 = 9 := by rw [hs]; rw [c1.t47.k0]
  simp (disch := omega) only [q_aload0, q_aload0N, q_get_r, pTag_1, pRf_s, q_invv1, inv_1, q_iload1, q_pop_i, q_pop_r, q_invv0, q_iconst, q_ic_ne, q_goto, q_nop, q_zret, e_20_0, L_0, L_1, k_some, k_none, pRm_i, pRm_r, pRm_0, pF_1, pF_2, inv_s, k1, p1', hS1, nN_le, nN_lt, nN_eq, nN_add, nN_mul, nN_lt0, nN_ge0, nN_gt0, nN_le0, nN_eq0, nN_eq1, nN_neN, pIn_n, pIx_n, eq_self, Nat.reduceLT, Bool.false_eq_true, Nat.add_zero, Nat.zero_add, Nat.reduceAdd, Nat.reduceMul, Nat.reduceSub, Nat.zero_le, Nat.reduceLeDiff, Nat.reduceEqDiff, Nat.le_refl, not_false_eq_true, not_true_eq_false, false_implies, true_implies, forall_const, true_and, and_true, if_true, if_false, implies_true, and_self, ne_eq, false_and, and_false, or_false, false_or, true_or, or_true]
  refine mw_mono (w_spareLet (d := d + 6) R1 hw T1 Y1.2.1 Y1.2.2 c1 hs) ?_
  rintro _ M2 ⟨rfl, Y2, R2, T2⟩
  have c2 := c1.kf Y2.1
  have k2 := c2.k0
  have p2' : gP M2 0 3 = some s := by rw [hs]; exact c2.p3
  have hS2 : (gS M2 s).1 = 9 := by rw [hs]; rw [c2.t47.k0]
  obtain ⟨w2, G2⟩ := sLets_ok (set := x) hw
  simp (disch := omega) only [q_aload0, q_aload0N, q_get_r, pTag_1, pRf_s, q_invv1, inv_1, q_iload1, q_pop_i, q_pop_r, q_invv0, q_iconst, q_ic_ne, q_goto, q_nop, q_zret, e_20_0, L_0, L_1, k_some, k_none, pRm_i, pRm_r, pRm_0, pF_1, pF_2, inv_s, k2, p2', hS2, nN_le, nN_lt, nN_eq, nN_add, nN_mul, nN_lt0, nN_ge0, nN_gt0, nN_le0, nN_eq0, nN_eq1, nN_neN, pIn_n, pIx_n, eq_self, Nat.reduceLT, Bool.false_eq_true, Nat.add_zero, Nat.zero_add, Nat.reduceAdd, Nat.reduceMul, Nat.reduceSub, Nat.zero_le, Nat.reduceLeDiff, Nat.reduceEqDiff, Nat.le_refl, not_false_eq_true, not_true_eq_false, false_implies, true_implies, forall_const, true_and, and_true, if_true, if_false, implies_true, and_self, ne_eq, false_and, and_false, or_false, false_or, true_or, or_true]
  refine mw_mono (w_spareUn (d := d) R2 w2 T2 (G2.dy hd) Y2.2.1 Y2.2.2 c2 hs) ?_
  rintro _ M3 ⟨rfl, Y3, -, -⟩
  cases e : sFirst (sLets a x).1 with
  | none =>
    simp (disch := omega) only [q_aload0, q_aload0N, q_get_r, pTag_1, pRf_s, q_invv1, inv_1, q_iload1, q_pop_i, q_pop_r, q_invv0, q_iconst, q_ic_ne, q_goto, q_nop, q_zret, e_20_0, e_20_1, e_20_2, L_0, L_1, k_some, k_none, pRm_i, pRm_r, pRm_0, pF_1, pF_2, inv_s, oI, nN_le, nN_lt, nN_eq, nN_add, nN_mul, nN_lt0, nN_ge0, nN_gt0, nN_le0, nN_eq0, nN_eq1, nN_neN, pIn_n, pIx_n, eq_self, Nat.reduceLT, Bool.false_eq_true, Nat.add_zero, Nat.zero_add, Nat.reduceAdd, Nat.reduceMul, Nat.reduceSub, Nat.zero_le, Nat.reduceLeDiff, Nat.reduceEqDiff, Nat.le_refl, not_false_eq_true, not_true_eq_false, false_implies, true_implies, forall_const, true_and, and_true, if_true, if_false, implies_true, and_self, ne_eq, false_and, and_false, or_false, false_or, true_or, or_true]
    simp [bI, zb_1]
    exact (Y1.trans Y2).trans Y3
  | some m =>
    have hm : m < 4000 := by
      have := sUnm_none (a := (sLets a x).1) _ _ m e
      have := w2.n'
      omega
    have e9 : ¬ nN m = iN (-1) := by rw [nN_neN (by omega)]; exact not_false
    simp (disch := omega) only [q_aload0, q_aload0N, q_get_r, pTag_1, pRf_s, q_invv1, inv_1, q_iload1, q_pop_i, q_pop_r, q_invv0, q_iconst, q_ic_ne, q_goto, q_nop, q_zret, e_20_0, e_20_1, e_20_2, L_0, L_1, k_some, k_none, pRm_i, pRm_r, pRm_0, pF_1, pF_2, inv_s, oI, e9, nN_le, nN_lt, nN_eq, nN_add, nN_mul, nN_lt0, nN_ge0, nN_gt0, nN_le0, nN_eq0, nN_eq1, nN_neN, pIn_n, pIx_n, eq_self, Nat.reduceLT, Bool.false_eq_true, Nat.add_zero, Nat.zero_add, Nat.reduceAdd, Nat.reduceMul, Nat.reduceSub, Nat.zero_le, Nat.reduceLeDiff, Nat.reduceEqDiff, Nat.le_refl, not_false_eq_true, not_true_eq_false, false_implies, true_implies, forall_const, true_and, and_true, if_true, if_false, implies_true, and_self, ne_eq, false_and, and_false, or_false, false_or, true_or, or_true]
    simp [bI, zb_0]
    exact (Y1.trans Y2).trans Y3
def Xc (M : pMem) (a' ak' : Nat → Int32) (img' : Bool) (n' : Nat) (b' : Nat → Nat) (fl' : Int32) (M' : pMem) : Prop := CI M' a' ak' img' n' b' fl' ∧ CF M M'
theorem Yc.xc (c : CI M a ak img n b fl) (hk : img = true → Wf ak) (h : Yc M a' M') : Xc M a' ak img n b fl M' := ⟨c.go hk h.1 h.2.1 h.2.2, h.1.cf⟩
theorem Bk.low {L : List Nat} {F : List (Nat × Nat)} (hb : Bk M M' t s L F) (ht : t + 22 ≤ 86) : CF M M' := ⟨hb.1, fun h k z => hb.2.2.1 h k (by omega), fun h k z => hb.2.1 h k (by omega)⟩
theorem c_image (c : CI M a ak img n b fl) (hw : Wf a) : mw (d + 8) 34 [.ref 0] M (fun o M' => o = .inl none ∧ Xc M a a true n b fl M') := by
  obtain ⟨t, ht⟩ : ∃ t : Nat, t = 3 := ⟨3, rfl⟩
  obtain ⟨s, hs⟩ : ∃ s : Nat, s = 25 := ⟨25, rfl⟩
  have p1 : gP M 0 1 = some t := by rw [ht]; exact c.sh.p1
  have p2 : gP M 0 2 = some s := by rw [hs]; exact c.sh.p2
  have hS : (gS M s).1 = 9 := by rw [hs]; rw [c.sh.t25.k0]
  have k0 := c.sh.k0
  simp (disch := omega) only [m_34, q_aload0, q_aload0N, q_get_r, pTag_1, pRf_s, q_invv1, inv_1, q_iconst, q_put_z, q_vret, e_34_0, L_1, k_some, k_none, pRm_i, pRm_r, pRm_0, pF_1, pF_2, inv_s, k0, p1, p2, hS, nN_le, nN_lt, nN_eq, nN_add, nN_mul, nN_lt0, nN_ge0, nN_gt0, nN_le0, nN_eq0, nN_eq1, nN_neN, pIn_n, pIx_n, eq_self, Nat.reduceLT, Bool.false_eq_true, Nat.add_zero, Nat.zero_add, Nat.reduceAdd, Nat.reduceMul, Nat.reduceSub, Nat.zero_le, Nat.reduceLeDiff, Nat.reduceEqDiff, Nat.le_refl, not_false_eq_true, not_true_eq_false, false_implies, true_implies, forall_const, true_and, and_true, if_true, if_false, implies_true, and_self, ne_eq, false_and, and_false, or_false, false_or, true_or, or_true]
  refine mw_mono (w_become (by omega) (by rw [ht]; exact c.sh.t3) (by rw [hs]; exact c.sh.t25) (by rw [ht]; exact c.qo)) ?_
  rintro _ M1 ⟨rfl, B1, P1⟩
  rw [hs, ht] at B1 P1
  have k1 : (gS M1 0).1 = 11 := by rw [B1.1.1, k0]
  simp (disch := omega) only [q_aload0, q_aload0N, q_get_r, pTag_1, pRf_s, q_invv1, inv_1, q_iconst, q_put_z, q_vret, e_34_0, L_1, k_some, k_none, pRm_i, pRm_r, pRm_0, pF_1, pF_2, inv_s, k1, zb_1, nN_le, nN_lt, nN_eq, nN_add, nN_mul, nN_lt0, nN_ge0, nN_gt0, nN_le0, nN_eq0, nN_eq1, nN_neN, pIn_n, pIx_n, eq_self, Nat.reduceLT, Bool.false_eq_true, Nat.add_zero, Nat.zero_add, Nat.reduceAdd, Nat.reduceMul, Nat.reduceSub, Nat.zero_le, Nat.reduceLeDiff, Nat.reduceEqDiff, Nat.le_refl, not_false_eq_true, not_true_eq_false, false_implies, true_implies, forall_const, true_and, and_true, if_true, if_false, implies_true, and_self, ne_eq, false_and, and_false, or_false, false_or, true_or, or_true]
  have w9 : ∀ h k, ¬ (25 ≤ h ∧ h < 47) → gI M1 h k = gI M h k := fun h k hh => B1.2.2.1 h k (by omega)
  have q9 : ∀ h k, h ≠ 40 → gP M1 h k = gP M h k := fun h k hh => B1.2.1 h k (by omega)
  have A0 : Ag (fun h k => h = 0 ∧ k = 9) M1 (sI M1 0 9 (nN 1)) := Ag.one ⟨rfl, rfl⟩
  have B0 := B1.low (by omega)
  have t3 := B1.sh c.sh.t3 (by omega)
  have t25 := B1.sh c.sh.t25 (by omega)
  have t47 := B1.sh c.sh.t47 (by omega)
  have R3 : Rep M1 3 a := rep_other B1 c.rep hw (by omega)
  have R25 : Rep M1 25 a := rep_become c.rep hw c.sh.t25 B1
  have T3 : TmR M1 3 a := TmR.other c.tm B1 (by omega) (by omega)
  have T25 : TmR M1 25 a := TmR.become c.tm hw B1 (by omega) P1
  have nA : ∀ t h k, 3 ≤ t → t ≤ h → h < t + 22 → h ≠ t + 16 → ¬ (h = 0 ∧ k = 9) := fun t h k h1 h2 h3 h4 h5 => by omega
  refine ⟨CI.mk ?_ (R3.ag A0 (nA 3 · · (by omega))) (T3.agA (A0.mono fun h k z => Or.inl (by omega))) (fun _ => R25.ag A0 (nA 25 · · (by omega))) (fun _ => T25.agA (A0.mono fun h k z => Or.inl (by omega))) ?_ ?_ ?_ ?_ ?_ ?_ ?_ ?_, ?_⟩
  · have h := c.sh
    have e0 : ∀ k, gP M1 0 k = gP M 0 k := fun k => q9 _ _ (by omega)
    have e1 : ∀ k, gP M1 1 k = gP M 1 k := fun k => q9 _ _ (by omega)
    have e69 : ∀ k, gP M1 69 k = gP M 69 k := fun k => q9 _ _ (by omega)
    have e72 : ∀ k, gP M1 72 k = gP M 72 k := fun k => q9 _ _ (by omega)
    have e76 : ∀ k, gP M1 76 k = gP M 76 k := fun k => q9 _ _ (by omega)
    have e81 : ∀ k, gP M1 81 k = gP M 81 k := fun k => q9 _ _ (by omega)
    rw [B1.1.1] at t3 t25 t47
    show ShF (gS M1) (gP M1)
    unfold ShF at h ⊢
    simp only [B1.1.1, e0, e1, e69, e72, e76, e81]
    exact ⟨h.1, h.2.1, h.2.2.1, h.2.2.2.1, h.2.2.2.2.1, h.2.2.2.2.2.1, h.2.2.2.2.2.2.1, h.2.2.2.2.2.2.2.1, h.2.2.2.2.2.2.2.2.1, h.2.2.2.2.2.2.2.2.2.1, h.2.2.2.2.2.2.2.2.2.2.1, h.2.2.2.2.2.2.2.2.2.2.2.1, h.2.2.2.2.2.2.2.2.2.2.2.2.1, t3, t25, t47, h.2.2.2.2.2.2.2.2.2.2.2.2.2.2.2.2⟩
  · intro k hk q hq
    have hq' : gP M1 (3 + 15) k = some q := hq
    rw [q9 _ _ (by omega)] at hq'
    show (gS M1 q).1 = 7
    rw [B1.1.1]
    exact c.qo k hk q hq'
  · intro k hk q hq
    have hq' : gP M1 (25 + 15) k = some q := hq
    rw [P1 k hk] at hq'
    show (gS M1 q).1 = 7
    rw [B1.1.1]
    exact c.qo k hk q hq'
  · rw [gI_sI, if_neg (by omega), w9 _ _ (by omega)]; exact c.l69
  · rw [gI_sI, if_neg (by omega), w9 _ _ (by omega)]; exact c.l72
  · rw [gI_sI, if_neg (by omega), w9 _ _ (by omega)]; exact c.tn
  · intro k hk; rw [gI_sI, if_neg (by omega), w9 _ _ (by omega)]; exact c.tb k hk
  · rw [gI_sI, if_pos ⟨rfl, rfl⟩]; simp [bI]
  · rw [gI_sI, if_neg (by omega), w9 _ _ (by omega)]; exact c.fo
  · exact ⟨B0.1, fun h k z => by rw [gI_sI, if_neg (by omega)]; exact B0.2.1 h k z, B0.2.2⟩
end PX9
