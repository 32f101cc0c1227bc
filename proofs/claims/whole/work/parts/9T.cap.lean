/-! the ports' bounds; most and cut -/
noncomputable def cT (a : Nat → Int32) : Nat → Int32 := fun k => cP a (k / 12) (k % 12)
section CT
variable {d t u n p q f g m e K k dd x y i j : Nat} {b : Nat → Nat} {a a' ak : Nat → Int32} {img : Bool} {fl : Int32} {M M0 M1 M' : pMem} {Q : pOut → pMem → Prop}
theorem cT_at (hn : nP a ≤ 12) (hi : i < nP a) (hj : j < nP a) : cT a (12 * i + j) = cP a i j := by
  unfold cT
  rw [show (12 * i + j) / 12 = i from by omega, show (12 * i + j) % 12 = j from by omega]
theorem sW_div (hw : Wf a) (hf : f < nF a) : ∃ q, q ≤ 99 ∧ sW a f / nN 1024 = nN q := by
  obtain ⟨n, h1, h2, h3⟩ := hw.fA f hf
  obtain ⟨g1, g2, g3⟩ := hw.fD f hf
  unfold sW sWorth
  rw [h3, g2, nN_mul, nN_add]
  have l : (n * 1024) >>> (fD a f + 1) ≤ n * 1024 := by rw [Nat.shiftRight_eq_div_pow]; exact Nat.div_le_self _ _
  rw [nN_shr (s := n * 1024) (h := fD a f + 1) (by omega) (by omega)]
  generalize (n * 1024) >>> (fD a f + 1) = w at *
  exact ⟨w / 1024, by omega, nN_div (by omega) (by omega)⟩
theorem sPort_le (hw : Wf a) : ∃ v, v ≤ 3960 ∧ sPort a x y = nN v := by
  have hf' := hw.f'
  have := lp_inv (f := fun f (s : Int32) => s + if fa a f 2 = nN x ∧ sGoTo a f y = true then sW a f / nN 1024 else nN 0) (P := fun k s => ∃ v, v ≤ 99 * k ∧ s = nN v) (nF a) 0 (nN 0) ⟨0, by omega, rfl⟩ (fun k s h1 h2 ⟨v, h3, h4⟩ => by
    obtain ⟨q, g1, g2⟩ := sW_div hw (show k < nF a by omega)
    by_cases c : fa a k 2 = nN x ∧ sGoTo a k y = true
    · refine ⟨v + q, by omega, ?_⟩
      show s + (if fa a k 2 = nN x ∧ sGoTo a k y = true then sW a k / nN 1024 else nN 0) = _
      rw [if_pos c, g2, h4, nN_add]
    · refine ⟨v, by omega, ?_⟩
      show s + (if fa a k 2 = nN x ∧ sGoTo a k y = true then sW a k / nN 1024 else nN 0) = _
      rw [if_neg c, h4, nN_add]; rfl)
  obtain ⟨v, h1, h2⟩ := this
  exact ⟨v, by omega, h2⟩
theorem cP_le (hw : Wf a) : 0 ≤ (cP a i j).toInt ∧ (cP a i j).toInt ≤ 3960 := by
  unfold cP
  split
  · rw [nN_toInt (by omega)]; omega
  · obtain ⟨v, h1, h2⟩ := sPort_le (x := i) (y := j) hw
    rw [h2, nN_toInt (by omega)]; omega
theorem cT_I (hw : Wf a) : CpI (cT a) (nP a) := by
  intro i j hi hj
  rw [cT_at hw.p' hi hj, cT_at hw.p' hj hi]
  have h1 := cP_le (i := i) (j := j) hw
  have h2 := cP_le (i := j) (j := i) hw
  omega
theorem cT_row (hw : Wf a) (hx : x < nP a) : rowS (cT a) x (nP a) < 100000 := by
  have hp' := hw.p'
  have := lp_inv (f := fun j (s : Int) => s + (cT a (12 * x + j)).toInt) (P := fun k s => s ≤ 3960 * (k : Int)) (nP a) 0 0 (by omega) (fun j s h1 h2 h3 => by
    have := cP_le (i := x) (j := j) hw
    show s + (cT a (12 * x + j)).toInt ≤ _
    rw [cT_at hp' hx (by omega)]
    omega)
  show lp (nP a) 0 0 _ < 100000
  omega
/-- most: the greatest flow -/
noncomputable def sMost (a : Nat → Int32) (x y : Nat) : Int32 × (Nat → Int32) := flJ (nP a) x y 100000 (nN 0) (cT a)
theorem kf_fl (h : ShF (gS M) (gP M)) (A : Ag (fun h k => XO (gS M) (gP M) h k ∨ XFl h k) M M') : KF M M' := by
  refine ⟨⟨A.S, A.J, A.N, A.L⟩, fun h k _ => by rw [A.P], fun j k z => ?_, fun q cs h => h.agA (A.mono ?_)⟩
  · refine A.I ?_
    rintro ((z1 | z1 | z1) | ((z1 | z1 | z1) | z1))
    · rcases XC_XTw _ _ z1 with e | ⟨q, e1, e2⟩
      · omega
      · by_cases c : j = 900000
        · subst c; exact TSh_900 h e1 e2
        · obtain ⟨e3, -⟩ := e1
          rcases e2 with e | ⟨e, -⟩ <;> omega
    · omega
    · omega
    · omega
    · omega
    · omega
    · omega
  · rintro h k ((z1 | z1 | z1) | ((z1 | z1 | z1) | z1))
    · exact XTw_XA (t := 3) (by omega) h k (XC_XTw h k z1)
    · exact Or.inl (by omega)
    · exact Or.inl (by omega)
    · exact Or.inl (by omega)
    · exact Or.inl (by omega)
    · exact Or.inl (by omega)
    · exact Or.inl (by omega)
theorem yc_fl (c : CI M a ak img n b fl) (A1 : Ag (XO (gS M) (gP M)) M M1) (A2 : Ag XFl M1 M') : Yc M a M' := by
  have A : Ag (fun h k => XO (gS M) (gP M) h k ∨ XFl h k) M M' := (A1.mono fun h k z => Or.inl z).trans (A2.mono fun h k z => Or.inr z)
  have K := kf_fl c.sh A
  refine ⟨K, ?_, K.tm c.tm (by omega)⟩
  exact (rep_xo c.rep A1).ag A2 (fun h k h1 h2 h3 => by
    rintro ((z1 | z1 | z1) | z1) <;> omega)
theorem c_most (c : CI M a ak img n b fl) (hw : Wf a) (hp : p < nP a) (hq : q < nP a) (hne : p ≠ q) : mw (d + 13) 25 [.ref 0, .int (nN p), .int (nN q)] M (fun o M' => o = .inl (some (.int (sMost a p q).1)) ∧ Yc M a M') := by
  obtain ⟨t, ht⟩ : ∃ t : Nat, t = 3 := ⟨3, rfl⟩
  have hr : Rep M t a := by rw [ht]; exact c.rep
  have hT : TmR M t a := by rw [ht]; exact c.tm
  have p1 : gP M 0 1 = some t := by rw [ht]; exact c.sh.p1
  have k0 := c.sh.k0
  have hp9 := hw.p'
  have hf9 := hw.f'
  have p6 := c.sh.p6
  have hS : (gS M 76).1 = 4 := by rw [c.sh.k76]
  simp (disch := omega) only [m_25, q_aload0, q_aload0N, q_iload1, q_iload2, q_invv2, inv_1, q_get_r, pTag_1, pRf_s, q_invv1, q_iret, e_25_0, k_some, k_none, pRm_i, pRm_r, pRm_0, pF_1, pF_2, inv_s, k0, p1, p6, hS, w_need2 c hw, hr.sh.k0, hr.nt, hr.ne, hr.nr, hr.nx, hr.day, hr.law, hr.sh.p0, hr.sh.p1, hr.sh.p2, hr.sh.p3, hr.sh.p4, hr.sh.p5, hr.sh.p6, hr.sh.p7, hr.sh.p8, nN_le, nN_lt, nN_eq, nN_add, nN_mul, nN_lt0, nN_ge0, nN_gt0, nN_le0, nN_eq0, nN_eq1, nN_neN, pIn_n, pIx_n, eq_self, Nat.reduceLT, Bool.false_eq_true, Nat.add_zero, Nat.zero_add, Nat.reduceAdd, Nat.reduceMul, Nat.reduceSub, Nat.zero_le, Nat.reduceLeDiff, Nat.reduceEqDiff, Nat.le_refl, not_false_eq_true, not_true_eq_false, false_implies, true_implies, forall_const, true_and, and_true, if_true, if_false, implies_true, and_self, ne_eq, false_and, and_false, or_false, false_or, true_or, or_true]
  subst ht
  refine mw_mono (w_open (d := d) c hw) ?_
  rintro _ M1 ⟨rfl, n1, e1, A1⟩
  have sh1 : ShP (gS M1) (gP M1) := by rw [A1.S, A1.P]; exact c.sh.shp
  have k01 : (gS M1 0).1 = 11 := by rw [A1.S, k0]
  have p61 : gP M1 0 6 = some 76 := by rw [A1.P]; exact p6
  have hS1 : (gS M1 76).1 = 4 := by rw [A1.S]; exact hS
  have hp' := hw.p'
  have cp1 : CpO M1 (nP a) (cT a) := ⟨n1, fun i j hi hj => by rw [e1 i j hi hj, cT_at hp' hi hj]⟩
  simp (disch := omega) only [q_aload0, q_aload0N, q_iload1, q_iload2, q_invv2, inv_1, q_get_r, pTag_1, pRf_s, q_invv1, q_iret, e_25_0, k_some, k_none, pRm_i, pRm_r, pRm_0, pF_1, pF_2, inv_s, k01, p61, hS1, nN_le, nN_lt, nN_eq, nN_add, nN_mul, nN_lt0, nN_ge0, nN_gt0, nN_le0, nN_eq0, nN_eq1, nN_neN, pIn_n, pIx_n, eq_self, Nat.reduceLT, Bool.false_eq_true, Nat.add_zero, Nat.zero_add, Nat.reduceAdd, Nat.reduceMul, Nat.reduceSub, Nat.zero_le, Nat.reduceLeDiff, Nat.reduceEqDiff, Nat.le_refl, not_false_eq_true, not_true_eq_false, false_implies, true_implies, forall_const, true_and, and_true, if_true, if_false, implies_true, and_self, ne_eq, false_and, and_false, or_false, false_or, true_or, or_true]
  refine mw_mono (w_flow (d := d + 8) sh1 cp1 hp' (cT_I hw) hp hq (fun z => hne z.symm) (cT_row hw hp)) ?_
  rintro _ M2 ⟨rfl, c2, I2, b2, A2⟩
  simp (disch := omega) only [q_aload0, q_aload0N, q_iload1, q_iload2, q_invv2, inv_1, q_get_r, pTag_1, pRf_s, q_invv1, q_iret, e_25_0, k_some, k_none, pRm_i, pRm_r, pRm_0, pF_1, pF_2, inv_s, nN_le, nN_lt, nN_eq, nN_add, nN_mul, nN_lt0, nN_ge0, nN_gt0, nN_le0, nN_eq0, nN_eq1, nN_neN, pIn_n, pIx_n, eq_self, Nat.reduceLT, Bool.false_eq_true, Nat.add_zero, Nat.zero_add, Nat.reduceAdd, Nat.reduceMul, Nat.reduceSub, Nat.zero_le, Nat.reduceLeDiff, Nat.reduceEqDiff, Nat.le_refl, not_false_eq_true, not_true_eq_false, false_implies, true_implies, forall_const, true_and, and_true, if_true, if_false, implies_true, and_self, ne_eq, false_and, and_false, or_false, false_or, true_or, or_true]
  exact ⟨rfl, yc_fl c A1 A2⟩
end CT
