/-! READERS, more -/
section RF
variable {d t u : Nat} {a : Nat → Int32} {M : pMem} {Q : pOut → pMem → Prop}
theorem nN_sub1 {n : Nat} : nN n - nN 1 = iN ((n : Int) - 1) := by
  show iN _ - iN _ = _
  rw [iN_sub]
  rfl
theorem w_isPerson {x : Int32} (h : ShM (gS M) (gP M) u) : mw (d + 2) 53 [.ref u, .int x] M Q = Q (.inl (some (.int (bI (nN 0 ≤ x ∧ x ≤ gI M (u + 1) 1 - nN 1))))) M := by
  simp (disch := omega) only [m_53, q_iload1, q_iconst, q_aload0, q_aload0N, q_get_r, pTag_1, pRf_s, q_iald, q_isub, q_invs3_20, q_zret, e_53_0, L_0, L_1, k_some, k_none, pRm_i, pRm_r, pRm_0, pF_1, pF_2, inv_s, h.k0, h.k1, h.p1, nN_le, nN_lt, nN_eq, nN_add, nN_mul, nN_lt0, nN_ge0, nN_gt0, nN_le0, nN_eq0, nN_eq1, nN_neN, pIn_n, pIx_n, w_isIn]
  simp [bI_z]
theorem w_isFavour {x : Int32} (h : ShM (gS M) (gP M) u) : mw (d + 2) 54 [.ref u, .int x] M Q = Q (.inl (some (.int (bI (nN 0 ≤ x ∧ x ≤ gI M (u + 1) 3 - nN 1))))) M := by
  simp (disch := omega) only [m_54, q_iload1, q_iconst, q_aload0, q_aload0N, q_get_r, pTag_1, pRf_s, q_iald, q_isub, q_invs3_20, q_zret, e_54_0, L_0, L_1, L_3, k_some, k_none, pRm_i, pRm_r, pRm_0, pF_1, pF_2, inv_s, h.k0, h.k1, h.p1, nN_le, nN_lt, nN_eq, nN_add, nN_mul, nN_lt0, nN_ge0, nN_gt0, nN_le0, nN_eq0, nN_eq1, nN_neN, pIn_n, pIx_n, w_isIn]
  simp [bI_z]
end RF
section RG
variable {d t u : Nat} {a : Nat → Int32} {M : pMem} {Q : pOut → pMem → Prop}
/-- what one favour lost on the way between two -/
def sLossOn (a : Nat → Int32) (f : Nat) (x y : Int32) : Int32 := lp (fD a f) 0 (nN 0) fun k s => s + if fa a f (8 + k) = y ∧ fa a f (9 + k) = x then sWorth (fa a f 1) (nN k) - sWorth (fa a f 1) (nN (k + 1)) else nN 0
theorem w_lossOn {f : Nat} {x y : Int32} (hr : Rep M t a) (hw : Wf a) (hf : f < nF a) : mw (d + 4) 155 [.ref (t + 7), .int (nN f), .int x, .int y] M Q = Q (.inl (some (.int (sLossOn a f x y)))) M := by
  have hf' := hw.f'
  obtain ⟨h1, h2, h3⟩ := hw.fD f hf
  simp (disch := omega) only [m_155, q_iconst, q_istore4, q_aload0, q_aload0N, q_get_r, pTag_1, pRf_s, q_iload1, q_invs2_21, q_sipush, q_imul, q_istore5, q_istore6, q_nop, q_iload6, q_invv1, inv_1, q_ic_ge, q_isub, q_invv2, q_iload3, q_ic_ne, q_iload2, q_iload4, q_iload5, q_ishr, q_iadd, q_iinc6, q_goto, q_iret, e_155_0, e_155_2, e_155_3, L_0, L_1, L_2, L_1024, k_some, k_none, pRm_i, pRm_r, pRm_0, pF_1, pF_2, inv_s, hr.sh.k7, hr.nf, hr.sh.r0, hr.sh.r1, hr.sh.r2, hr.sh.r3, hr.sh.r4, hr.sh.r5, hr.sh.r6, w_atN hr.sh.k8, w_atN hr.sh.k9, w_atN hr.sh.k10, w_atN hr.sh.k11, w_atN hr.sh.k12, w_atN hr.sh.k13, w_atN hr.sh.k14, hr.g, hr.h, hr.am, hr.hd, hr.en, hr.fc]
  rw [lp_rule (n := fD a f) (C := fun k s => ([some (.ref (t + 7)), some (.int (nN f)), some (.int x), some (.int y), some (.int s), some (.int (fa a f 1 * nN 1024)), some (.int (nN (k + 2)))], [], M)) (f := fun k s => s + if fa a f (8 + k) = y ∧ fa a f (9 + k) = x then sWorth (fa a f 1) (nN k) - sWorth (fa a f 1) (nN (k + 1)) else nN 0) ?_ (fD a f) 0 _ (by omega)]
  · rw [e_155_1]
    simp (disch := omega) only [q_iconst, q_istore4, q_aload0, q_aload0N, q_get_r, pTag_1, pRf_s, q_iload1, q_invs2_21, q_sipush, q_imul, q_istore5, q_istore6, q_nop, q_iload6, q_invv1, inv_1, q_ic_ge, q_isub, q_invv2, q_iload3, q_ic_ne, q_iload2, q_iload4, q_iload5, q_ishr, q_iadd, q_iinc6, q_goto, q_iret, e_155_0, e_155_2, e_155_3, L_0, L_1, L_2, L_1024, k_some, k_none, pRm_i, pRm_r, pRm_0, pF_1, pF_2, inv_s, hr.sh.k7, hr.nf, hr.sh.r0, hr.sh.r1, hr.sh.r2, hr.sh.r3, hr.sh.r4, hr.sh.r5, hr.sh.r6, w_atN hr.sh.k8, w_atN hr.sh.k9, w_atN hr.sh.k10, w_atN hr.sh.k11, w_atN hr.sh.k12, w_atN hr.sh.k13, w_atN hr.sh.k14, hr.g, hr.h, hr.am, hr.hd, hr.en, hr.fc, w_rowLength hr hw, nN_le, nN_lt, nN_eq, nN_add, nN_mul, nN_lt0, nN_ge0, nN_gt0, nN_le0, nN_eq0, nN_eq1, nN_neN, pIn_n, pIx_n]
    simp [sLossOn]
  · intro k s hk
    rw [e_155_1]
    have e1 : ¬ fD a f + 2 ≤ k + 2 := by omega
    have e2 : nN (k + 2) - nN 1 = nN (k + 1) := by rw [nN_sub1]; unfold nN; congr 1; omega
    have e3 : nN (k + 2) - nN 2 = nN k := by show iN _ - iN _ = _; rw [iN_sub]; unfold nN; congr 1; omega
    have e4 : 7 + (k + 1) = 8 + k := by omega
    have e5 : 7 + (k + 2) = 9 + k := by omega
    have e6 : k + 1 < fD a f + 2 := by omega
    have e7 : k + 2 < fD a f + 2 := by omega
    simp (disch := omega) only [q_iconst, q_istore4, q_aload0, q_aload0N, q_get_r, pTag_1, pRf_s, q_iload1, q_invs2_21, q_sipush, q_imul, q_istore5, q_istore6, q_nop, q_iload6, q_invv1, inv_1, q_ic_ge, q_isub, q_invv2, q_iload3, q_ic_ne, q_iload2, q_iload4, q_iload5, q_ishr, q_iadd, q_iinc6, q_goto, q_iret, e_155_0, e_155_2, e_155_3, L_0, L_1, L_2, L_1024, k_some, k_none, pRm_i, pRm_r, pRm_0, pF_1, pF_2, inv_s, hr.sh.k7, hr.nf, hr.sh.r0, hr.sh.r1, hr.sh.r2, hr.sh.r3, hr.sh.r4, hr.sh.r5, hr.sh.r6, w_atN hr.sh.k8, w_atN hr.sh.k9, w_atN hr.sh.k10, w_atN hr.sh.k11, w_atN hr.sh.k12, w_atN hr.sh.k13, w_atN hr.sh.k14, hr.g, hr.h, hr.am, hr.hd, hr.en, hr.fc, w_rowLength hr hw, w_inRow hr hw, nN_le, nN_lt, nN_eq, nN_add, nN_mul, nN_lt0, nN_ge0, nN_gt0, nN_le0, nN_eq0, nN_eq1, nN_neN, pIn_n, pIx_n, e2, e3, e4, e5, e6, e7, if_true]
    by_cases g1 : fa a f (8 + k) = y <;> by_cases g2 : fa a f (9 + k) = x <;> simp [g1, g2, e1, add_n0, sWorth]
end RG
section RH
variable {d t u : Nat} {a : Nat → Int32} {M : pMem} {Q : pOut → pMem → Prop}
def sLoss (a : Nat → Int32) (x y : Int32) : Int32 := lp (nF a) 0 (nN 0) fun f s => s + if fa a f 0 = x then nN 0 else sLossOn a f x y
theorem w_lossOfC {x y : Int32} (hr : Rep M t a) (hw : Wf a) : mw (d + 5) 154 [.ref (t + 7), .int x, .int y] M Q = Q (.inl (some (.int (sLoss a x y)))) M := by
  have hf' := hw.f'
  simp (disch := omega) only [m_154, q_iconst, q_istore3, q_istore4, q_nop, q_iload4, q_aload0, q_aload0N, q_get_i, pTag_1, pRf_s, q_ic_ge, q_get_r, q_invs2_21, q_iload1, q_ic_eq, q_iload3, q_iload2, q_invv3, inv_1, q_iadd, q_iinc4, q_goto, q_iret, e_154_0, e_154_2, e_154_3, L_0, L_1, k_some, k_none, pRm_i, pRm_r, pRm_0, pF_1, pF_2, inv_s]
  rw [lp_rule (n := nF a) (C := fun k s => ([some (.ref (t + 7)), some (.int x), some (.int y), some (.int s), some (.int (nN k))], [], M)) (f := fun f s => s + if fa a f 0 = x then nN 0 else sLossOn a f x y) ?_ (nF a) 0 _ (by omega)]
  · rw [e_154_1]
    simp (disch := omega) only [q_iconst, q_istore3, q_istore4, q_nop, q_iload4, q_aload0, q_aload0N, q_get_i, pTag_1, pRf_s, q_ic_ge, q_get_r, q_invs2_21, q_iload1, q_ic_eq, q_iload3, q_iload2, q_invv3, inv_1, q_iadd, q_iinc4, q_goto, q_iret, e_154_0, e_154_2, e_154_3, L_0, L_1, k_some, k_none, pRm_i, pRm_r, pRm_0, pF_1, pF_2, inv_s, hr.sh.k7, hr.nf, hr.sh.r0, hr.sh.r1, hr.sh.r2, hr.sh.r3, hr.sh.r4, hr.sh.r5, hr.sh.r6, w_atN hr.sh.k8, w_atN hr.sh.k9, w_atN hr.sh.k10, w_atN hr.sh.k11, w_atN hr.sh.k12, w_atN hr.sh.k13, w_atN hr.sh.k14, hr.g, hr.h, hr.am, hr.hd, hr.en, hr.fc, hw.f, nN_le, nN_lt, nN_eq, nN_add, nN_mul, nN_lt0, nN_ge0, nN_gt0, nN_le0, nN_eq0, nN_eq1, nN_neN, pIn_n, pIx_n]
    simp [sLoss]
  · intro k s hk
    rw [e_154_1]
    have e1 : ¬ nF a ≤ k := by omega
    simp (disch := omega) only [q_iconst, q_istore3, q_istore4, q_nop, q_iload4, q_aload0, q_aload0N, q_get_i, pTag_1, pRf_s, q_ic_ge, q_get_r, q_invs2_21, q_iload1, q_ic_eq, q_iload3, q_iload2, q_invv3, inv_1, q_iadd, q_iinc4, q_goto, q_iret, e_154_0, e_154_2, e_154_3, L_0, L_1, k_some, k_none, pRm_i, pRm_r, pRm_0, pF_1, pF_2, inv_s, hr.sh.k7, hr.nf, hr.sh.r0, hr.sh.r1, hr.sh.r2, hr.sh.r3, hr.sh.r4, hr.sh.r5, hr.sh.r6, w_atN hr.sh.k8, w_atN hr.sh.k9, w_atN hr.sh.k10, w_atN hr.sh.k11, w_atN hr.sh.k12, w_atN hr.sh.k13, w_atN hr.sh.k14, hr.g, hr.h, hr.am, hr.hd, hr.en, hr.fc, hw.f, nN_le, nN_lt, nN_eq, nN_add, nN_mul, nN_lt0, nN_ge0, nN_gt0, nN_le0, nN_eq0, nN_eq1, nN_neN, pIn_n, pIx_n, w_lossOn hr hw]
    by_cases g1 : fa a k 0 = x <;> simp [g1, e1, add_n0]
end RH
section RI
variable {d t u : Nat} {a : Nat → Int32} {M : pMem} {Q : pOut → pMem → Prop}
/-- the favours that are still there -/
def sLeft (a : Nat → Int32) : Int32 := lp (nF a) 0 (nN 0) fun f s => s + if fa a f 2 = iN (-1) then nN 0 else nN 1
theorem w_countLeft (hr : Rep M t a) (hw : Wf a) : mw (d + 3) 151 [.ref (t + 7)] M Q = Q (.inl (some (.int (sLeft a)))) M := by
  have hf' := hw.f'
  simp (disch := omega) only [m_151, q_iconst, q_istore1, q_istore2, q_nop, q_iload2, q_aload0, q_aload0N, q_get_i, pTag_1, pRf_s, q_ic_ge, q_iload1, q_invv1, inv_1, q_if_ne, q_goto, q_invs1_21, q_iadd, q_iinc2, q_iret, e_151_0, e_151_2, e_151_3, e_151_4, L_0, L_1, k_some, k_none, pRm_i, pRm_r, pRm_0, pF_1, pF_2, inv_s]
  rw [lp_rule (n := nF a) (C := fun k s => ([some (.ref (t + 7)), some (.int s), some (.int (nN k))], [], M)) (f := fun f s => s + if fa a f 2 = iN (-1) then nN 0 else nN 1) ?_ (nF a) 0 _ (by omega)]
  · rw [e_151_1]
    simp (disch := omega) only [q_iconst, q_istore1, q_istore2, q_nop, q_iload2, q_aload0, q_aload0N, q_get_i, pTag_1, pRf_s, q_ic_ge, q_iload1, q_invv1, inv_1, q_if_ne, q_goto, q_invs1_21, q_iadd, q_iinc2, q_iret, e_151_0, e_151_2, e_151_3, e_151_4, L_0, L_1, k_some, k_none, pRm_i, pRm_r, pRm_0, pF_1, pF_2, inv_s, hr.sh.k7, hr.nf, hr.sh.r0, hr.sh.r1, hr.sh.r2, hr.sh.r3, hr.sh.r4, hr.sh.r5, hr.sh.r6, w_atN hr.sh.k8, w_atN hr.sh.k9, w_atN hr.sh.k10, w_atN hr.sh.k11, w_atN hr.sh.k12, w_atN hr.sh.k13, w_atN hr.sh.k14, hr.g, hr.h, hr.am, hr.hd, hr.en, hr.fc, hw.f, nN_le, nN_lt, nN_eq, nN_add, nN_mul, nN_lt0, nN_ge0, nN_gt0, nN_le0, nN_eq0, nN_eq1, nN_neN, pIn_n, pIx_n]
    simp [sLeft]
  · intro k s hk
    rw [e_151_1]
    have e1 : ¬ nF a ≤ k := by omega
    simp (disch := omega) only [q_iconst, q_istore1, q_istore2, q_nop, q_iload2, q_aload0, q_aload0N, q_get_i, pTag_1, pRf_s, q_ic_ge, q_iload1, q_invv1, inv_1, q_if_ne, q_goto, q_invs1_21, q_iadd, q_iinc2, q_iret, e_151_0, e_151_2, e_151_3, e_151_4, L_0, L_1, k_some, k_none, pRm_i, pRm_r, pRm_0, pF_1, pF_2, inv_s, hr.sh.k7, hr.nf, hr.sh.r0, hr.sh.r1, hr.sh.r2, hr.sh.r3, hr.sh.r4, hr.sh.r5, hr.sh.r6, w_atN hr.sh.k8, w_atN hr.sh.k9, w_atN hr.sh.k10, w_atN hr.sh.k11, w_atN hr.sh.k12, w_atN hr.sh.k13, w_atN hr.sh.k14, hr.g, hr.h, hr.am, hr.hd, hr.en, hr.fc, hw.f, nN_le, nN_lt, nN_eq, nN_add, nN_mul, nN_lt0, nN_ge0, nN_gt0, nN_le0, nN_eq0, nN_eq1, nN_neN, pIn_n, pIx_n, w_isGone hr hw]
    by_cases g1 : fa a k 2 = iN (-1) <;> simp [g1, e1, bI, w_oneIf, zb_0, zb_1, z10, z00, nN_add, q_iconst, q_istore1, q_istore2, q_nop, q_iload2, q_aload0, q_aload0N, q_get_i, pTag_1, pRf_s, q_ic_ge, q_iload1, q_invv1, inv_1, q_if_ne, q_goto, q_invs1_21, q_iadd, q_iinc2, q_iret, e_151_0, e_151_2, e_151_3, e_151_4, L_0, L_1, k_some, k_none, pRm_i, pRm_r, pRm_0, pF_1, pF_2, inv_s]
end RI
section RJ
variable {d t u : Nat} {a : Nat → Int32} {M : pMem} {Q : pOut → pMem → Prop}
/-- one after another, what is added goes on behind what was there -/
theorem lp_plus {g : Nat → Int32} : ∀ (j k : Nat) (c s : Int32), lp j k (c + s) (fun i x => x + g i) = c + lp j k s (fun i x => x + g i) := by
  intro j
  induction j with
  | zero => intro k c s; rfl
  | succ j ih =>
    intro k c s
    show lp j (k + 1) (c + s + g k) _ = c + lp j (k + 1) (s + g k) _
    rw [Int32.add_assoc]
    exact ih (k + 1) c (s + g k)
/-- RICH of all together -/
def sAll (a : Nat → Int32) : Int32 := lp (nP a) 0 (nN 0) fun q s => s + sRich a (nN q)
theorem w_richTogether (hr : Rep M t a) (hw : Wf a) : mw (d + 3) 163 [.ref (t + 1)] M Q = Q (.inl (some (.int (sAll a)))) M := by
  have hp' := hw.p'
  simp (disch := omega) only [m_163, q_iconst, q_istore1, q_istore2, q_nop, q_iload2, q_aload0, q_aload0N, q_get_i, pTag_1, pRf_s, q_ic_ge, q_iload1, q_get_r, q_invs2_21, q_iadd, q_iinc2, q_goto, q_iret, e_163_0, e_163_2, L_0, L_1, k_some, k_none, pRm_i, pRm_r, pRm_0, pF_1, pF_2, inv_s]
  rw [lp_rule (n := nP a) (C := fun k s => ([some (.ref (t + 1)), some (.int s), some (.int (nN k))], [], M)) (f := fun q s => s + sRich a (nN q)) ?_ (nP a) 0 _ (by omega)]
  · rw [e_163_1]
    simp (disch := omega) only [q_iconst, q_istore1, q_istore2, q_nop, q_iload2, q_aload0, q_aload0N, q_get_i, pTag_1, pRf_s, q_ic_ge, q_iload1, q_get_r, q_invs2_21, q_iadd, q_iinc2, q_goto, q_iret, e_163_0, e_163_2, L_0, L_1, k_some, k_none, pRm_i, pRm_r, pRm_0, pF_1, pF_2, inv_s, hr.sh.k1, hr.np, hr.sh.q0, hr.sh.q1, hr.sh.q2, hr.sh.q3, hr.sh.q4, w_atN hr.sh.k2, w_atN hr.sh.k3, w_atN hr.sh.k4, w_atN hr.sh.k5, w_atN hr.sh.k6, hr.lim, hr.tmp, hr.near, hr.rich, hr.debt, hw.p, nN_le, nN_lt, nN_eq, nN_add, nN_mul, nN_lt0, nN_ge0, nN_gt0, nN_le0, nN_eq0, nN_eq1, nN_neN, pIn_n, pIx_n]
    simp [sAll]
  · intro k s hk
    rw [e_163_1]
    have e1 : ¬ nP a ≤ k := by omega
    simp (disch := omega) only [q_iconst, q_istore1, q_istore2, q_nop, q_iload2, q_aload0, q_aload0N, q_get_i, pTag_1, pRf_s, q_ic_ge, q_iload1, q_get_r, q_invs2_21, q_iadd, q_iinc2, q_goto, q_iret, e_163_0, e_163_2, L_0, L_1, k_some, k_none, pRm_i, pRm_r, pRm_0, pF_1, pF_2, inv_s, hr.sh.k1, hr.np, hr.sh.q0, hr.sh.q1, hr.sh.q2, hr.sh.q3, hr.sh.q4, w_atN hr.sh.k2, w_atN hr.sh.k3, w_atN hr.sh.k4, w_atN hr.sh.k5, w_atN hr.sh.k6, hr.lim, hr.tmp, hr.near, hr.rich, hr.debt, hw.p, nN_le, nN_lt, nN_eq, nN_add, nN_mul, nN_lt0, nN_ge0, nN_gt0, nN_le0, nN_eq0, nN_eq1, nN_neN, pIn_n, pIx_n]
    simp [e1]
end RJ
