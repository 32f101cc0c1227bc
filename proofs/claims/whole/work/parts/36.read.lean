/-! READERS -/
section RE
variable {d t u : Nat} {a : Nat → Int32} {M : pMem} {Q : pOut → pMem → Prop}
theorem w_isGone {f : Nat} (hr : Rep M t a) (hw : Wf a) (hf : f < nF a) : mw (d + 2) 146 [.ref (t + 7), .int (nN f)] M Q = Q (.inl (some (.int (bI (fa a f 2 = iN (-1)))))) M := by
  have hf' := hw.f'
  simp (disch := omega) only [m_146, q_aload0, q_aload0N, q_get_r, pTag_1, pRf_s, q_iload1, q_invs2_21, q_iconst, q_ic_ne, q_goto, q_nop, q_zret, e_146_0, e_146_1, e_146_2, L_0, L_1, k_some, k_none, pRm_i, pRm_r, pRm_0, pF_1, pF_2, inv_s, hr.sh.k7, hr.nf, hr.sh.r0, hr.sh.r1, hr.sh.r2, hr.sh.r3, hr.sh.r4, hr.sh.r5, hr.sh.r6, w_atN hr.sh.k8, w_atN hr.sh.k9, w_atN hr.sh.k10, w_atN hr.sh.k11, w_atN hr.sh.k12, w_atN hr.sh.k13, w_atN hr.sh.k14, hr.g, hr.h, hr.am, hr.hd, hr.en, hr.fc]
  by_cases h : fa a f 2 = iN (-1) <;> simp [h, bI, zb_0, zb_1]
theorem w_worth {f : Nat} {m : Int32} (hr : Rep M t a) (hw : Wf a) (hf : f < nF a) : mw (d + 2) 147 [.ref (t + 7), .int (nN f), .int m] M Q = Q (.inl (some (.int (sWorth (fa a f 1) (fa a f 3 + m))))) M := by
  have hf' := hw.f'
  simp (disch := omega) only [m_147, q_aload0, q_aload0N, q_get_r, pTag_1, pRf_s, q_iload1, q_invs2_21, q_sipush, q_imul, q_iload2, q_iadd, q_ishr, q_iret, e_147_0, L_1024, k_some, k_none, pRm_i, pRm_r, pRm_0, pF_1, pF_2, inv_s, hr.sh.k7, hr.nf, hr.sh.r0, hr.sh.r1, hr.sh.r2, hr.sh.r3, hr.sh.r4, hr.sh.r5, hr.sh.r6, w_atN hr.sh.k8, w_atN hr.sh.k9, w_atN hr.sh.k10, w_atN hr.sh.k11, w_atN hr.sh.k12, w_atN hr.sh.k13, w_atN hr.sh.k14, hr.g, hr.h, hr.am, hr.hd, hr.en, hr.fc]
  simp [sWorth]
theorem w_rowLength {f : Nat} (hr : Rep M t a) (hw : Wf a) (hf : f < nF a) : mw (d + 2) 148 [.ref (t + 7), .int (nN f)] M Q = Q (.inl (some (.int (nN (fD a f + 2))))) M := by
  have hf' := hw.f'
  obtain ⟨h1, h2, h3⟩ := hw.fD f hf
  simp (disch := omega) only [m_148, q_aload0, q_aload0N, q_get_r, pTag_1, pRf_s, q_iload1, q_invs2_21, q_iconst, q_iadd, q_iret, e_148_0, L_2, k_some, k_none, pRm_i, pRm_r, pRm_0, pF_1, pF_2, inv_s, hr.sh.k7, hr.nf, hr.sh.r0, hr.sh.r1, hr.sh.r2, hr.sh.r3, hr.sh.r4, hr.sh.r5, hr.sh.r6, w_atN hr.sh.k8, w_atN hr.sh.k9, w_atN hr.sh.k10, w_atN hr.sh.k11, w_atN hr.sh.k12, w_atN hr.sh.k13, w_atN hr.sh.k14, hr.g, hr.h, hr.am, hr.hd, hr.en, hr.fc, h2, nN_add]
  simp
theorem w_inRow {f k : Nat} (hr : Rep M t a) (hw : Wf a) (hf : f < nF a) (hk : k < 2147483648) : mw (d + 3) 149 [.ref (t + 7), .int (nN f), .int (nN k)] M Q = Q (.inl (some (.int (if k < fD a f + 2 then fa a f (7 + k) else iN (-1))))) M := by
  have hf' := hw.f'
  obtain ⟨h1, h2, h3⟩ := hw.fD f hf
  have hrow := hr.row f k hf
  by_cases h : k < fD a f + 2
  · have e : f * 12 + k = 12 * f + k := by omega
    simp (disch := omega) only [m_149, q_iload2, q_if_lt, q_aload0, q_aload0N, q_iload1, q_invv1, inv_1, q_ic_ge, q_get_r, pTag_1, pRf_s, q_bipush, q_imul, q_iadd, q_invs2_21, q_goto, q_iconst, q_nop, q_iret, e_149_0, e_149_1, e_149_2, L_12, k_some, k_none, pRm_i, pRm_r, pRm_0, pF_1, pF_2, inv_s, hr.sh.k7, hr.nf, hr.sh.r0, hr.sh.r1, hr.sh.r2, hr.sh.r3, hr.sh.r4, hr.sh.r5, hr.sh.r6, w_atN hr.sh.k8, w_atN hr.sh.k9, w_atN hr.sh.k10, w_atN hr.sh.k11, w_atN hr.sh.k12, w_atN hr.sh.k13, w_atN hr.sh.k14, hr.g, hr.h, hr.am, hr.hd, hr.en, hr.fc, w_rowLength hr hw, nN_le, nN_lt, nN_eq, nN_add, nN_mul, nN_lt0, nN_ge0, nN_gt0, nN_le0, nN_eq0, nN_eq1, nN_neN, pIn_n, pIx_n, e, hrow]
    have h9 : ¬ fD a f + 2 ≤ k := by omega
    simp [h, h9]
  · simp (disch := omega) only [m_149, q_iload2, q_if_lt, q_aload0, q_aload0N, q_iload1, q_invv1, inv_1, q_ic_ge, q_get_r, pTag_1, pRf_s, q_bipush, q_imul, q_iadd, q_invs2_21, q_goto, q_iconst, q_nop, q_iret, e_149_0, e_149_1, e_149_2, L_12, k_some, k_none, pRm_i, pRm_r, pRm_0, pF_1, pF_2, inv_s, hr.sh.k7, hr.nf, hr.sh.r0, hr.sh.r1, hr.sh.r2, hr.sh.r3, hr.sh.r4, hr.sh.r5, hr.sh.r6, w_atN hr.sh.k8, w_atN hr.sh.k9, w_atN hr.sh.k10, w_atN hr.sh.k11, w_atN hr.sh.k12, w_atN hr.sh.k13, w_atN hr.sh.k14, hr.g, hr.h, hr.am, hr.hd, hr.en, hr.fc, w_rowLength hr hw, nN_le, nN_lt, nN_eq, nN_add, nN_mul, nN_lt0, nN_ge0, nN_gt0, nN_le0, nN_eq0, nN_eq1, nN_neN, pIn_n, pIx_n]
    have h9 : fD a f + 2 ≤ k := by omega
    simp [h, h9]
theorem w_isThere {x : Int32} (hr : Rep M t a) (hw : Wf a) : mw (d + 1) 159 [.ref (t + 1), .int x] M Q = Q (.inl (some (.int (bI (0 ≤ x ∧ x < nN (nP a)))))) M := by
  simp (disch := omega) only [m_159, q_iload1, q_if_lt, q_aload0, q_aload0N, q_get_i, pTag_1, pRf_s, q_ic_ge, q_iconst, q_goto, q_nop, q_zret, e_159_0, e_159_1, e_159_2, L_0, L_1, hr.sh.k1, hr.np, hr.sh.q0, hr.sh.q1, hr.sh.q2, hr.sh.q3, hr.sh.q4, w_atN hr.sh.k2, w_atN hr.sh.k3, w_atN hr.sh.k4, w_atN hr.sh.k5, w_atN hr.sh.k6, hr.lim, hr.tmp, hr.near, hr.rich, hr.debt, hw.p]
  by_cases h1 : x < 0
  · have h3 : ¬ 0 ≤ x := Int32.not_le.mpr h1
    simp [h1, h3, bI, zb_0]
  · have h3 : 0 ≤ x := Int32.not_lt.mp h1
    by_cases h2 : nN (nP a) ≤ x
    · have h4 : ¬ x < nN (nP a) := Int32.not_lt.mpr h2
      simp [h1, h2, h3, h4, bI, zb_0]
    · have h4 : x < nN (nP a) := Int32.not_le.mp h2
      simp [h1, h2, h3, h4, bI, zb_1]
theorem w_isIn {x y z : Int32} : mw (d + 1) 52 [.int x, .int y, .int z] M Q = Q (.inl (some (.int (bI (y ≤ x ∧ x ≤ z))))) M := by
  simp (disch := omega) only [m_52, q_iload0, q_iload1, q_ic_lt, q_iload2, q_ic_gt, q_iconst, q_goto, q_nop, q_zret, e_52_0, e_52_1, e_52_2, L_0, L_1]
  by_cases h1 : x < y <;> by_cases h2 : z < x <;> simp [h1, h2, bI, zb_0, zb_1, ← Int32.not_lt]
theorem w_worthOf {x y : Int32} : mw (d + 1) 81 [.int x, .int y] M Q = Q (.inl (some (.int (sWorth x y)))) M := by
  simp (disch := omega) only [m_81, q_iload0, q_sipush, q_imul, q_iload1, q_ishr, q_iret, e_81_0, L_1024]
  simp [sWorth]
theorem w_held {f : Nat} {q : Int32} (hr : Rep M t a) (hw : Wf a) (hf : f < nF a) : mw (d + 2) 150 [.ref (t + 7), .int (nN f), .int q] M Q = Q (.inl (some (.int (bI (∃ k, k < fD a f + 1 ∧ fa a f (8 + k) = q))))) M := by
  have hf' := hw.f'
  obtain ⟨h1, h2, h3⟩ := hw.fD f hf
  have key : ∀ j k : Nat, k + j = fD a f + 1 → (∀ i, i < k → ¬ fa a f (8 + i) = q) → bw (d + 1) 150 1 ([some (.ref (t + 7)), some (.int (nN f)), some (.int q), some (.int (nN (k + 1)))], [], M) Q = Q (.inl (some (.int (bI (∃ i, i < fD a f + 1 ∧ fa a f (8 + i) = q))))) M := by
    intro j
    induction j with
    | zero =>
      intro k hk hn
      have e : ¬ ∃ i, i < fD a f + 1 ∧ fa a f (8 + i) = q := by
        rintro ⟨i, h5, h6⟩
        exact hn i (by omega) h6
      have e2 : fD a f + 2 ≤ k + 1 := by omega
      rw [e_150_1]
      simp (disch := omega) only [q_iconst, q_istore3, q_nop, q_iload3, q_aload0, q_aload0N, q_get_r, pTag_1, pRf_s, q_iload1, q_invs2_21, q_iadd, q_ic_ge, q_bipush, q_imul, q_iload2, q_ic_ne, q_zret, q_iinc3, q_goto, e_150_0, e_150_2, e_150_3, L_0, L_1, L_2, L_12, k_some, k_none, pRm_i, pRm_r, pRm_0, pF_1, pF_2, inv_s, hr.sh.k7, hr.nf, hr.sh.r0, hr.sh.r1, hr.sh.r2, hr.sh.r3, hr.sh.r4, hr.sh.r5, hr.sh.r6, w_atN hr.sh.k8, w_atN hr.sh.k9, w_atN hr.sh.k10, w_atN hr.sh.k11, w_atN hr.sh.k12, w_atN hr.sh.k13, w_atN hr.sh.k14, hr.g, hr.h, hr.am, hr.hd, hr.en, hr.fc, nN_le, nN_lt, nN_eq, nN_add, nN_mul, nN_lt0, nN_ge0, nN_gt0, nN_le0, nN_eq0, nN_eq1, nN_neN, pIn_n, pIx_n, h2]
      simp [bI, e, e2]
    | succ j ih =>
      intro k hk hn
      have hrow := hr.row f (k + 1) hf (by omega)
      have e1 : f * 12 + (k + 1) = 12 * f + (k + 1) := by omega
      have e2 : ¬ fD a f + 2 ≤ k + 1 := by omega
      have e3 : 7 + (k + 1) = 8 + k := by omega
      rw [e_150_1]
      by_cases h : fa a f (8 + k) = q
      · have e4 : ∃ i, i < fD a f + 1 ∧ fa a f (8 + i) = q := ⟨k, by omega, h⟩
        simp (disch := omega) only [q_iconst, q_istore3, q_nop, q_iload3, q_aload0, q_aload0N, q_get_r, pTag_1, pRf_s, q_iload1, q_invs2_21, q_iadd, q_ic_ge, q_bipush, q_imul, q_iload2, q_ic_ne, q_zret, q_iinc3, q_goto, e_150_0, e_150_2, e_150_3, L_0, L_1, L_2, L_12, k_some, k_none, pRm_i, pRm_r, pRm_0, pF_1, pF_2, inv_s, hr.sh.k7, hr.nf, hr.sh.r0, hr.sh.r1, hr.sh.r2, hr.sh.r3, hr.sh.r4, hr.sh.r5, hr.sh.r6, w_atN hr.sh.k8, w_atN hr.sh.k9, w_atN hr.sh.k10, w_atN hr.sh.k11, w_atN hr.sh.k12, w_atN hr.sh.k13, w_atN hr.sh.k14, hr.g, hr.h, hr.am, hr.hd, hr.en, hr.fc, nN_le, nN_lt, nN_eq, nN_add, nN_mul, nN_lt0, nN_ge0, nN_gt0, nN_le0, nN_eq0, nN_eq1, nN_neN, pIn_n, pIx_n, h2, e1, hrow, e3]
        simp [bI, h, e4, e2]
      · have hn' : ∀ i, i < k + 1 → ¬ fa a f (8 + i) = q := by
          intro i hi
          rcases Nat.lt_or_ge i k with h8 | h8
          · exact hn i h8
          · have : i = k := by omega
            subst this
            exact h
        simp (disch := omega) only [q_iconst, q_istore3, q_nop, q_iload3, q_aload0, q_aload0N, q_get_r, pTag_1, pRf_s, q_iload1, q_invs2_21, q_iadd, q_ic_ge, q_bipush, q_imul, q_iload2, q_ic_ne, q_zret, q_iinc3, q_goto, e_150_0, e_150_2, e_150_3, L_0, L_1, L_2, L_12, k_some, k_none, pRm_i, pRm_r, pRm_0, pF_1, pF_2, inv_s, hr.sh.k7, hr.nf, hr.sh.r0, hr.sh.r1, hr.sh.r2, hr.sh.r3, hr.sh.r4, hr.sh.r5, hr.sh.r6, w_atN hr.sh.k8, w_atN hr.sh.k9, w_atN hr.sh.k10, w_atN hr.sh.k11, w_atN hr.sh.k12, w_atN hr.sh.k13, w_atN hr.sh.k14, hr.g, hr.h, hr.am, hr.hd, hr.en, hr.fc, nN_le, nN_lt, nN_eq, nN_add, nN_mul, nN_lt0, nN_ge0, nN_gt0, nN_le0, nN_eq0, nN_eq1, nN_neN, pIn_n, pIx_n, h2, e1, hrow, e3, ih (k + 1) (by omega) hn']
        simp [h, e2]
  simp only [m_150, q_iconst, q_istore3, q_nop, q_iload3, q_aload0, q_aload0N, q_get_r, pTag_1, pRf_s, q_iload1, q_invs2_21, q_iadd, q_ic_ge, q_bipush, q_imul, q_iload2, q_ic_ne, q_zret, q_iinc3, q_goto, e_150_0, e_150_2, e_150_3, L_0, L_1, L_2, L_12, k_some, k_none, pRm_i, pRm_r, pRm_0, pF_1, pF_2, inv_s]
  rw [key (fD a f + 1) 0 (by omega) (fun i hi => by omega)]
theorem w_richOf {x : Int32} (h : ShM (gS M) (gP M) u) (hw : Wf (gI M (u + 1))) : mw (d + 2) 82 [.ref u, .int x] M Q = Q (.inl (some (.int (sRich (gI M (u + 1)) x)))) M := by
  have hf := hw.f'
  simp only [m_82, q_iconst, q_istore2, q_istore3, q_nop, q_iload3, q_aload0, q_aload0N, q_get_r, pTag_1, pRf_s, q_iald, q_ic_ge, q_iload2, q_invv2, inv_1, q_iload1, q_ic_ne, q_invs2_20, q_goto, q_iadd, q_iinc3, q_iret, e_82_0, e_82_2, e_82_3, e_82_4, L_0, L_1, L_2, L_3, k_some, k_none, pRm_i, pRm_r, pRm_0, pF_1, pF_2, inv_s]
  rw [lp_rule (n := nF (gI M (u + 1))) (C := fun k s => ([some (.ref u), some (.int x), some (.int s), some (.int (nN k))], [], M)) (f := fun f s => s + if fa (gI M (u + 1)) f 2 = x then sWorth (fa (gI M (u + 1)) f 1) (fa (gI M (u + 1)) f 3) else nN 0) ?_ (nF (gI M (u + 1))) 0 _ (by omega)]
  · rw [e_82_1]
    simp (disch := omega) only [q_iconst, q_istore2, q_istore3, q_nop, q_iload3, q_aload0, q_aload0N, q_get_r, pTag_1, pRf_s, q_iald, q_ic_ge, q_iload2, q_invv2, inv_1, q_iload1, q_ic_ne, q_invs2_20, q_goto, q_iadd, q_iinc3, q_iret, e_82_0, e_82_2, e_82_3, e_82_4, L_0, L_1, L_2, L_3, k_some, k_none, pRm_i, pRm_r, pRm_0, pF_1, pF_2, inv_s, h.k0, h.k1, h.p1, hw.f, pIn_n, pIx_n, nN_le]
    simp [sRich]
  · intro k s hk
    rw [e_82_1]
    have hk1 : ¬ nF (gI M (u + 1)) ≤ k := by omega
    simp (disch := omega) only [q_iconst, q_istore2, q_istore3, q_nop, q_iload3, q_aload0, q_aload0N, q_get_r, pTag_1, pRf_s, q_iald, q_ic_ge, q_iload2, q_invv2, inv_1, q_iload1, q_ic_ne, q_invs2_20, q_goto, q_iadd, q_iinc3, q_iret, e_82_0, e_82_2, e_82_3, e_82_4, L_0, L_1, L_2, L_3, k_some, k_none, pRm_i, pRm_r, pRm_0, pF_1, pF_2, inv_s, h.k0, h.k1, h.p1, hw.f, pIn_n, pIx_n, nN_le, nN_add, w_of h, w_worthOf]
    by_cases h1 : fa (gI M (u + 1)) k 2 = x <;> simp [hk1, h1]
theorem w_debtOf {x : Int32} (h : ShM (gS M) (gP M) u) (hw : Wf (gI M (u + 1))) : mw (d + 2) 83 [.ref u, .int x] M Q = Q (.inl (some (.int (sDebt (gI M (u + 1)) x)))) M := by
  have hf := hw.f'
  simp only [m_83, q_iconst, q_istore2, q_istore3, q_nop, q_iload3, q_aload0, q_aload0N, q_get_r, pTag_1, pRf_s, q_iald, q_ic_ge, q_iload2, q_invv2, inv_1, q_iload1, q_ic_ne, q_ic_eq, q_goto, q_iadd, q_iinc3, q_iret, e_83_0, e_83_2, e_83_3, e_83_4, L_0, L_1, L_2, L_3, k_some, k_none, pRm_i, pRm_r, pRm_0, pF_1, pF_2, inv_s]
  rw [lp_rule (n := nF (gI M (u + 1))) (C := fun k s => ([some (.ref u), some (.int x), some (.int s), some (.int (nN k))], [], M)) (f := fun f s => s + if fa (gI M (u + 1)) f 0 = x ∧ fa (gI M (u + 1)) f 2 ≠ iN (-1) then fa (gI M (u + 1)) f 1 else nN 0) ?_ (nF (gI M (u + 1))) 0 _ (by omega)]
  · rw [e_83_1]
    simp (disch := omega) only [q_iconst, q_istore2, q_istore3, q_nop, q_iload3, q_aload0, q_aload0N, q_get_r, pTag_1, pRf_s, q_iald, q_ic_ge, q_iload2, q_invv2, inv_1, q_iload1, q_ic_ne, q_ic_eq, q_goto, q_iadd, q_iinc3, q_iret, e_83_0, e_83_2, e_83_3, e_83_4, L_0, L_1, L_2, L_3, k_some, k_none, pRm_i, pRm_r, pRm_0, pF_1, pF_2, inv_s, h.k0, h.k1, h.p1, hw.f, pIn_n, pIx_n, nN_le]
    simp [sDebt]
  · intro k s hk
    rw [e_83_1]
    have hk1 : ¬ nF (gI M (u + 1)) ≤ k := by omega
    simp (disch := omega) only [q_iconst, q_istore2, q_istore3, q_nop, q_iload3, q_aload0, q_aload0N, q_get_r, pTag_1, pRf_s, q_iald, q_ic_ge, q_iload2, q_invv2, inv_1, q_iload1, q_ic_ne, q_ic_eq, q_goto, q_iadd, q_iinc3, q_iret, e_83_0, e_83_2, e_83_3, e_83_4, L_0, L_1, L_2, L_3, k_some, k_none, pRm_i, pRm_r, pRm_0, pF_1, pF_2, inv_s, h.k0, h.k1, h.p1, hw.f, pIn_n, pIx_n, nN_le, nN_add, w_of h]
    by_cases h1 : fa (gI M (u + 1)) k 0 = x <;> by_cases h2 : fa (gI M (u + 1)) k 2 = iN (-1) <;> simp [hk1, h1, h2]
end RE
