/-! READERS, more -/
section RF
variable {d t u : Nat} {a : Nat → Int32} {M : pMem} {Q : pOut → pMem → Prop}
theorem nN_sub1 {n : Nat} : nN n - nN 1 = iN ((n : Int) - 1) := by
  show iN _ - iN _ = _
  rw [iN_sub]
  rfl
theorem w_isPerson {x : Int32} (h : ShM (gS M) (gP M) u) : mw (d + 2) 53 [.ref u, .int x] M Q = Q (.inl (some (.int (bI (nN 0 ≤ x ∧ x ≤ gI M (u + 1) 1 - nN 1))))) M := by
  simp (disch := omega) only [m_53, q_iload1, q_iconst, q_aload0, q_aload0N, q_get_r, pTag_1, pRf_s, q_iald, q_isub, q_invs3_20, q_zret, e_53_0, L_0, L_1, k_some, k_none, pRm_i, pRm_r, pRm_0, pF_1, pF_2, inv_s, h.k0, h.k1, h.p1, nN_le, nN_lt, nN_eq, nN_add, nN_mul, nN_lt0, nN_ge0, nN_gt0, nN_le0, nN_eq0, nN_eq1, nN_neN, pIn_n, pIx_n, w_isIn]
  simp [bI_z]
theorem w_isFavour {x : Int32} (h : ShM (gS M) (gP M) u) : mw (d + 2) 54 [.ref u, .int x] M Q = Q (.inl (some (.int (bI (nN 0 ≤ x ∧ x ≤ gI M (u + 1) 3 - nN 1))))) M := by
  simp (disch := omega) only [m_54, q_iload1, q_iconst, q_aload0, q_aload0N, q_get_r, pTag_1, pRf_s, q_iald, q_isub, q_invs3_20, q_zret, e_54_0, L_0, L_1, L_3, k_some, k_none, pRm_i, pRm_r, pRm_0, pF_1, pF_2, inv_s, h.k0, h.k1, h.p1, nN_le, nN_lt, nN_eq, nN_add, nN_mul, nN_lt0, nN_ge0, nN_gt0, nN_le0, nN_eq0, nN_eq1, nN_neN, pIn_n, pIx_n, w_isIn]
  simp [bI_z]
end RF
