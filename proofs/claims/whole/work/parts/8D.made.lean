/-! A TEMPER IS MADE -/
def Gw (M M' : pMem) (c s : Nat) : Prop := (gN M' = gN M + c ∧ gL M' = gL M + s) ∧ ∀ h, (h < gN M ∨ gN M + c ≤ h) → gS M' h = gS M h ∧ gP M' h = gP M h ∧ gI M' h = gI M h ∧ gJ M' h = gJ M h
section MA
variable {d t n u q m c s src R cr : Nat} {a a' ak : Nat → Int32} {b : Nat → Nat} {M M1 M2 M' : pMem} {Q : pOut → pMem → Prop} {h k : Nat} {cs : List Nat}
theorem Gw.ex (G : Gw M M' c s) (hF : Fr M) (hN : gN M + c ≤ 900000) : Ex M M' := by
  refine ⟨by rw [G.1.1]; omega, fun h z => ?_⟩
  have h1 : h < gN M ∨ gN M + c ≤ h := by
    by_cases c1 : h < gN M
    · exact Or.inl c1
    · by_cases c2 : h < 900000
      · exact absurd (hF.2 h (by omega) c2) z
      · exact Or.inr (by omega)
  exact G.2 h h1
theorem Gw.fr (G : Gw M M' c s) (hF : Fr M) : Fr M' := by
  refine ⟨by have := hF.1; rw [G.1.1]; omega, fun h h1 h2 => ?_⟩
  rw [G.1.1] at h1
  rw [(G.2 h (Or.inr h1)).1]
  exact hF.2 h (by omega) h2
theorem gS_nw {t n w : Nat} : gS (nw M t n w) h = if h = gN M then (t, n) else gS M h := rfl
theorem gN_nw {t n w : Nat} : gN (nw M t n w) = gN M + 1 := rfl
theorem gL_nw {t n w : Nat} : gL (nw M t n w) = gL M + w := rfl
theorem gI_nwE {t n w : Nat} (z : h ≠ gN M) : gI (nw M t n w) h = gI M h := by
  show upR (gI M) (gN M) (fun _ => 0) h = gI M h
  unfold upR; rw [if_neg z]
theorem gP_nwE {t n w : Nat} (z : h ≠ gN M) : gP (nw M t n w) h = gP M h := by
  show upR (gP M) (gN M) (fun _ => none) h = gP M h
  unfold upR; rw [if_neg z]
theorem gJ_nwE {t n w : Nat} (z : h ≠ gN M) : gJ (nw M t n w) h = gJ M h := by
  show upR (gJ M) (gN M) (fun _ => 0) h = gJ M h
  unfold upR; rw [if_neg z]
theorem gI_sRE {r : Nat → Int32} (z : k ≠ h) : gI (sR M h r) k = gI M k := by
  funext j
  rw [gI_sR, if_neg z]
theorem w_copyOf (hs : gS M src = (100, 400)) (hm : m < 400) (hne : src ≠ gN M) : mw (d + 1) 278 [.ref src, .int (nN m)] M (fun o M' => o = .inl (some (.ref (gN M))) ∧ Gw M M' 1 m ∧ gS M' (gN M) = (100, m) ∧ ∀ i, i < m → gI M' (gN M) i = gI M src i) := by
  have e1 : iN ((400 : Nat) : Int) = nN 400 := rfl
  have e2 : (nN m).toInt = m := nN_toInt (by omega)
  have e3 : (nN 0).toInt = 0 := nN_toInt (by omega)
  have e4 : ¬ m = 400 := by omega
  have p1 : pIx (nN 0) = 0 := pIx_n (by omega)
  have p2 : pIx (nN m) = m := pIx_n (by omega)
  have s1 : gS (nw M 100 m m) src = (100, 400) := by rw [gS_nw, if_neg hne]; exact hs
  have s2 : gS (nw M 100 m m) (gN M) = (100, m) := by rw [gS_nw, if_pos rfl]
  have g1 : (0 : Int) ≤ (m : Int) := by omega
  have g2 : (m : Int) < 1000000 := by omega
  have g3 : m ≤ 400 := by omega
  have hne2 : ¬ gN M = src := fun z => hne z.symm
  simp (disch := omega) only [m_278, q_iload1, q_aload0, q_aload0N, q_alen, q_ic_ne, q_newa, q_astore2, q_astore2N, q_iconst, q_aload2, q_aload2N, q_min, q_cpy, q_aret_r, q_aret_n, e_278_0, L_0, hs, e1, e4, nN_le, nN_lt, nN_eq, nN_add, nN_mul, nN_lt0, nN_ge0, nN_gt0, nN_le0, nN_eq0, nN_eq1, nN_neN, pIn_n, pIx_n, eq_self, Nat.reduceLT, Bool.false_eq_true, Nat.add_zero, Nat.zero_add, Nat.reduceAdd, Nat.reduceMul, Nat.reduceSub, Nat.zero_le, Nat.reduceLeDiff, Nat.reduceEqDiff, Nat.le_refl, not_false_eq_true, not_true_eq_false, false_implies, true_implies, forall_const, true_and, and_true, if_true, if_false, implies_true, and_self, ne_eq, false_and, and_false, or_false, false_or, true_or, or_true]
  rw [e_278_1]
  simp (disch := omega) only [q_iload1, q_aload0, q_aload0N, q_alen, q_ic_ne, q_newa, q_astore2, q_astore2N, q_iconst, q_aload2, q_aload2N, q_min, q_cpy, q_aret_r, q_aret_n, e_278_0, L_0, q_newa (i9 := 0), Int.le_refl, hs, s1, s2, e1, e2, e3, p1, p2, g1, g2, g3, hm, hne, hne2, pRm_i, pRm_r, pRm_0, nN_le, nN_lt, nN_eq, nN_add, nN_mul, nN_lt0, nN_ge0, nN_gt0, nN_le0, nN_eq0, nN_eq1, nN_neN, pIn_n, pIx_n, eq_self, Nat.reduceLT, Bool.false_eq_true, Nat.add_zero, Nat.zero_add, Nat.reduceAdd, Nat.reduceMul, Nat.reduceSub, Nat.zero_le, Nat.reduceLeDiff, Nat.reduceEqDiff, Nat.le_refl, not_false_eq_true, not_true_eq_false, false_implies, true_implies, forall_const, true_and, and_true, if_true, if_false, implies_true, and_self, ne_eq, false_and, and_false, or_false, false_or, true_or, or_true]
  refine ⟨⟨⟨rfl, rfl⟩, fun h z => ?_⟩, ?_, fun i hi => ?_⟩
  rotate_left
  · exact s2
  rotate_left
  --, fun i hi => ?_⟩
  · have z1 : h ≠ gN M := by omega
    refine ⟨?_, gP_nwE z1, ?_, gJ_nwE z1⟩
    · show gS (nw M 100 m m) h = _
      rw [gS_nw, if_neg z1]
    · rw [gI_sRE z1, gI_nwE z1]
  · rw [gI_sR, if_pos rfl]
    unfold va_cpy
    rw [if_pos (by omega), Nat.zero_add, Nat.sub_zero, gI_nwE hne]
theorem w_made (a1 : (gS M R).1 = 8) (a2 : gP M R 10 = some cr) (a3 : gS M cr = (100, 400)) (a4 : gI M R 11 = nN m) (hm : m < 400) (hR : R < gN M) (hc : cr < gN M) :
    mw (d + 3) 207 [.ref R] M (fun o M' => o = .inl (some (.ref (gN M))) ∧ Gw M M' 3 (3 + 20 + m) ∧ gS M' (gN M) = (7, 0) ∧ gS M' (gN M + 1) = (100, 20) ∧ gS M' (gN M + 2) = (100, m) ∧ gP M' (gN M) 0 = some (gN M + 2) ∧ gP M' (gN M) 1 = some (gN M + 1) ∧ ∀ i, i < m → gI M' (gN M + 2) i = gI M cr i) := by
  have z1 : R ≠ gN M := by omega
  have z2 : ¬ R = gN M := z1
  have zc : cr ≠ gN M := by omega
  have zc1 : cr ≠ gN M + 1 := by omega
  have zc2 : cr ≠ gN M + 1 + 1 := by omega
  have z3 : gN M ≠ gN M + 1 := by omega
  have e1 : iN ((400 : Nat) : Int) = nN 400 := rfl
  have e20 : (nN 20).toInt = 20 := nN_toInt (by omega)
  have p20 : pIx (nN 20) = 20 := pIx_n (by omega)
  have b1 : gP (nw M 7 0 3) R 10 = some cr := by rw [gP_nwE z1]; exact a2
  have b2 : gI (nw M 7 0 3) R 11 = nN m := by rw [gI_nwE z1]; exact a4
  have b3 : (gS (nw M 7 0 3) R).1 = 8 := by rw [gS_nw, if_neg z2]; exact a1
  have b4 : gS (nw M 7 0 3) (gN M) = (7, 0) := by rw [gS_nw, if_pos rfl]
  have b5 : gN (nw M 7 0 3) = gN M + 1 := rfl
  have c4 : gS (nw (nw M 7 0 3) 100 20 20) (gN M) = (7, 0) := by rw [gS_nw, b5, if_neg z3]; exact b4
  have c3 : gS (nw (nw M 7 0 3) 100 20 20) cr = (100, 400) := by rw [gS_nw, b5, if_neg zc1, gS_nw, if_neg zc]; exact a3
  have i1 : (if 0 < m then nN m else nN 0) = nN m := by
    by_cases c : 0 < m
    · rw [if_pos c]
    · rw [if_neg c, show m = 0 from by omega]
  have i2 : (if 400 < m then nN 400 else nN m) = nN m := if_neg (by omega)
  simp (disch := omega) only [m_207, q_new, q_dup_i, q_dup_r, q_aload0, q_aload0N, q_get_r, pTag_1, pRf_s, q_get_i, q_invi2_14, inv_1, q_aret_r, q_aret_n, e_207_0, k_some, k_none, pRm_i, pRm_r, pRm_0, pF_1, pF_2, inv_s, b1, b2, b3, b4, pF_1, inv_s, pRm_i, pRm_r, pRm_0, nN_le, nN_lt, nN_eq, nN_add, nN_mul, nN_lt0, nN_ge0, nN_gt0, nN_le0, nN_eq0, nN_eq1, nN_neN, pIn_n, pIx_n, eq_self, Nat.reduceLT, Bool.false_eq_true, Nat.add_zero, Nat.zero_add, Nat.reduceAdd, Nat.reduceMul, Nat.reduceSub, Nat.zero_le, Nat.reduceLeDiff, Nat.reduceEqDiff, Nat.le_refl, not_false_eq_true, not_true_eq_false, false_implies, true_implies, forall_const, true_and, and_true, if_true, if_false, implies_true, and_self, ne_eq, false_and, and_false, or_false, false_or, true_or, or_true]
  simp (disch := omega) only [m_200, q_aload0, q_aload0N, q_obj, q_bipush, q_newa, q_put_r, pTag_1, q_aload1, q_aload1N, q_iconst, q_iload2, q_alen, q_min, q_max, q_invs2_20, q_vret, e_200_0, L_0, L_20, k_some, k_none, pRm_i, pRm_r, pRm_0, pF_1, pF_2, inv_s, q_newa (i9 := 0), b4, b5, e20, p20, c4, c3, e1, pRm_i, pRm_r, pRm_0, gS_sP, nN_le, nN_lt, nN_eq, nN_add, nN_mul, nN_lt0, nN_ge0, nN_gt0, nN_le0, nN_eq0, nN_eq1, nN_neN, pIn_n, pIx_n, eq_self, Nat.reduceLT, Bool.false_eq_true, Nat.add_zero, Nat.zero_add, Nat.reduceAdd, Nat.reduceMul, Nat.reduceSub, Nat.zero_le, Nat.reduceLeDiff, Nat.reduceEqDiff, Nat.le_refl, not_false_eq_true, not_true_eq_false, false_implies, true_implies, forall_const, true_and, and_true, if_true, if_false, implies_true, and_self, ne_eq, false_and, and_false, or_false, false_or, true_or, or_true]
  have y2 : (if nN 0 < if 400 < m then nN 400 else nN m then if 400 < m then nN 400 else nN m else nN 0) = nN m := by
    simp (disch := omega) only [i2, nN_lt, i1]
  rw [y2]
  refine ⟨by omega, ?_⟩
  have f1 : gN (sP (nw (nw M 7 0 3) 100 20 20) (gN M) 1 (some (gN M + 1))) = gN M + 2 := rfl
  have f2 : gL (sP (nw (nw M 7 0 3) 100 20 20) (gN M) 1 (some (gN M + 1))) = gL M + 3 + 20 := rfl
  refine mw_mono (w_copyOf (src := cr) (m := m) c3 hm (by rw [f1]; omega)) ?_
  rintro _ M3 ⟨rfl, G3, s3, v3⟩
  rw [f1] at s3 v3
  have o3 : ∀ h, h < gN M + 2 ∨ gN M + 3 ≤ h → gS M3 h = gS (nw (nw M 7 0 3) 100 20 20) h ∧ gP M3 h = gP (sP (nw (nw M 7 0 3) 100 20 20) (gN M) 1 (some (gN M + 1))) h ∧ gI M3 h = gI (nw (nw M 7 0 3) 100 20 20) h ∧ gJ M3 h = gJ (nw (nw M 7 0 3) 100 20 20) h := fun h z => G3.2 h (by rw [f1]; omega)
  have k3 : (gS M3 (gN M)).1 = 7 := by rw [(o3 _ (by omega)).1, c4]
  simp (disch := omega) only [q_aload0, q_aload0N, q_obj, q_bipush, q_newa, q_put_r, pTag_1, q_aload1, q_aload1N, q_iconst, q_iload2, q_alen, q_min, q_max, q_invs2_20, q_vret, e_200_0, L_0, L_20, k_some, k_none, pRm_i, pRm_r, pRm_0, pF_1, pF_2, inv_s, q_new, q_dup_i, q_dup_r, q_aload0, q_aload0N, q_get_r, pTag_1, pRf_s, q_get_i, q_invi2_14, inv_1, q_aret_r, q_aret_n, e_207_0, k_some, k_none, pRm_i, pRm_r, pRm_0, pF_1, pF_2, inv_s, f1, k3, gS_sP, nN_le, nN_lt, nN_eq, nN_add, nN_mul, nN_lt0, nN_ge0, nN_gt0, nN_le0, nN_eq0, nN_eq1, nN_neN, pIn_n, pIx_n, eq_self, Nat.reduceLT, Bool.false_eq_true, Nat.add_zero, Nat.zero_add, Nat.reduceAdd, Nat.reduceMul, Nat.reduceSub, Nat.zero_le, Nat.reduceLeDiff, Nat.reduceEqDiff, Nat.le_refl, not_false_eq_true, not_true_eq_false, false_implies, true_implies, forall_const, true_and, and_true, if_true, if_false, implies_true, and_self, ne_eq, false_and, and_false, or_false, false_or, true_or, or_true]
  refine ⟨⟨⟨?_, ?_⟩, fun h z => ?_⟩, ?_, ?_, ?_, ?_, ?_, ?_⟩
  · show gN M3 = _
    rw [G3.1.1, f1]
  · show gL M3 = _
    rw [G3.1.2, f2]; omega
  · obtain ⟨q1, q2, q3, q4⟩ := o3 h (by omega)
    have y0 : h ≠ gN M := by omega
    have y1 : h ≠ gN (nw M 7 0 3) := by rw [b5]; omega
    refine ⟨?_, ?_, ?_, ?_⟩
    · show gS M3 h = _
      rw [q1, gS_nw, if_neg y1, gS_nw, if_neg y0]
    · funext j
      rw [gP_sP, if_neg (fun z => y0 z.1), q2, gP_sP, if_neg (fun z => y0 z.1), gP_nwE y1, gP_nwE y0]
    · show gI M3 h = _
      rw [q3, gI_nwE y1, gI_nwE y0]
    · show gJ M3 h = _
      rw [q4, gJ_nwE y1, gJ_nwE y0]
  · show gS M3 _ = _
    rw [(o3 _ (by omega)).1, c4]
  · show gS M3 _ = _
    rw [(o3 _ (by omega)).1, gS_nw, b5, if_pos rfl]
  · exact s3
  · rw [gP_sP, if_pos ⟨rfl, rfl⟩]
  · rw [gP_sP, if_neg (by omega), (o3 _ (by omega)).2.1, gP_sP, if_pos ⟨rfl, rfl⟩]
  · intro i hi
    show gI M3 _ i = _
    rw [v3 i hi]
    show gI (nw (nw M 7 0 3) 100 20 20) cr i = _
    rw [gI_nwE (by rw [b5]; omega), gI_nwE (by omega)]
end MA
