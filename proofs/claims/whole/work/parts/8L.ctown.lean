/-! THE CLASS'S TOWN: a person more, who is near, a need more, the law -/
section CT9
variable {d t n u q m c s p x y v k K : Nat} {a a' ak : Nat → Int32} {img : Bool} {b b' : Nat → Nat} {fl fl' : Int32} {M M1 M2 M3 M' : pMem} {Q : pOut → pMem → Prop}
theorem lp_zero : ∀ (j k : Nat) (s : Int32) (f : Nat → Int32), (∀ i, k ≤ i → i < k + j → f i = nN 0) → lp j k s (fun i s => s + f i) = s := by
  intro j
  induction j with
  | zero => intro k s f _; rfl
  | succ j ih =>
    intro k s f h
    show lp j (k + 1) (s + f k) _ = s
    rw [h k (by omega) (by omega), add_n0]
    exact ih (k + 1) s f (fun i h1 h2 => h i (by omega) (by omega))
theorem rich_new (hw : Wf a) : sRich a (nN (nP a)) = nN 0 := by
  have hp' := hw.p'
  refine lp_zero _ _ _ _ (fun i _ hi => if_neg ?_)
  rcases hw.fH i (by omega) with h | ⟨g, h1, h2⟩
  · rw [h]; intro z
    have := nN_neN (a := nP a) (by omega)
    rw [← z] at this; simp at this
  · rw [h2, nN_eq (by omega) (by omega)]; omega
theorem debt_new (hw : Wf a) : sDebt a (nN (nP a)) = nN 0 := by
  have hp' := hw.p'
  refine lp_zero _ _ _ _ (fun i _ hi => if_neg ?_)
  obtain ⟨g, h1, h2⟩ := hw.fG i (by omega)
  rintro ⟨z, -⟩
  rw [h2, nN_eq (by omega) (by omega)] at z; omega
theorem sT_ag {X : Nat → Nat → Prop} (h : ShT (gS M) (gP M) t) (A : Ag X M M') : ShT (gS M') (gP M') t := by rw [A.S, A.P]; exact h
theorem w_perAdd (hr : Rep M t a) (hw : Wf a) (hP : nP a < 12) : mw (d + 2) 160 [.ref (t + 1), .int (nN v)] M (fun o M' => o = .inl none ∧ Rep M' t (sPer a v) ∧ Ag (XTw (gS M) (gP M) t) M M') := by
  have s := hr.sh
  have hp := hr.np
  rw [hw.p] at hp
  simp (disch := first | omega | rfl | (repeat' (first | exact gS_sI | exact gP_sI | refine Eq.trans gS_sI ?_ | refine Eq.trans gP_sI ?_))) only [m_160, q_aload0, q_aload0N, q_get_r, pTag_1, pRf_s, q_get_i, q_iload1, q_invs3_21, q_iconst, q_dup_i, q_dup_r, q_iadd, q_put_i, q_vret, e_160_0, L_0, L_1, k_some, k_none, pRm_i, pRm_r, pRm_0, pF_1, pF_2, inv_s, s.k0, s.k1, s.k7, s.p0, s.p1, s.p2, s.p3, s.p4, s.p5, s.p6, s.p7, s.p8, s.q0, s.q1, s.q2, s.q3, s.q4, s.r0, s.r1, s.r2, s.r3, s.r4, s.r5, s.r6, w_atS s.k2, w_atS s.k3, w_atS s.k4, w_atS s.k5, w_atS s.k6, w_atS s.k8, w_atS s.k9, w_atS s.k10, w_atS s.k11, w_atS s.k12, w_atS s.k13, w_atS s.k14, w_atS s.k17, w_atS s.k18, w_atS s.k19, w_atS s.k20, w_atS s.k21, w_putS s.k2, w_putS s.k3, w_putS s.k4, w_putS s.k5, w_putS s.k6, w_putS s.k8, w_putS s.k9, w_putS s.k10, w_putS s.k11, w_putS s.k12, w_putS s.k13, w_putS s.k14, w_putS s.k17, w_putS s.k18, w_putS s.k19, w_putS s.k20, w_putS s.k21, w_addS s.k2, w_addS s.k3, w_addS s.k4, w_addS s.k5, w_addS s.k6, w_addS s.k8, w_addS s.k9, w_addS s.k10, w_addS s.k11, w_addS s.k12, w_addS s.k13, w_addS s.k14, w_addS s.k17, w_addS s.k18, w_addS s.k19, w_addS s.k20, w_addS s.k21, hp, gS_sI, gP_sI, gI_sI, Nat.add_left_cancel_iff, Nat.add_eq_left, Nat.left_eq_add, nN_le, nN_lt, nN_eq, nN_add, nN_mul, nN_lt0, nN_ge0, nN_gt0, nN_le0, nN_eq0, nN_eq1, nN_neN, pIn_n, pIx_n, eq_self, Nat.reduceLT, Bool.false_eq_true, Nat.add_zero, Nat.zero_add, Nat.reduceAdd, Nat.reduceMul, Nat.reduceSub, Nat.zero_le, Nat.reduceLeDiff, Nat.reduceEqDiff, Nat.le_refl, not_false_eq_true, not_true_eq_false, false_implies, true_implies, forall_const, true_and, and_true, if_true, if_false, implies_true, and_self, ne_eq, false_and, and_false, or_false, false_or, true_or, or_true]
  generalize hM : sI (sI (sI (sI (sI (sI M (t + 2) (nP a) (nN v)) (t + 3) (nP a) (iN (-1))) (t + 4) (nP a) (nN 0)) (t + 5) (nP a) (nN 0)) (t + 6) (nP a) (nN 0)) (t + 1) 5 (nN (nP a + 1)) = M9
  have A : Ag (fun h k => (h = t + 1 ∧ k = 5) ∨ ((t + 2 ≤ h ∧ h ≤ t + 6) ∧ k = nP a)) M M9 := by
    rw [← hM]
    exact Ag.put (Ag.put (Ag.put (Ag.put (Ag.put (Ag.one (Or.inr (by omega))) (Or.inr (by omega))) (Or.inr (by omega))) (Or.inr (by omega))) (Or.inr (by omega))) (Or.inl ⟨rfl, rfl⟩)
  have c : ∀ i, i < 7 → gI M9 (t + i) (nP a) = if i = 2 then nN v else if i = 3 then iN (-1) else if i = 4 then nN 0 else if i = 5 then nN 0 else if i = 6 then nN 0 else gI M9 (t + i) (nP a) := by
    intro i hi
    have : i = 0 ∨ i = 1 ∨ i = 2 ∨ i = 3 ∨ i = 4 ∨ i = 5 ∨ i = 6 := by omega
    rcases this with rfl | rfl | rfl | rfl | rfl | rfl | rfl <;> rw [← hM] <;> simp [gI_sI]
  have c5 : gI M9 (t + 1) 5 = nN (nP a + 1) := by rw [← hM]; simp [gI_sI]
  have eP := sPer_nP (v := v) hP
  have lo : ∀ j, (j < 10 ∨ 46 ≤ j) → j ≠ 1 → sPer a v j = a j := fun j g g1 => sPer_lo g g1 hP
  have eE : nE (sPer a v) = nE a := by unfold nE; rw [lo 4 (by omega) (by omega)]
  have eR : nR (sPer a v) = nR a := by unfold nR; rw [lo 5 (by omega) (by omega)]
  have ee : ∀ q w, ea (sPer a v) q w = ea a q w := fun q w => lo _ (by omega) (by omega)
  have er : ∀ q w, ra (sPer a v) q w = ra a q w := fun q w => lo _ (by omega) (by omega)
  refine ⟨rep_lo hr (fun j hj => lo j (by omega) (by omega)) (lo 3 (by omega) (by omega)) (sT_ag s A) (A.I (by omega)) (fun i k h1 h2 => A.I (by omega)) ?_ ?_ ?_ ?_ ?_ ?_ ?_ ?_ ?_ ?_ ?_ ?_ ?_ ?_ ?_ ?_ ?_, A.mono fun h k z => Or.inl (by omega)⟩
  · rw [c5, sPer_1]
  · rw [A.I (by omega), lo 2 (by omega) (by omega)]; exact hr.nt
  · rw [A.I (by omega), lo 4 (by omega) (by omega)]; exact hr.ne
  · rw [A.I (by omega), lo 5 (by omega) (by omega)]; exact hr.nr
  · rw [A.I (by omega), lo 0 (by omega) (by omega)]; exact hr.nx
  · rw [A.I (by omega), lo 6 (by omega) (by omega)]; exact hr.day
  · rw [A.I (by omega), lo 7 (by omega) (by omega)]; exact hr.law
  · rw [eP]; intro q hq; rw [sPer_pa (by omega)]
    by_cases e : q = nP a
    · rw [if_pos e, e, c 2 (by omega)]; rfl
    · rw [if_neg e, A.I (by omega)]; exact hr.lim q (by omega)
  · rw [eP]; intro q hq; rw [sPer_pa (by omega)]
    by_cases e : q = nP a
    · rw [if_pos e, e, c 3 (by omega)]; rfl
    · rw [if_neg e, A.I (by omega)]; exact hr.tmp q (by omega)
  · rw [eP]; intro q hq; rw [sPer_pa (by omega)]
    by_cases e : q = nP a
    · rw [if_pos e, e, c 4 (by omega)]; rfl
    · rw [if_neg e, A.I (by omega)]; exact hr.near q (by omega)
  · rw [eP]; intro q hq
    by_cases e : q = nP a
    · rw [e, c 5 (by omega), rich_new hw]; rfl
    · rw [A.I (by omega)]; exact hr.rich q (by omega)
  · rw [eP]; intro q hq
    by_cases e : q = nP a
    · rw [e, c 6 (by omega), debt_new hw]; rfl
    · rw [A.I (by omega)]; exact hr.debt q (by omega)
  · rw [eE]; intro q hq; rw [A.I (by omega), ee]; exact hr.nb q hq
  · rw [eE]; intro q hq; rw [A.I (by omega), ee]; exact hr.no q hq
  · rw [eE]; intro q hq; rw [A.I (by omega), ee]; exact hr.nw q hq
  · rw [eR]; intro q hq; rw [A.I (by omega), er]; exact hr.rs q hq
  · rw [eR]; intro q k hq h1 h2; rw [er] at h1; rw [A.I (by omega), er]; exact hr.rr q k hq h1 h2
theorem w_makeNear (hr : Rep M t a) (hw : Wf a) (hx : x < nP a) (hy : y < nP a) (hxy : x ≠ y) : mw (d + 2) 161 [.ref (t + 1), .int (nN x), .int (nN y)] M (fun o M' => o = .inl none ∧ Rep M' t (sNea a x y) ∧ Ag (XTw (gS M) (gP M) t) M M') := by
  have s := hr.sh
  have hp' := hw.p'
  have n1 := hr.near x hx
  have n2 := hr.near y hy
  have hyx : ¬ y = x := fun z => hxy z.symm
  simp (disch := first | omega | rfl | (repeat' (first | exact gS_sI | exact gP_sI | refine Eq.trans gS_sI ?_ | refine Eq.trans gP_sI ?_))) only [m_161, q_aload0, q_aload0N, q_get_r, pTag_1, pRf_s, q_iload1, q_invs2_21, q_iconst, q_iload2, q_ishl, q_ior, q_invs3_21, q_vret, e_161_0, L_1, k_some, k_none, pRm_i, pRm_r, pRm_0, pF_1, pF_2, inv_s, s.k0, s.k1, s.k7, s.p0, s.p1, s.p2, s.p3, s.p4, s.p5, s.p6, s.p7, s.p8, s.q0, s.q1, s.q2, s.q3, s.q4, s.r0, s.r1, s.r2, s.r3, s.r4, s.r5, s.r6, w_atS s.k2, w_atS s.k3, w_atS s.k4, w_atS s.k5, w_atS s.k6, w_atS s.k8, w_atS s.k9, w_atS s.k10, w_atS s.k11, w_atS s.k12, w_atS s.k13, w_atS s.k14, w_atS s.k17, w_atS s.k18, w_atS s.k19, w_atS s.k20, w_atS s.k21, w_putS s.k2, w_putS s.k3, w_putS s.k4, w_putS s.k5, w_putS s.k6, w_putS s.k8, w_putS s.k9, w_putS s.k10, w_putS s.k11, w_putS s.k12, w_putS s.k13, w_putS s.k14, w_putS s.k17, w_putS s.k18, w_putS s.k19, w_putS s.k20, w_putS s.k21, w_addS s.k2, w_addS s.k3, w_addS s.k4, w_addS s.k5, w_addS s.k6, w_addS s.k8, w_addS s.k9, w_addS s.k10, w_addS s.k11, w_addS s.k12, w_addS s.k13, w_addS s.k14, w_addS s.k17, w_addS s.k18, w_addS s.k19, w_addS s.k20, w_addS s.k21, n1, n2, hyx, gS_sI, gP_sI, gI_sI, Nat.add_left_cancel_iff, Nat.add_eq_left, Nat.left_eq_add, nN_le, nN_lt, nN_eq, nN_add, nN_mul, nN_lt0, nN_ge0, nN_gt0, nN_le0, nN_eq0, nN_eq1, nN_neN, pIn_n, pIx_n, eq_self, Nat.reduceLT, Bool.false_eq_true, Nat.add_zero, Nat.zero_add, Nat.reduceAdd, Nat.reduceMul, Nat.reduceSub, Nat.zero_le, Nat.reduceLeDiff, Nat.reduceEqDiff, Nat.le_refl, not_false_eq_true, not_true_eq_false, false_implies, true_implies, forall_const, true_and, and_true, if_true, if_false, implies_true, and_self, ne_eq, false_and, and_false, or_false, false_or, true_or, or_true]
  generalize hM : sI (sI M (t + 4) x _) (t + 4) y _ = M9
  have A : Ag (fun h k => h = t + 4 ∧ (k = x ∨ k = y)) M M9 := by
    rw [← hM]
    exact Ag.put (Ag.one ⟨rfl, Or.inl rfl⟩) ⟨rfl, Or.inr rfl⟩
  have cx : gI M9 (t + 4) x = nrV a x y := by rw [← hM, gI_sI, if_neg (by omega), gI_sI, if_pos ⟨rfl, rfl⟩]; rfl
  have cy : gI M9 (t + 4) y = nrV a y x := by rw [← hM, gI_sI, if_pos ⟨rfl, rfl⟩]; rfl
  have lo : ∀ j, (j < 10 ∨ 46 ≤ j) → sNea a x y j = a j := fun j g => by
    unfold sNea aU
    rw [if_neg (by omega), if_neg (by omega)]
  have eP : nP (sNea a x y) = nP a := by unfold nP; rw [lo 1 (by omega)]
  have eE : nE (sNea a x y) = nE a := by unfold nE; rw [lo 4 (by omega)]
  have eR : nR (sNea a x y) = nR a := by unfold nR; rw [lo 5 (by omega)]
  have ee : ∀ q w, ea (sNea a x y) q w = ea a q w := fun q w => lo _ (by omega)
  have er : ∀ q w, ra (sNea a x y) q w = ra a q w := fun q w => lo _ (by omega)
  have ep : ∀ q w, w < 2 → pa (sNea a x y) q w = pa a q w := fun q w hw => by rw [sNea_pa (by omega) hxy, if_neg (by omega)]
  refine ⟨rep_lo hr (fun j hj => lo j (by omega)) (lo 3 (by omega)) (sT_ag s A) (A.I (by omega)) (fun i k h1 h2 => A.I (by omega)) ?_ ?_ ?_ ?_ ?_ ?_ ?_ ?_ ?_ ?_ ?_ ?_ ?_ ?_ ?_ ?_ ?_, A.mono fun h k z => Or.inl (by omega)⟩
  · rw [A.I (by omega), lo 1 (by omega)]; exact hr.np
  · rw [A.I (by omega), lo 2 (by omega)]; exact hr.nt
  · rw [A.I (by omega), lo 4 (by omega)]; exact hr.ne
  · rw [A.I (by omega), lo 5 (by omega)]; exact hr.nr
  · rw [A.I (by omega), lo 0 (by omega)]; exact hr.nx
  · rw [A.I (by omega), lo 6 (by omega)]; exact hr.day
  · rw [A.I (by omega), lo 7 (by omega)]; exact hr.law
  · rw [eP]; intro q hq; rw [ep q 0 (by omega), A.I (by omega)]; exact hr.lim q hq
  · rw [eP]; intro q hq; rw [ep q 1 (by omega), A.I (by omega)]; exact hr.tmp q hq
  · rw [eP]; intro q hq; rw [sNea_pa (by omega) hxy, if_pos rfl]
    by_cases e : q = y
    · rw [if_pos e, e]; exact cy
    · rw [if_neg e]
      by_cases e2 : q = x
      · rw [if_pos e2, e2]; exact cx
      · rw [if_neg e2, A.I (by omega)]; exact hr.near q hq
  · rw [eP]; intro q hq; rw [A.I (by omega)]; exact hr.rich q hq
  · rw [eP]; intro q hq; rw [A.I (by omega)]; exact hr.debt q hq
  · rw [eE]; intro q hq; rw [A.I (by omega), ee]; exact hr.nb q hq
  · rw [eE]; intro q hq; rw [A.I (by omega), ee]; exact hr.no q hq
  · rw [eE]; intro q hq; rw [A.I (by omega), ee]; exact hr.nw q hq
  · rw [eR]; intro q hq; rw [A.I (by omega), er]; exact hr.rs q hq
  · rw [eR]; intro q k hq h1 h2; rw [er] at h1; rw [A.I (by omega), er]; exact hr.rr q k hq h1 h2
theorem w_addNeed (hr : Rep M t a) (hw : Wf a) (hE : nE a < 12) : mw (d + 2) 219 [.ref t, .int (nN x), .int (nN y), .int (nN n)] M (fun o M' => o = .inl none ∧ Rep M' t (sNee a x y n) ∧ Ag (XTw (gS M) (gP M) t) M M') := by
  have s := hr.sh
  have hp' := hw.p'
  have hp := hr.ne
  rw [hw.n] at hp
  have u1 : ¬ t = t + 17 := by omega
  have u2 : ¬ t = t + 18 := by omega
  have u3 : ¬ t = t + 19 := by omega
  simp (disch := first | omega | rfl | (repeat' (first | exact gS_sI | exact gP_sI | refine Eq.trans gS_sI ?_ | refine Eq.trans gP_sI ?_))) only [m_219, q_aload0, q_aload0N, q_get_r, pTag_1, pRf_s, q_get_i, q_iload1, q_invs3_21, q_iload2, q_iload3, q_dup_i, q_dup_r, q_iconst, q_iadd, q_put_i, q_vret, e_219_0, L_1, k_some, k_none, pRm_i, pRm_r, pRm_0, pF_1, pF_2, inv_s, s.k0, s.k1, s.k7, s.p0, s.p1, s.p2, s.p3, s.p4, s.p5, s.p6, s.p7, s.p8, s.q0, s.q1, s.q2, s.q3, s.q4, s.r0, s.r1, s.r2, s.r3, s.r4, s.r5, s.r6, w_atS s.k2, w_atS s.k3, w_atS s.k4, w_atS s.k5, w_atS s.k6, w_atS s.k8, w_atS s.k9, w_atS s.k10, w_atS s.k11, w_atS s.k12, w_atS s.k13, w_atS s.k14, w_atS s.k17, w_atS s.k18, w_atS s.k19, w_atS s.k20, w_atS s.k21, w_putS s.k2, w_putS s.k3, w_putS s.k4, w_putS s.k5, w_putS s.k6, w_putS s.k8, w_putS s.k9, w_putS s.k10, w_putS s.k11, w_putS s.k12, w_putS s.k13, w_putS s.k14, w_putS s.k17, w_putS s.k18, w_putS s.k19, w_putS s.k20, w_putS s.k21, w_addS s.k2, w_addS s.k3, w_addS s.k4, w_addS s.k5, w_addS s.k6, w_addS s.k8, w_addS s.k9, w_addS s.k10, w_addS s.k11, w_addS s.k12, w_addS s.k13, w_addS s.k14, w_addS s.k17, w_addS s.k18, w_addS s.k19, w_addS s.k20, w_addS s.k21, hp, u1, u2, u3, gS_sI, gP_sI, gI_sI, Nat.add_left_cancel_iff, Nat.add_eq_left, Nat.left_eq_add, nN_le, nN_lt, nN_eq, nN_add, nN_mul, nN_lt0, nN_ge0, nN_gt0, nN_le0, nN_eq0, nN_eq1, nN_neN, pIn_n, pIx_n, eq_self, Nat.reduceLT, Bool.false_eq_true, Nat.add_zero, Nat.zero_add, Nat.reduceAdd, Nat.reduceMul, Nat.reduceSub, Nat.zero_le, Nat.reduceLeDiff, Nat.reduceEqDiff, Nat.le_refl, not_false_eq_true, not_true_eq_false, false_implies, true_implies, forall_const, true_and, and_true, if_true, if_false, implies_true, and_self, ne_eq, false_and, and_false, or_false, false_or, true_or, or_true]
  generalize hM : sI (sI (sI (sI M (t + 17) (nE a) (nN x)) (t + 18) (nE a) (nN y)) (t + 19) (nE a) (nN n)) t 10 (nN (nE a + 1)) = M9
  have A : Ag (fun h k => (h = t ∧ k = 10) ∨ ((t + 17 ≤ h ∧ h ≤ t + 19) ∧ k = nE a)) M M9 := by
    rw [← hM]
    exact Ag.put (Ag.put (Ag.put (Ag.one (Or.inr (by omega))) (Or.inr (by omega))) (Or.inr (by omega))) (Or.inl ⟨rfl, rfl⟩)
  have c0 : gI M9 t 10 = nN (nE a + 1) := by rw [← hM, gI_sI, if_pos ⟨rfl, rfl⟩]
  have c1 : gI M9 (t + 17) (nE a) = nN x := by rw [← hM]; simp [gI_sI]
  have c2 : gI M9 (t + 18) (nE a) = nN y := by rw [← hM]; simp [gI_sI]
  have c3 : gI M9 (t + 19) (nE a) = nN n := by rw [← hM]; simp [gI_sI]
  have lo : ∀ j, (j < 46 ∨ 82 ≤ j) → j ≠ 4 → sNee a x y n j = a j := fun j h h4 => sNee_lo h h4 hE
  have eP : nP (sNee a x y n) = nP a := by unfold nP; rw [lo 1 (by omega) (by omega)]
  have eE := sNee_nE (x := x) (y := y) (n := n) hE
  have eR : nR (sNee a x y n) = nR a := by unfold nR; rw [lo 5 (by omega) (by omega)]
  have e4 : sNee a x y n 4 = nN (nE a + 1) := by
    unfold sNee
    rw [if_neg (by omega), if_neg (by omega), if_neg (by omega), if_pos rfl]
  have ep : ∀ q w, q < nP a → w < 3 → pa (sNee a x y n) q w = pa a q w := fun q w h1 h2 => lo _ (by omega) (by omega)
  have er : ∀ q w, ra (sNee a x y n) q w = ra a q w := fun q w => lo _ (by omega) (by omega)
  refine ⟨rep_lo hr (fun j hj => lo j (by omega) (by omega)) (lo 3 (by omega) (by omega)) (sT_ag s A) (A.I (by omega)) (fun i k h1 h2 => A.I (by omega)) ?_ ?_ ?_ ?_ ?_ ?_ ?_ ?_ ?_ ?_ ?_ ?_ ?_ ?_ ?_ ?_ ?_, A.mono fun h k z => Or.inl (by omega)⟩
  · rw [A.I (by omega), lo 1 (by omega) (by omega)]; exact hr.np
  · rw [A.I (by omega), lo 2 (by omega) (by omega)]; exact hr.nt
  · rw [c0, e4]
  · rw [A.I (by omega), lo 5 (by omega) (by omega)]; exact hr.nr
  · rw [A.I (by omega), lo 0 (by omega) (by omega)]; exact hr.nx
  · rw [A.I (by omega), lo 6 (by omega) (by omega)]; exact hr.day
  · rw [A.I (by omega), lo 7 (by omega) (by omega)]; exact hr.law
  · rw [eP]; intro q hq; rw [ep q 0 hq (by omega), A.I (by omega)]; exact hr.lim q hq
  · rw [eP]; intro q hq; rw [ep q 1 hq (by omega), A.I (by omega)]; exact hr.tmp q hq
  · rw [eP]; intro q hq; rw [ep q 2 hq (by omega), A.I (by omega)]; exact hr.near q hq
  · rw [eP]; intro q hq; rw [A.I (by omega)]; exact hr.rich q hq
  · rw [eP]; intro q hq; rw [A.I (by omega)]; exact hr.debt q hq
  · rw [eE]; intro q hq; rw [sNee_ea (by omega)]
    by_cases e : q = nE a
    · rw [if_pos e, e]; exact c1
    · rw [if_neg e, A.I (by omega)]; exact hr.nb q (by omega)
  · rw [eE]; intro q hq; rw [sNee_ea (by omega)]
    by_cases e : q = nE a
    · rw [if_pos e, e]; exact c2
    · rw [if_neg e, A.I (by omega)]; exact hr.no q (by omega)
  · rw [eE]; intro q hq; rw [sNee_ea (by omega)]
    by_cases e : q = nE a
    · rw [if_pos e, e]; exact c3
    · rw [if_neg e, A.I (by omega)]; exact hr.nw q (by omega)
  · rw [eR]; intro q hq; rw [A.I (by omega), er]; exact hr.rs q hq
  · rw [eR]; intro q k hq h1 h2; rw [er] at h1; rw [A.I (by omega), er]; exact hr.rr q k hq h1 h2
theorem rep_law (hr : Rep M t a) : Rep (sI M t 14 (nN v)) t (aU a 7 (nN v)) := by
  have A : Ag (fun h k => h = t ∧ k = 14) M (sI M t 14 (nN v)) := Ag.one ⟨rfl, rfl⟩
  have lo : ∀ j, j ≠ 7 → aU a 7 (nN v) j = a j := fun j h => aU_ne h
  have eP : nP (aU a 7 (nN v)) = nP a := by unfold nP; rw [lo 1 (by omega)]
  have eE : nE (aU a 7 (nN v)) = nE a := by unfold nE; rw [lo 4 (by omega)]
  have eR : nR (aU a 7 (nN v)) = nR a := by unfold nR; rw [lo 5 (by omega)]
  have ep : ∀ q w, pa (aU a 7 (nN v)) q w = pa a q w := fun q w => lo _ (by omega)
  have ee : ∀ q w, ea (aU a 7 (nN v)) q w = ea a q w := fun q w => lo _ (by omega)
  have er : ∀ q w, ra (aU a 7 (nN v)) q w = ra a q w := fun q w => lo _ (by omega)
  refine rep_lo hr (fun j hj => lo j (by omega)) (lo 3 (by omega)) (sT_ag hr.sh A) (A.I (by omega)) (fun i k h1 h2 => A.I (by omega)) ?_ ?_ ?_ ?_ ?_ ?_ ?_ ?_ ?_ ?_ ?_ ?_ ?_ ?_ ?_ ?_ ?_
  · rw [A.I (by omega), lo 1 (by omega)]; exact hr.np
  · rw [A.I (by omega), lo 2 (by omega)]; exact hr.nt
  · rw [A.I (by omega), lo 4 (by omega)]; exact hr.ne
  · rw [A.I (by omega), lo 5 (by omega)]; exact hr.nr
  · rw [A.I (by omega), lo 0 (by omega)]; exact hr.nx
  · rw [A.I (by omega), lo 6 (by omega)]; exact hr.day
  · rw [gI_sI, if_pos ⟨rfl, rfl⟩, aU_eq]
  · rw [eP]; intro q hq; rw [ep, A.I (by omega)]; exact hr.lim q hq
  · rw [eP]; intro q hq; rw [ep, A.I (by omega)]; exact hr.tmp q hq
  · rw [eP]; intro q hq; rw [ep, A.I (by omega)]; exact hr.near q hq
  · rw [eP]; intro q hq; rw [A.I (by omega)]; exact hr.rich q hq
  · rw [eP]; intro q hq; rw [A.I (by omega)]; exact hr.debt q hq
  · rw [eE]; intro q hq; rw [A.I (by omega), ee]; exact hr.nb q hq
  · rw [eE]; intro q hq; rw [A.I (by omega), ee]; exact hr.no q hq
  · rw [eE]; intro q hq; rw [A.I (by omega), ee]; exact hr.nw q hq
  · rw [eR]; intro q hq; rw [A.I (by omega), er]; exact hr.rs q hq
  · rw [eR]; intro q k hq h1 h2; rw [er] at h1; rw [A.I (by omega), er]; exact hr.rr q k hq h1 h2
end CT9
