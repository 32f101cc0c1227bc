/-! a ring is added: the table, the class -/
def sRing (a : Nat → Int32) (n : Nat) (b : Nat → Nat) : Nat → Int32 := fun j => if j = 5 then nN (nR a + 1) else if j = 82 + 7 * nR a then nN n else if 83 + 7 * nR a ≤ j ∧ j < 83 + 7 * nR a + n then nN (qB b (j - (83 + 7 * nR a))) else a j
section AR
variable {d t u n p q f g m c e K k dd : Nat} {n' : Nat} {b b' : Nat → Nat} {a a' ak : Nat → Int32} {img fc : Bool} {fl : Int32} {M M0 M1 M' : pMem} {Q : pOut → pMem → Prop} {x y z v w : Int32}
theorem sRing_lo {j : Nat} (h : j < 82 ∨ 138 ≤ j) (h5 : j ≠ 5) (hR : nR a < 8) (hn : n ≤ 6) : sRing a n b j = a j := by
  unfold sRing
  rw [if_neg h5, if_neg (by omega), if_neg (by omega)]
theorem sRing_nR (h : nR a < 8) : nR (sRing a n b) = nR a + 1 := by
  unfold nR at *
  unfold sRing
  rw [if_pos rfl]
  unfold nR
  rw [nN_toInt (by omega)]
  omega
theorem sRing_ra (hr : p ≤ nR a) (hk : k < 7) (hn : n ≤ 6) : ra (sRing a n b) p k = if p = nR a then (if k = 0 then nN n else if k < n + 1 then nN (qB b (k - 1)) else ra a p k) else ra a p k := by
  show sRing a n b (82 + 7 * p + k) = _
  unfold sRing
  rw [if_neg (by omega)]
  by_cases e : p = nR a
  · rw [if_pos e]
    by_cases e2 : k = 0
    · rw [if_pos e2, if_pos (by omega)]
    · rw [if_neg e2, if_neg (by omega)]
      by_cases e3 : k < n + 1
      · rw [if_pos e3, if_pos (by omega), show 82 + 7 * p + k - (83 + 7 * nR a) = k - 1 from by omega]
      · rw [if_neg e3, if_neg (by omega)]
        rfl
  · rw [if_neg e, if_neg (by omega), if_neg (by omega)]
    rfl
theorem wt_ring (hw : Wt a K) (hR : nR a < 8) (hg : RgO a n b) : Wt (sRing a n b) K := by
  obtain ⟨hn2, hn6, hok⟩ := hg
  have lo : ∀ j, (j < 82 ∨ 138 ≤ j) → j ≠ 5 → sRing a n b j = a j := fun j h h5 => sRing_lo h h5 hR hn6
  have eP : nP (sRing a n b) = nP a := by unfold nP; rw [lo 1 (by omega) (by omega)]
  have eT : nT (sRing a n b) = nT a := by unfold nT; rw [lo 2 (by omega) (by omega)]
  have eE : nE (sRing a n b) = nE a := by unfold nE; rw [lo 4 (by omega) (by omega)]
  have eR := sRing_nR (n := n) (b := b) hR
  have hp' := hw.1.p'
  have hn' := hw.1.n'
  have e5 : sRing a n b 5 = nN (nR a + 1) := if_pos rfl
  have ep : ∀ q w, q < nP a → w < 3 → pa (sRing a n b) q w = pa a q w := fun q w h1 h2 => lo _ (by omega) (by omega)
  have ee : ∀ q w, q < nE a → w < 3 → ea (sRing a n b) q w = ea a q w := fun q w h1 h2 => lo _ (by omega) (by omega)
  have w1 : Wf (sRing a n b) := by
    have hw := hw.1
    refine wf_lo hw (fun j hj => lo j (by omega) (by omega)) (lo 3 (by omega) (by omega)) (by omega) (by rw [lo 1 (by omega) (by omega), eP]; exact hw.p) (by rw [eP]; exact hw.p') (by rw [lo 2 (by omega) (by omega), eT]; exact hw.t) (by rw [eT]; exact hw.t') (by rw [lo 4 (by omega) (by omega), eE]; exact hw.n) (by rw [eE]; exact hw.n') (by rw [e5, eR]) (by omega) (by rw [lo 7 (by omega) (by omega)]; exact hw.law) (by rw [lo 0 (by omega) (by omega)]; exact hw.texts) ?_ ?_ ?_ ?_ ?_
    · rw [eP]; intro q hq; rw [ep q 0 hq (by omega)]; exact hw.lim q hq
    · rw [eP, eT]; intro q hq; rw [ep q 1 hq (by omega)]; exact hw.tmp q hq
    · rw [eP]; intro q hq; rw [ep q 2 hq (by omega)]; exact hw.near q hq
    · rw [eE, eP]; intro k hk
      rw [ee k 0 hk (by omega), ee k 1 hk (by omega), ee k 2 hk (by omega)]
      exact hw.need k hk
    · rw [eR, eP]; intro r hr
      by_cases c : r = nR a
      · refine ⟨n, hn2, hn6, ?_, ?_⟩
        · rw [sRing_ra (by omega) (by omega) hn6, if_pos c, if_pos rfl]
        · intro k hk
          obtain ⟨h1, h2⟩ := okR_q hp' (hok k hk).1
          refine ⟨qB b k, h1, ?_⟩
          rw [sRing_ra (by omega) (by omega) hn6, if_pos c, if_neg (by omega), if_pos (by omega), show 1 + k - 1 = k from by omega]
      · obtain ⟨m, m1, m2, m3, m4⟩ := hw.ring r (by omega)
        refine ⟨m, m1, m2, ?_, ?_⟩
        · rw [sRing_ra (by omega) (by omega) hn6, if_neg c]; exact m3
        · intro k hk
          rw [sRing_ra (by omega) (by omega) hn6, if_neg c]; exact m4 k hk
  refine wt_keep hw w1 (lo _ (by omega) (by omega)) (lo _ (by omega) (by omega)) (fun j h _ => lo _ (by omega) (by omega)) (fun j h => lo _ (by omega) (by omega)) ?_
  obtain ⟨D, h5, h6⟩ := hw.2.2.2.2
  exact ⟨D, h5, by rw [lo _ (by omega) (by omega)]; exact h6⟩
theorem w_addRing (hr : Rep M t a) (hw : Wf a) (hR : nR a < 8) (hg : RgO a n b) (hs : gS M q = (100, 400)) (tb : ∀ k, k < n → gI M q k = nN (b k)) (hq : q < t) : mw (d + 2) 220 [.ref t, .ref q, .int (nN n)] M (fun o M' => o = .inl (some (.int (nN (nR a)))) ∧ Rep M' t (sRing a n b) ∧ Ag (XTw (gS M) (gP M) t) M M') := by
  obtain ⟨hn2, hn6, hok⟩ := hg
  have s := hr.sh
  have hp' := hw.p'
  have hp := hr.nr
  rw [hw.r] at hp
  simp (disch := first | omega | rfl | (repeat' (first | exact gS_sI | exact gP_sI | refine Eq.trans gS_sI ?_ | refine Eq.trans gP_sI ?_))) only [m_220, q_aload0, q_aload0N, q_get_i, pTag_1, pRf_s, q_istore3, q_get_r, q_iload3, q_iload2, q_invs3_21, q_iconst, q_istore4, q_nop, q_iload4, q_ic_ge, q_bipush, q_imul, q_iadd, q_aload1, q_aload1N, q_invs2_21, q_isub, q_iinc4, q_goto, q_dup_i, q_dup_r, q_put_i, q_iret, e_220_0, e_220_2, L_0, L_1, L_6, L_97, k_some, k_none, pRm_i, pRm_r, pRm_0, pF_1, pF_2, inv_s, s.k0, s.k1, s.k7, s.p0, s.p1, s.p2, s.p3, s.p4, s.p5, s.p6, s.p7, s.p8, s.q0, s.q1, s.q2, s.q3, s.q4, s.r0, s.r1, s.r2, s.r3, s.r4, s.r5, s.r6, w_atS s.k2, w_atS s.k3, w_atS s.k4, w_atS s.k5, w_atS s.k6, w_atS s.k8, w_atS s.k9, w_atS s.k10, w_atS s.k11, w_atS s.k12, w_atS s.k13, w_atS s.k14, w_atS s.k17, w_atS s.k18, w_atS s.k19, w_atS s.k20, w_atS s.k21, w_putS s.k2, w_putS s.k3, w_putS s.k4, w_putS s.k5, w_putS s.k6, w_putS s.k8, w_putS s.k9, w_putS s.k10, w_putS s.k11, w_putS s.k12, w_putS s.k13, w_putS s.k14, w_putS s.k17, w_putS s.k18, w_putS s.k19, w_putS s.k20, w_putS s.k21, w_addS s.k2, w_addS s.k3, w_addS s.k4, w_addS s.k5, w_addS s.k6, w_addS s.k8, w_addS s.k9, w_addS s.k10, w_addS s.k11, w_addS s.k12, w_addS s.k13, w_addS s.k14, w_addS s.k17, w_addS s.k18, w_addS s.k19, w_addS s.k20, w_addS s.k21, hp, gS_sI, gP_sI, gI_sI, Nat.add_left_cancel_iff, Nat.add_eq_left, Nat.left_eq_add, nN_le, nN_lt, nN_eq, nN_add, nN_mul, nN_lt0, nN_ge0, nN_gt0, nN_le0, nN_eq0, nN_eq1, nN_neN, pIn_n, pIx_n, eq_self, Nat.reduceLT, Bool.false_eq_true, Nat.add_zero, Nat.zero_add, Nat.reduceAdd, Nat.reduceMul, Nat.reduceSub, Nat.zero_le, Nat.reduceLeDiff, Nat.reduceEqDiff, Nat.le_refl, not_false_eq_true, not_true_eq_false, false_implies, true_implies, forall_const, true_and, and_true, if_true, if_false, implies_true, and_self, ne_eq, false_and, and_false, or_false, false_or, true_or, or_true]
  have S0 : gS (sI M (t + 20) (nR a) (nN n)) = gS M := rfl
  have P0 : gP (sI M (t + 20) (nR a) (nN n)) = gP M := rfl
  refine loopR (n := n) (J := Unit) (C := fun k _ _ M => ([some (.ref t), some (.ref q), some (.int (nN n)), some (.int (nN (nR a))), some (.int (nN k))], [], M)) (f := fun _ (_ : Unit) => ()) (R := fun k _ M1 => Ag (fun h k => h = t + 21 ∧ 6 * nR a ≤ k ∧ k < 6 * nR a + 6) (sI M (t + 20) (nR a) (nN n)) M1 ∧ ∀ i, i < k → gI M1 (t + 21) (6 * nR a + i) = nN (qB b i)) ?_ n 0 () () _ (by omega) ⟨Ag.rfl, fun i h => absurd h (by omega)⟩ ?_
  · rintro k _ _ M1 hk ⟨A1, e1⟩ go
    have h3 : ¬ n ≤ k := by omega
    have h1 : ShT (gS M1) (gP M1) t := by rw [A1.S, A1.P]; exact s
    have hs1 : gS M1 q = (100, 400) := by rw [A1.S]; exact hs
    have tb1 : gI M1 q k = nN (b k) := by rw [A1.I (by omega), gI_sI, if_neg (by omega)]; exact tb k hk
    obtain ⟨g1, g2⟩ := okR_q hp' (hok k hk).1
    have i9 : nR a * 6 + k = 6 * nR a + k := by omega
    have u1 : ¬ q = t + 21 := by omega
    rw [e_220_1]
    simp (disch := first | omega | rfl | (repeat' (first | exact gS_sI | exact gP_sI | refine Eq.trans gS_sI ?_ | refine Eq.trans gP_sI ?_))) only [q_aload0, q_aload0N, q_get_i, pTag_1, pRf_s, q_istore3, q_get_r, q_iload3, q_iload2, q_invs3_21, q_iconst, q_istore4, q_nop, q_iload4, q_ic_ge, q_bipush, q_imul, q_iadd, q_aload1, q_aload1N, q_invs2_21, q_isub, q_iinc4, q_goto, q_dup_i, q_dup_r, q_put_i, q_iret, e_220_0, e_220_2, L_0, L_1, L_6, L_97, k_some, k_none, pRm_i, pRm_r, pRm_0, pF_1, pF_2, inv_s, h1.k0, h1.k1, h1.k7, h1.p0, h1.p1, h1.p2, h1.p3, h1.p4, h1.p5, h1.p6, h1.p7, h1.p8, h1.q0, h1.q1, h1.q2, h1.q3, h1.q4, h1.r0, h1.r1, h1.r2, h1.r3, h1.r4, h1.r5, h1.r6, w_atS h1.k2, w_atS h1.k3, w_atS h1.k4, w_atS h1.k5, w_atS h1.k6, w_atS h1.k8, w_atS h1.k9, w_atS h1.k10, w_atS h1.k11, w_atS h1.k12, w_atS h1.k13, w_atS h1.k14, w_atS h1.k17, w_atS h1.k18, w_atS h1.k19, w_atS h1.k20, w_atS h1.k21, w_putS h1.k2, w_putS h1.k3, w_putS h1.k4, w_putS h1.k5, w_putS h1.k6, w_putS h1.k8, w_putS h1.k9, w_putS h1.k10, w_putS h1.k11, w_putS h1.k12, w_putS h1.k13, w_putS h1.k14, w_putS h1.k17, w_putS h1.k18, w_putS h1.k19, w_putS h1.k20, w_putS h1.k21, w_addS h1.k2, w_addS h1.k3, w_addS h1.k4, w_addS h1.k5, w_addS h1.k6, w_addS h1.k8, w_addS h1.k9, w_addS h1.k10, w_addS h1.k11, w_addS h1.k12, w_addS h1.k13, w_addS h1.k14, w_addS h1.k17, w_addS h1.k18, w_addS h1.k19, w_addS h1.k20, w_addS h1.k21, h3, w_atN hs1, tb1, g2, i9, u1, gS_sI, gP_sI, gI_sI, Nat.add_left_cancel_iff, Nat.add_eq_left, Nat.left_eq_add, nN_le, nN_lt, nN_eq, nN_add, nN_mul, nN_lt0, nN_ge0, nN_gt0, nN_le0, nN_eq0, nN_eq1, nN_neN, pIn_n, pIx_n, eq_self, Nat.reduceLT, Bool.false_eq_true, Nat.add_zero, Nat.zero_add, Nat.reduceAdd, Nat.reduceMul, Nat.reduceSub, Nat.zero_le, Nat.reduceLeDiff, Nat.reduceEqDiff, Nat.le_refl, not_false_eq_true, not_true_eq_false, false_implies, true_implies, forall_const, true_and, and_true, if_true, if_false, implies_true, and_self, ne_eq, false_and, and_false, or_false, false_or, true_or, or_true]
    refine go _ () ⟨Ag.put A1 ⟨rfl, by omega, by omega⟩, ?_⟩
    intro i hi
    rw [gI_sI]
    by_cases c : i = k
    · rw [if_pos ⟨rfl, by omega⟩, c]
    · rw [if_neg (fun z => c (by omega))]; exact e1 i (by omega)
  · rintro M1 _ ⟨A1, e1⟩
    have h1 : ShT (gS M1) (gP M1) t := by rw [A1.S, A1.P]; exact s
    have hp1 : gI M1 t 11 = nN (nR a) := by rw [A1.I (by omega), gI_sI, if_neg (by omega)]; exact hp
    rw [e_220_1]
    simp (disch := first | omega | rfl | (repeat' (first | exact gS_sI | exact gP_sI | refine Eq.trans gS_sI ?_ | refine Eq.trans gP_sI ?_))) only [q_aload0, q_aload0N, q_get_i, pTag_1, pRf_s, q_istore3, q_get_r, q_iload3, q_iload2, q_invs3_21, q_iconst, q_istore4, q_nop, q_iload4, q_ic_ge, q_bipush, q_imul, q_iadd, q_aload1, q_aload1N, q_invs2_21, q_isub, q_iinc4, q_goto, q_dup_i, q_dup_r, q_put_i, q_iret, e_220_0, e_220_2, L_0, L_1, L_6, L_97, k_some, k_none, pRm_i, pRm_r, pRm_0, pF_1, pF_2, inv_s, h1.k0, h1.k1, h1.k7, h1.p0, h1.p1, h1.p2, h1.p3, h1.p4, h1.p5, h1.p6, h1.p7, h1.p8, h1.q0, h1.q1, h1.q2, h1.q3, h1.q4, h1.r0, h1.r1, h1.r2, h1.r3, h1.r4, h1.r5, h1.r6, hp1, gS_sI, gP_sI, gI_sI, Nat.add_left_cancel_iff, Nat.add_eq_left, Nat.left_eq_add, nN_le, nN_lt, nN_eq, nN_add, nN_mul, nN_lt0, nN_ge0, nN_gt0, nN_le0, nN_eq0, nN_eq1, nN_neN, pIn_n, pIx_n, eq_self, Nat.reduceLT, Bool.false_eq_true, Nat.add_zero, Nat.zero_add, Nat.reduceAdd, Nat.reduceMul, Nat.reduceSub, Nat.zero_le, Nat.reduceLeDiff, Nat.reduceEqDiff, Nat.le_refl, not_false_eq_true, not_true_eq_false, false_implies, true_implies, forall_const, true_and, and_true, if_true, if_false, implies_true, and_self, ne_eq, false_and, and_false, or_false, false_or, true_or, or_true]
    have A : Ag (fun h k => (h = t ∧ k = 11) ∨ (h = t + 20 ∧ k = nR a) ∨ (h = t + 21 ∧ 6 * nR a ≤ k ∧ k < 6 * nR a + 6)) M (sI M1 t 11 (nN (nR a + 1))) := Ag.put ((Ag.one (Or.inr (Or.inl ⟨rfl, rfl⟩))).trans (A1.mono fun h k z => Or.inr (Or.inr z))) (Or.inl ⟨rfl, rfl⟩)
    have c0 : gI (sI M1 t 11 (nN (nR a + 1))) t 11 = nN (nR a + 1) := by rw [gI_sI, if_pos ⟨rfl, rfl⟩]
    have c1 : gI (sI M1 t 11 (nN (nR a + 1))) (t + 20) (nR a) = nN n := by rw [gI_sI, if_neg (by omega), A1.I (by omega), gI_sI, if_pos ⟨rfl, rfl⟩]
    have c2 : ∀ i, i < n → gI (sI M1 t 11 (nN (nR a + 1))) (t + 21) (6 * nR a + i) = nN (qB b i) := fun i hi => by rw [gI_sI, if_neg (by omega)]; exact e1 i hi
    generalize sI M1 t 11 (nN (nR a + 1)) = M9 at *
    have lo : ∀ j, (j < 82 ∨ 138 ≤ j) → j ≠ 5 → sRing a n b j = a j := fun j h h5 => sRing_lo h h5 hR hn6
    have eP : nP (sRing a n b) = nP a := by unfold nP; rw [lo 1 (by omega) (by omega)]
    have eE : nE (sRing a n b) = nE a := by unfold nE; rw [lo 4 (by omega) (by omega)]
    have eR := sRing_nR (n := n) (b := b) hR
    have hn' := hw.n'
    have e5 : sRing a n b 5 = nN (nR a + 1) := if_pos rfl
    have ep : ∀ q w, q < nP a → w < 3 → pa (sRing a n b) q w = pa a q w := fun q w h1 h2 => lo _ (by omega) (by omega)
    have ee : ∀ q w, q < nE a → w < 3 → ea (sRing a n b) q w = ea a q w := fun q w h1 h2 => lo _ (by omega) (by omega)
    refine ⟨rep_lo hr (fun j hj => lo j (by omega) (by omega)) (lo 3 (by omega) (by omega)) (sT_ag s A) (A.I (by omega)) (fun i k h1 h2 => A.I (by omega)) ?_ ?_ ?_ ?_ ?_ ?_ ?_ ?_ ?_ ?_ ?_ ?_ ?_ ?_ ?_ ?_ ?_, A.mono fun h k z => Or.inl (by omega)⟩
    · rw [A.I (by omega), lo 1 (by omega) (by omega)]; exact hr.np
    · rw [A.I (by omega), lo 2 (by omega) (by omega)]; exact hr.nt
    · rw [A.I (by omega), lo 4 (by omega) (by omega)]; exact hr.ne
    · rw [c0, e5]
    · rw [A.I (by omega), lo 0 (by omega) (by omega)]; exact hr.nx
    · rw [A.I (by omega), lo 6 (by omega) (by omega)]; exact hr.day
    · rw [A.I (by omega), lo 7 (by omega) (by omega)]; exact hr.law
    · rw [eP]; intro q hq; rw [ep q 0 hq (by omega), A.I (by omega)]; exact hr.lim q hq
    · rw [eP]; intro q hq; rw [ep q 1 hq (by omega), A.I (by omega)]; exact hr.tmp q hq
    · rw [eP]; intro q hq; rw [ep q 2 hq (by omega), A.I (by omega)]; exact hr.near q hq
    · rw [eP]; intro q hq; rw [A.I (by omega)]; exact hr.rich q hq
    · rw [eP]; intro q hq; rw [A.I (by omega)]; exact hr.debt q hq
    · rw [eE]; intro q hq; rw [ee q 0 hq (by omega), A.I (by omega)]; exact hr.nb q hq
    · rw [eE]; intro q hq; rw [ee q 1 hq (by omega), A.I (by omega)]; exact hr.no q hq
    · rw [eE]; intro q hq; rw [ee q 2 hq (by omega), A.I (by omega)]; exact hr.nw q hq
    · rw [eR]; intro r hr9
      rw [sRing_ra (by omega) (by omega) hn6]
      by_cases c : r = nR a
      · rw [if_pos c, if_pos rfl, c]; exact c1
      · rw [if_neg c, A.I (by omega)]; exact hr.rs r (by omega)
    · rw [eR]; intro r k hr9 h1 h2
      rw [sRing_ra (by omega) (by omega) hn6] at h1 ⊢
      by_cases c : r = nR a
      · rw [if_pos c, if_pos rfl, nN_lt (by omega) (by omega)] at h1
        rw [if_pos c, if_neg (by omega), if_pos (by omega), c, show 1 + k - 1 = k from by omega]
        exact c2 k h1
      · rw [if_neg c] at h1 ⊢
        rw [A.I (by omega)]; exact hr.rr r k (by omega) h1 h2
theorem c_ring (c : CI M a ak img n b fl) (hw : Wt a K) (hk : img = true → Wf ak) (hn : n ≤ 400) (hb : ∀ k, b k < 256) (hg : RgO a n b) (hR : nR a < 8) : mw (d + 6) 28 [.ref 0] M (fun o M' => o = .inl (some (.int (nN (nR a)))) ∧ CI M' (sRing a n b) ak img 0 b fl ∧ CF M M') := by
  have k0 := c.sh.k0
  have q0 := c.sh.p0
  have p1 := c.sh.p1
  have k1 := c.sh.k1
  have k2 := c.sh.k2
  have q1 := c.sh.q1
  have U := c.used
  have t9 := c.sh.t3.k0
  have hR9 : gI (sI M 1 1 (nN 0)) 3 11 = nN (nR a) := by rw [gI_sI, if_neg (by omega), c.rep.nr, hw.1.r]
  have tb : ∀ k, k < n → gI (sI M 1 1 (nN 0)) 2 k = nN (b k) := fun k hk => by rw [gI_sI, if_neg (by omega)]; exact c.tb k hk
  simp (disch := omega) only [m_28, q_aload0, q_aload0N, q_get_r, pTag_1, pRf_s, q_invv0, inv_1, q_istore1, q_iload1, q_invv1, q_if_ne, q_thr, q_get_i, q_bipush, q_ic_lt, q_invv2, q_iret, e_28_0, e_28_1, e_28_2, L_8, k_some, k_none, pRm_i, pRm_r, pRm_0, pF_1, pF_2, inv_s, k0, q0, w_useUp k1, c.tn, gS_sI, gP_sI, gS_sI, gP_sI, gI_sI, Nat.add_left_cancel_iff, Nat.add_eq_left, Nat.left_eq_add, nN_le, nN_lt, nN_eq, nN_add, nN_mul, nN_lt0, nN_ge0, nN_gt0, nN_le0, nN_eq0, nN_eq1, nN_neN, pIn_n, pIx_n, eq_self, Nat.reduceLT, Bool.false_eq_true, Nat.add_zero, Nat.zero_add, Nat.reduceAdd, Nat.reduceMul, Nat.reduceSub, Nat.zero_le, Nat.reduceLeDiff, Nat.reduceEqDiff, Nat.le_refl, not_false_eq_true, not_true_eq_false, false_implies, true_implies, forall_const, true_and, and_true, if_true, if_false, implies_true, and_self, ne_eq, false_and, and_false, or_false, false_or, true_or, or_true]
  refine ⟨by rw [k1], mw_mono (w_isRing (d := d + 2) (n := n) (b := b) U.1 hw.1 hn tb hb) ?_⟩
  rintro o M1 ⟨rfl, h⟩
  rcases h with ⟨-, rfl⟩ | ⟨h, -⟩
  · simp (disch := omega) only [q_aload0, q_aload0N, q_get_r, pTag_1, pRf_s, q_invv0, inv_1, q_istore1, q_iload1, q_invv1, q_if_ne, q_thr, q_get_i, q_bipush, q_ic_lt, q_invv2, q_iret, e_28_0, e_28_1, e_28_2, L_8, k_some, k_none, pRm_i, pRm_r, pRm_0, pF_1, pF_2, inv_s, k0, q0, p1, k1, q1, t9, gS_sI, gP_sI, hR9, hR, gS_sI, gP_sI, gI_sI, Nat.add_left_cancel_iff, Nat.add_eq_left, Nat.left_eq_add, nN_le, nN_lt, nN_eq, nN_add, nN_mul, nN_lt0, nN_ge0, nN_gt0, nN_le0, nN_eq0, nN_eq1, nN_neN, pIn_n, pIx_n, eq_self, Nat.reduceLT, Bool.false_eq_true, Nat.add_zero, Nat.zero_add, Nat.reduceAdd, Nat.reduceMul, Nat.reduceSub, Nat.zero_le, Nat.reduceLeDiff, Nat.reduceEqDiff, Nat.le_refl, not_false_eq_true, not_true_eq_false, false_implies, true_implies, forall_const, true_and, and_true, if_true, if_false, implies_true, and_self, ne_eq, false_and, and_false, or_false, false_or, true_or, or_true]
    refine mw_mono (w_addRing (d := d + 3) U.1.rep hw.1 hR hg k2 tb (by omega)) ?_
    rintro _ M2 ⟨rfl, R2, A2⟩
    have hn6 := hg.2.1
    have lo : ∀ j, (j < 82 ∨ 138 ≤ j) → j ≠ 5 → sRing a n b j = a j := fun j h h5 => sRing_lo h h5 hR hn6
    have Y := Yc.of U.1 A2 R2 (lo 2 (by omega) (by omega)) (fun j hj => lo j (by omega) (by omega))
    simp (disch := omega) only [q_aload0, q_aload0N, q_get_r, pTag_1, pRf_s, q_invv0, inv_1, q_istore1, q_iload1, q_invv1, q_if_ne, q_thr, q_get_i, q_bipush, q_ic_lt, q_invv2, q_iret, e_28_0, e_28_1, e_28_2, L_8, k_some, k_none, pRm_i, pRm_r, pRm_0, pF_1, pF_2, inv_s, gS_sI, gP_sI, gI_sI, Nat.add_left_cancel_iff, Nat.add_eq_left, Nat.left_eq_add, nN_le, nN_lt, nN_eq, nN_add, nN_mul, nN_lt0, nN_ge0, nN_gt0, nN_le0, nN_eq0, nN_eq1, nN_neN, pIn_n, pIx_n, eq_self, Nat.reduceLT, Bool.false_eq_true, Nat.add_zero, Nat.zero_add, Nat.reduceAdd, Nat.reduceMul, Nat.reduceSub, Nat.zero_le, Nat.reduceLeDiff, Nat.reduceEqDiff, Nat.le_refl, not_false_eq_true, not_true_eq_false, false_implies, true_implies, forall_const, true_and, and_true, if_true, if_false, implies_true, and_self, ne_eq, false_and, and_false, or_false, false_or, true_or, or_true]
    exact ⟨U.1.go hk Y.1 Y.2.1 Y.2.2, U.2.trans Y.1.cf⟩
  · exact absurd hg h
theorem c_ring_n1 (c : CI M a ak img n b fl) (hw : Wf a) (hn : n ≤ 400) (hb : ∀ k, b k < 256) (hg : ¬ RgO a n b) : mw (d + 6) 28 [.ref 0] M (fun o M' => o = .inr 0 ∧ ∃ M1, Xc M a ak img 0 b fl M1 ∧ M' = nx M1) := by
  have k0 := c.sh.k0
  have q0 := c.sh.p0
  have k1 := c.sh.k1
  have U := c.used
  have tb : ∀ k, k < n → gI (sI M 1 1 (nN 0)) 2 k = nN (b k) := fun k hk => by rw [gI_sI, if_neg (by omega)]; exact c.tb k hk
  simp (disch := omega) only [m_28, q_aload0, q_aload0N, q_get_r, pTag_1, pRf_s, q_invv0, inv_1, q_istore1, q_iload1, q_invv1, q_if_ne, q_thr, q_get_i, q_bipush, q_ic_lt, q_invv2, q_iret, e_28_0, e_28_1, e_28_2, L_8, k_some, k_none, pRm_i, pRm_r, pRm_0, pF_1, pF_2, inv_s, k0, q0, w_useUp k1, c.tn, gS_sI, gP_sI, gS_sI, gP_sI, gI_sI, Nat.add_left_cancel_iff, Nat.add_eq_left, Nat.left_eq_add, nN_le, nN_lt, nN_eq, nN_add, nN_mul, nN_lt0, nN_ge0, nN_gt0, nN_le0, nN_eq0, nN_eq1, nN_neN, pIn_n, pIx_n, eq_self, Nat.reduceLT, Bool.false_eq_true, Nat.add_zero, Nat.zero_add, Nat.reduceAdd, Nat.reduceMul, Nat.reduceSub, Nat.zero_le, Nat.reduceLeDiff, Nat.reduceEqDiff, Nat.le_refl, not_false_eq_true, not_true_eq_false, false_implies, true_implies, forall_const, true_and, and_true, if_true, if_false, implies_true, and_self, ne_eq, false_and, and_false, or_false, false_or, true_or, or_true]
  refine ⟨by rw [k1], mw_mono (w_isRing (d := d + 2) (n := n) (b := b) U.1 hw hn tb hb) ?_⟩
  rintro o M1 ⟨rfl, h⟩
  rcases h with ⟨h, -⟩ | ⟨h, rfl⟩
  · exact absurd h hg
  · simp (disch := omega) only [q_aload0, q_aload0N, q_get_r, pTag_1, pRf_s, q_invv0, inv_1, q_istore1, q_iload1, q_invv1, q_if_ne, q_thr, q_get_i, q_bipush, q_ic_lt, q_invv2, q_iret, e_28_0, e_28_1, e_28_2, L_8, k_some, k_none, pRm_i, pRm_r, pRm_0, pF_1, pF_2, inv_s, q_thr, pRm_i, pRm_r, pRm_0, k0, q0, gS_sI, gP_sI, gS_sI, gP_sI, gI_sI, Nat.add_left_cancel_iff, Nat.add_eq_left, Nat.left_eq_add, nN_le, nN_lt, nN_eq, nN_add, nN_mul, nN_lt0, nN_ge0, nN_gt0, nN_le0, nN_eq0, nN_eq1, nN_neN, pIn_n, pIx_n, eq_self, Nat.reduceLT, Bool.false_eq_true, Nat.add_zero, Nat.zero_add, Nat.reduceAdd, Nat.reduceMul, Nat.reduceSub, Nat.zero_le, Nat.reduceLeDiff, Nat.reduceEqDiff, Nat.le_refl, not_false_eq_true, not_true_eq_false, false_implies, true_implies, forall_const, true_and, and_true, if_true, if_false, implies_true, and_self, ne_eq, false_and, and_false, or_false, false_or, true_or, or_true]
    exact ⟨_, U, rfl⟩
theorem c_ring_n2 (c : CI M a ak img n b fl) (hw : Wf a) (hn : n ≤ 400) (hb : ∀ k, b k < 256) (hg : RgO a n b) (hR : nR a = 8) : mw (d + 6) 28 [.ref 0] M (fun o M' => o = .inr 2 ∧ ∃ M1, Xc M a ak img 0 b fl M1 ∧ M' = nx M1) := by
  have k0 := c.sh.k0
  have q0 := c.sh.p0
  have p1 := c.sh.p1
  have k1 := c.sh.k1
  have U := c.used
  have t9 := c.sh.t3.k0
  have hR9 : gI (sI M 1 1 (nN 0)) 3 11 = nN 8 := by rw [gI_sI, if_neg (by omega), c.rep.nr, hw.r, hR]
  have tb : ∀ k, k < n → gI (sI M 1 1 (nN 0)) 2 k = nN (b k) := fun k hk => by rw [gI_sI, if_neg (by omega)]; exact c.tb k hk
  simp (disch := omega) only [m_28, q_aload0, q_aload0N, q_get_r, pTag_1, pRf_s, q_invv0, inv_1, q_istore1, q_iload1, q_invv1, q_if_ne, q_thr, q_get_i, q_bipush, q_ic_lt, q_invv2, q_iret, e_28_0, e_28_1, e_28_2, L_8, k_some, k_none, pRm_i, pRm_r, pRm_0, pF_1, pF_2, inv_s, k0, q0, w_useUp k1, c.tn, gS_sI, gP_sI, gS_sI, gP_sI, gI_sI, Nat.add_left_cancel_iff, Nat.add_eq_left, Nat.left_eq_add, nN_le, nN_lt, nN_eq, nN_add, nN_mul, nN_lt0, nN_ge0, nN_gt0, nN_le0, nN_eq0, nN_eq1, nN_neN, pIn_n, pIx_n, eq_self, Nat.reduceLT, Bool.false_eq_true, Nat.add_zero, Nat.zero_add, Nat.reduceAdd, Nat.reduceMul, Nat.reduceSub, Nat.zero_le, Nat.reduceLeDiff, Nat.reduceEqDiff, Nat.le_refl, not_false_eq_true, not_true_eq_false, false_implies, true_implies, forall_const, true_and, and_true, if_true, if_false, implies_true, and_self, ne_eq, false_and, and_false, or_false, false_or, true_or, or_true]
  refine ⟨by rw [k1], mw_mono (w_isRing (d := d + 2) (n := n) (b := b) U.1 hw hn tb hb) ?_⟩
  rintro o M1 ⟨rfl, h⟩
  rcases h with ⟨-, rfl⟩ | ⟨h, -⟩
  · simp (disch := omega) only [q_aload0, q_aload0N, q_get_r, pTag_1, pRf_s, q_invv0, inv_1, q_istore1, q_iload1, q_invv1, q_if_ne, q_thr, q_get_i, q_bipush, q_ic_lt, q_invv2, q_iret, e_28_0, e_28_1, e_28_2, L_8, k_some, k_none, pRm_i, pRm_r, pRm_0, pF_1, pF_2, inv_s, q_thr, pRm_i, pRm_r, pRm_0, k0, q0, p1, t9, hR9, gS_sI, gP_sI, gS_sI, gP_sI, gI_sI, Nat.add_left_cancel_iff, Nat.add_eq_left, Nat.left_eq_add, nN_le, nN_lt, nN_eq, nN_add, nN_mul, nN_lt0, nN_ge0, nN_gt0, nN_le0, nN_eq0, nN_eq1, nN_neN, pIn_n, pIx_n, eq_self, Nat.reduceLT, Bool.false_eq_true, Nat.add_zero, Nat.zero_add, Nat.reduceAdd, Nat.reduceMul, Nat.reduceSub, Nat.zero_le, Nat.reduceLeDiff, Nat.reduceEqDiff, Nat.le_refl, not_false_eq_true, not_true_eq_false, false_implies, true_implies, forall_const, true_and, and_true, if_true, if_false, implies_true, and_self, ne_eq, false_and, and_false, or_false, false_or, true_or, or_true]
    exact ⟨_, U, rfl⟩
  · exact absurd hg h
end AR
