/-! WRITERS: vanish, come into, pass -/
def XTw (S : Nat → Nat × Nat) (P : Nat → Nat → Option Nat) (t h k : Nat) : Prop := (t ≤ h ∧ h < t + 22) ∨ ∃ q, TSh S P q ∧ XQ q h k
theorem XC_XTw {S : Nat → Nat × Nat} {P : Nat → Nat → Option Nat} {t : Nat} : ∀ h k, XC S P t h k → XTw S P t h k := by
  rintro h k (e | e)
  · exact Or.inl (by omega)
  · exact Or.inr e
/-- what a temper bears -/
def XA (S : Nat → Nat × Nat) (P : Nat → Nat → Option Nat) (h k : Nat) : Prop := h ≤ 100 ∨ ∃ q, TSh S P q ∧ XQ q h k
theorem XTw_XA {S : Nat → Nat × Nat} {P : Nat → Nat → Option Nat} {t : Nat} (ht : t + 22 ≤ 101) : ∀ h k, XTw S P t h k → XA S P h k := by
  rintro h k (e | e)
  · exact Or.inl (by omega)
  · exact Or.inr e
theorem TmO.agA {M M' : pMem} {q : Nat} {cs : List Nat} (h : TmO M q cs) (A : Ag (XA (gS M) (gP M)) M M') : TmO M' q cs := by
  obtain ⟨h1, h2, h3, h4, h5⟩ := h
  obtain ⟨g1, g2, g3, g4, g5, g6⟩ := h1
  refine ⟨by rw [A.S, A.P]; exact ⟨g1, g2, g3, g4, g5, g6⟩, by rw [A.S]; exact h2, fun i hi => ?_, h4, h5⟩
  rw [A.I, h3 i hi]
  rintro (e | ⟨q', ⟨z1, z2, z3, -⟩, e | ⟨e, -⟩⟩)
  · omega
  · have e9 : q' = q + 1 := by omega
    rw [e9, g3] at z2
    cases z2
  · rw [← e, g4] at z2
    cases z2
theorem TmR.agA {M M' : pMem} {t : Nat} {a : Nat → Int32} (h : TmR M t a) (A : Ag (XA (gS M) (gP M)) M M') : TmR M' t a := by
  intro k hk
  obtain ⟨q, cs, h1, h2, h3⟩ := h k hk
  exact ⟨q, cs, by rw [A.P]; exact h1, h2.agA A, h3⟩
theorem TmR.tab {M : pMem} {t : Nat} {a a' : Nat → Int32} (h : TmR M t a) (e : nT a' = nT a) (e2 : ∀ k, k < nT a → txt a' k = txt a k) : TmR M t a' := by
  intro k hk
  rw [e] at hk
  obtain ⟨q, cs, h1, h2, h3⟩ := h k hk
  refine ⟨q, cs, h1, h2, fun fv => ?_⟩
  unfold tv
  rw [e2 k hk]
  exact h3 fv
theorem txt_hi {a a' : Nat → Int32} {k : Nat} (hi : ∀ j, 940 ≤ j → a' j = a j) : txt a' k = txt a k := by
  unfold txt
  rw [hi _ (by omega)]
  exact List.map_congr_left (fun j _ => hi _ (by omega))
theorem nN_z : nN 0 = 0 := nN_0.symm
theorem i32_neg {x : Int32} : -x = 0 - x := by grind
section WA
variable {d a n k : Nat} {M M0 : pMem} {x : Int32} {Q : pOut → pMem → Prop}
theorem w_atS (hs : gS M0 a = (100, n)) (e : gS M = gS M0) (hn : n < 1000000) (hk : k < n) : mw (d + 1) 44 [.ref a, .int (nN k)] M Q = Q (.inl (some (.int (gI M a k)))) M := w_atN (by rw [e]; exact hs) hn hk
theorem w_putS (hs : gS M0 a = (100, n)) (e : gS M = gS M0) (hn : n < 1000000) (hk : k < n) : mw (d + 1) 45 [.ref a, .int (nN k), .int x] M Q = Q (.inl none) (sI M a k x) := w_putN (by rw [e]; exact hs) hn hk
theorem w_addS (hs : gS M0 a = (100, n)) (e : gS M = gS M0) (hn : n < 1000000) (hk : k < n) : mw (d + 1) 46 [.ref a, .int (nN k), .int x] M Q = Q (.inl none) (sI M a k (gI M a k + x)) := w_addN (by rw [e]; exact hs) hn hk
end WA
section WR
variable {d t u q f p g n y : Nat} {a : Nat → Int32} {M M' M0 : pMem} {Q : pOut → pMem → Prop}
theorem w_worthS {m : Int32} (hs : ShT (gS M0) (gP M0) t) (e : gS M = gS M0) (e2 : gP M = gP M0) (hf : f < 40) : mw (d + 2) 147 [.ref (t + 7), .int (nN f), .int m] M Q = Q (.inl (some (.int (sWorth (gI M (t + 10) f) (gI M (t + 11) f + m))))) M := by
  rw [← e, ← e2] at hs
  simp (disch := first | omega | rfl | (repeat' (first | exact gS_sI | exact gP_sI | refine Eq.trans gS_sI ?_ | refine Eq.trans gP_sI ?_))) only [m_147, q_aload0, q_aload0N, q_get_r, pTag_1, pRf_s, q_iload1, q_invs2_21, q_sipush, q_imul, q_iload2, q_iadd, q_ishr, q_iret, e_147_0, L_1024, k_some, k_none, pRm_i, pRm_r, pRm_0, pF_1, pF_2, inv_s, hs.k0, hs.k1, hs.k7, hs.p0, hs.p1, hs.p2, hs.p3, hs.p4, hs.p5, hs.p6, hs.p7, hs.p8, hs.q0, hs.q1, hs.q2, hs.q3, hs.q4, hs.r0, hs.r1, hs.r2, hs.r3, hs.r4, hs.r5, hs.r6, w_atS hs.k2, w_atS hs.k3, w_atS hs.k4, w_atS hs.k5, w_atS hs.k6, w_atS hs.k8, w_atS hs.k9, w_atS hs.k10, w_atS hs.k11, w_atS hs.k12, w_atS hs.k13, w_atS hs.k14, w_atS hs.k17, w_atS hs.k18, w_atS hs.k19, w_atS hs.k20, w_atS hs.k21, w_putS hs.k2, w_putS hs.k3, w_putS hs.k4, w_putS hs.k5, w_putS hs.k6, w_putS hs.k8, w_putS hs.k9, w_putS hs.k10, w_putS hs.k11, w_putS hs.k12, w_putS hs.k13, w_putS hs.k14, w_putS hs.k17, w_putS hs.k18, w_putS hs.k19, w_putS hs.k20, w_putS hs.k21, w_addS hs.k2, w_addS hs.k3, w_addS hs.k4, w_addS hs.k5, w_addS hs.k6, w_addS hs.k8, w_addS hs.k9, w_addS hs.k10, w_addS hs.k11, w_addS hs.k12, w_addS hs.k13, w_addS hs.k14, w_addS hs.k17, w_addS hs.k18, w_addS hs.k19, w_addS hs.k20, w_addS hs.k21, nN_le, nN_lt, nN_eq, nN_add, nN_mul, nN_lt0, nN_ge0, nN_gt0, nN_le0, nN_eq0, nN_eq1, nN_neN, pIn_n, pIx_n, eq_self, Nat.add_zero, Nat.zero_add, Nat.reduceAdd, Nat.reduceMul, Nat.reduceSub, Nat.zero_le, Nat.reduceLeDiff, Nat.reduceEqDiff, Nat.le_refl, not_false_eq_true, not_true_eq_false, false_implies, true_implies, forall_const, true_and, and_true, if_true, if_false, implies_true, and_self, ne_eq, false_and, and_false, or_false, false_or, true_or, or_true]
  rfl
theorem w_rowLengthS (hs : ShT (gS M0) (gP M0) t) (e : gS M = gS M0) (e2 : gP M = gP M0) (hf : f < 40) : mw (d + 2) 148 [.ref (t + 7), .int (nN f)] M Q = Q (.inl (some (.int (gI M (t + 11) f + nN 2)))) M := by
  rw [← e, ← e2] at hs
  simp (disch := first | omega | rfl | (repeat' (first | exact gS_sI | exact gP_sI | refine Eq.trans gS_sI ?_ | refine Eq.trans gP_sI ?_))) only [m_148, q_aload0, q_aload0N, q_get_r, pTag_1, pRf_s, q_iload1, q_invs2_21, q_iconst, q_iadd, q_iret, e_148_0, L_2, k_some, k_none, pRm_i, pRm_r, pRm_0, pF_1, pF_2, inv_s, hs.k0, hs.k1, hs.k7, hs.p0, hs.p1, hs.p2, hs.p3, hs.p4, hs.p5, hs.p6, hs.p7, hs.p8, hs.q0, hs.q1, hs.q2, hs.q3, hs.q4, hs.r0, hs.r1, hs.r2, hs.r3, hs.r4, hs.r5, hs.r6, w_atS hs.k2, w_atS hs.k3, w_atS hs.k4, w_atS hs.k5, w_atS hs.k6, w_atS hs.k8, w_atS hs.k9, w_atS hs.k10, w_atS hs.k11, w_atS hs.k12, w_atS hs.k13, w_atS hs.k14, w_atS hs.k17, w_atS hs.k18, w_atS hs.k19, w_atS hs.k20, w_atS hs.k21, w_putS hs.k2, w_putS hs.k3, w_putS hs.k4, w_putS hs.k5, w_putS hs.k6, w_putS hs.k8, w_putS hs.k9, w_putS hs.k10, w_putS hs.k11, w_putS hs.k12, w_putS hs.k13, w_putS hs.k14, w_putS hs.k17, w_putS hs.k18, w_putS hs.k19, w_putS hs.k20, w_putS hs.k21, w_addS hs.k2, w_addS hs.k3, w_addS hs.k4, w_addS hs.k5, w_addS hs.k6, w_addS hs.k8, w_addS hs.k9, w_addS hs.k10, w_addS hs.k11, w_addS hs.k12, w_addS hs.k13, w_addS hs.k14, w_addS hs.k17, w_addS hs.k18, w_addS hs.k19, w_addS hs.k20, w_addS hs.k21, nN_le, nN_lt, nN_eq, nN_add, nN_mul, nN_lt0, nN_ge0, nN_gt0, nN_le0, nN_eq0, nN_eq1, nN_neN, pIn_n, pIx_n, eq_self, Nat.add_zero, Nat.zero_add, Nat.reduceAdd, Nat.reduceMul, Nat.reduceSub, Nat.zero_le, Nat.reduceLeDiff, Nat.reduceEqDiff, Nat.le_refl, not_false_eq_true, not_true_eq_false, false_implies, true_implies, forall_const, true_and, and_true, if_true, if_false, implies_true, and_self, ne_eq, false_and, and_false, or_false, false_or, true_or, or_true]
theorem sRich_fS2 {v q : Int32} (hf : f < nF a) : sRich (fS a f 2 v) q = sRich a q + ((if v = q then sWorth (fa a f 1) (fa a f 3) else nN 0) - (if fa a f 2 = q then sWorth (fa a f 1) (fa a f 3) else nN 0)) := by
  rw [sRich_eq, sRich_eq, lo_nF (fun j hj => fS_lo hj), sS_upd (f := f) (nF a) hf (g := fun f => if fa a f 2 = q then sWorth (fa a f 1) (fa a f 3) else nN 0)]
  · simp [fS_fa]
  · intro i hi h2
    simp [fS_fa, h2]
theorem sDebt_fS2 {v q : Int32} (hf : f < nF a) : sDebt (fS a f 2 v) q = sDebt a q + ((if fa a f 0 = q ∧ v ≠ iN (-1) then fa a f 1 else nN 0) - (if fa a f 0 = q ∧ fa a f 2 ≠ iN (-1) then fa a f 1 else nN 0)) := by
  rw [sDebt_eq, sDebt_eq, lo_nF (fun j hj => fS_lo hj), sS_upd (f := f) (nF a) hf (g := fun f => if fa a f 0 = q ∧ fa a f 2 ≠ iN (-1) then fa a f 1 else nN 0)]
  · simp [fS_fa]
  · intro i hi h2
    simp [fS_fa, h2]
def sGone (a : Nat → Int32) (f : Nat) : Nat → Int32 := fS a f 2 (iN (-1))
theorem sGone_wf (hw : Wf a) (hf : f < nF a) : Wf (sGone a f) := by
  refine wf_fav (f := f) hw hf (fun j hj => fS_lo hj) (fun g z h1 h2 => fS_ne (by omega) h2 (Or.inl h1)) ?_ ?_ ?_ ?_ ?_
  · obtain ⟨g, h1, h2⟩ := hw.fG f hf; exact ⟨g, h1, by unfold sGone; rw [fS_ne (by omega) (by omega) (Or.inr (by omega))]; exact h2⟩
  · obtain ⟨g, h1, h2, h3⟩ := hw.fA f hf; exact ⟨g, h1, h2, by unfold sGone; rw [fS_ne (by omega) (by omega) (Or.inr (by omega))]; exact h3⟩
  · exact Or.inl (fS_same (by omega))
  · obtain ⟨h1, h2, h3⟩ := hw.fD f hf
    have e : fD (sGone a f) f = fD a f := by unfold fD sGone; rw [fS_ne (by omega) (by omega) (Or.inr (by omega))]
    rw [e]
    unfold sGone
    rw [fS_ne (by omega) (by omega) (Or.inr (by omega)), fS_ne (by omega) (by omega) (Or.inr (by omega))]
    exact ⟨h1, h2, h3⟩
  · unfold sGone; rw [fS_ne (by omega) (by omega) (Or.inr (by omega))]; exact hw.fC f hf
theorem w_vanish (hr : Rep M t a) (hw : Wf a) (hf : f < nF a) (hh : ¬ fa a f 2 = iN (-1)) : mw (d + 4) 233 [.ref t, .int (nN f)] M (fun o M' => o = .inl none ∧ Rep M' t (sGone a f) ∧ Ag (XTw (gS M) (gP M) t) M M') := by
  have hp' := hw.p'
  have hf' := hw.f'
  have hs := hr.sh
  obtain ⟨h, hh1, hh2⟩ := (hw.fH f hf).resolve_left hh
  obtain ⟨g, hg1, hg2⟩ := hw.fG f hf
  have a1 := hr.am f hf
  have a2 := hr.hd f hf
  have a3 := hr.g f hf
  have a4 := hr.h f hf
  rw [hh2] at a4
  rw [hg2] at a3
  simp (disch := first | omega | rfl | (repeat' (first | exact gS_sI | exact gP_sI | refine Eq.trans gS_sI ?_ | refine Eq.trans gP_sI ?_))) only [m_233, q_aload0, q_aload0N, q_get_r, pTag_1, pRf_s, q_iload1, q_invs2_21, q_iconst, q_invv2, inv_1, q_ineg, q_invs3_21, q_vret, e_233_0, L_0, k_some, k_none, pRm_i, pRm_r, pRm_0, pF_1, pF_2, inv_s, hs.k0, hs.k1, hs.k7, hs.p0, hs.p1, hs.p2, hs.p3, hs.p4, hs.p5, hs.p6, hs.p7, hs.p8, hs.q0, hs.q1, hs.q2, hs.q3, hs.q4, hs.r0, hs.r1, hs.r2, hs.r3, hs.r4, hs.r5, hs.r6, w_atS hs.k2, w_atS hs.k3, w_atS hs.k4, w_atS hs.k5, w_atS hs.k6, w_atS hs.k8, w_atS hs.k9, w_atS hs.k10, w_atS hs.k11, w_atS hs.k12, w_atS hs.k13, w_atS hs.k14, w_atS hs.k17, w_atS hs.k18, w_atS hs.k19, w_atS hs.k20, w_atS hs.k21, w_putS hs.k2, w_putS hs.k3, w_putS hs.k4, w_putS hs.k5, w_putS hs.k6, w_putS hs.k8, w_putS hs.k9, w_putS hs.k10, w_putS hs.k11, w_putS hs.k12, w_putS hs.k13, w_putS hs.k14, w_putS hs.k17, w_putS hs.k18, w_putS hs.k19, w_putS hs.k20, w_putS hs.k21, w_addS hs.k2, w_addS hs.k3, w_addS hs.k4, w_addS hs.k5, w_addS hs.k6, w_addS hs.k8, w_addS hs.k9, w_addS hs.k10, w_addS hs.k11, w_addS hs.k12, w_addS hs.k13, w_addS hs.k14, w_addS hs.k17, w_addS hs.k18, w_addS hs.k19, w_addS hs.k20, w_addS hs.k21, w_worthS hs, a1, a2, a3, a4, gS_sI, gP_sI, gI_sI, Nat.add_left_cancel_iff, Nat.add_eq_left, Nat.left_eq_add, nN_le, nN_lt, nN_eq, nN_add, nN_mul, nN_lt0, nN_ge0, nN_gt0, nN_le0, nN_eq0, nN_eq1, nN_neN, pIn_n, pIx_n, eq_self, Nat.add_zero, Nat.zero_add, Nat.reduceAdd, Nat.reduceMul, Nat.reduceSub, Nat.zero_le, Nat.reduceLeDiff, Nat.reduceEqDiff, Nat.le_refl, not_false_eq_true, not_true_eq_false, false_implies, true_implies, forall_const, true_and, and_true, if_true, if_false, implies_true, and_self, ne_eq, false_and, and_false, or_false, false_or, true_or, or_true, add_n0]
  refine ⟨rep_fav (f := f) hr hw (fun j hj => fS_lo hj) (fun g z h1 h2 => fS_ne (by omega) h2 (Or.inl h1)) rfl rfl ?_ ?_ ?_ ?_ ?_ ?_ ?_ ?_ ?_ ?_, ?_⟩
  · intro i k h1 h2 h3 h4 h5 h6 h7
    simp [gI_sI, h2, h3, h4]
  · exact fS_ne (by omega) (by omega) (Or.inr (by omega))
  · exact fS_ne (by omega) (by omega) (Or.inr (by omega))
  · exact fS_ne (by omega) (by omega) (Or.inr (by omega))
  · exact fS_ne (by omega) (by omega) (Or.inr (by omega))
  · intro k hk
    by_cases c : k = f
    · subst c; simp [gI_sI, fS_same, sGone]
    · simp [gI_sI, c, fS_fa, sGone, hr.h k hk]
  · intro k hk
    simp [gI_sI, fS_fa, sGone, hr.hd k hk]
  · intro k i hk hi
    have e : fD (sGone a f) k = fD a k := by unfold fD sGone; rw [fS_ne (by omega) (by omega) (Or.inr (by omega))]
    rw [e] at hi
    have := (hw.fD k hk).1
    have c : ¬ 7 + i = 2 := by omega
    simp (disch := omega) [gI_sI, fS_fa, sGone, hr.row k i hk hi, c]
  · intro k hk
    unfold sGone
    rw [sRich_fS2 hf, hh2, if_neg (show ¬ iN (-1) = nN k from fun z => by have := z.symm; rw [nN_neN (by omega)] at this; exact this)]
    by_cases c : h = k
    · subst c
      simp [gI_sI, hr.rich h hk, nN_z]
    · have c' : ¬ nN h = nN k := by rw [nN_eq (by omega) (by omega)]; exact c
      have c2 : ¬ k = h := fun z => c z.symm
      simp [gI_sI, hr.rich k hk, c', c2]
  · intro k hk
    unfold sGone
    rw [sDebt_fS2 hf, hh2, hg2]
    have c3 : ¬ nN h = iN (-1) := by rw [nN_neN (by omega)]; exact not_false
    by_cases c : g = k
    · subst c
      simp [gI_sI, hr.debt g hk, c3, nN_z]
    · have c' : ¬ nN g = nN k := by rw [nN_eq (by omega) (by omega)]; exact c
      have c2 : ¬ k = g := fun z => c z.symm
      simp [gI_sI, hr.debt k hk, c', c2]
  · exact Ag.put (Ag.put (Ag.one (Or.inl (by omega))) (Or.inl (by omega))) (Or.inl (by omega))
end WR
