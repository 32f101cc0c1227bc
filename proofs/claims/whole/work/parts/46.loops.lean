/-! LOOPS THAT WRITE: let go, let days pass -/
theorem loopR {σ J : Type} {d y b n : Nat} {C : Nat → σ → J → pMem → pCfg} {f : Nat → σ → σ} {R : Nat → σ → pMem → Prop} {Q : pOut → pMem → Prop}
    (step : ∀ k s z M, k < n → R k s M → (∀ M' z', R (k + 1) (f k s) M' → bw d y b (C (k + 1) (f k s) z' M') Q) → bw d y b (C k s z M) Q) :
    ∀ (j k : Nat) (s : σ) (z : J) (M : pMem), k + j = n → R k s M → (∀ M' z', R n (lp j k s f) M' → bw d y b (C n (lp j k s f) z' M') Q) → bw d y b (C k s z M) Q := by
  intro j
  induction j with
  | zero =>
    intro k s z M hk hR h
    have : k = n := by omega
    subst this
    exact h M z hR
  | succ j ih =>
    intro k s z M hk hR h
    exact step k s z M (by omega) hR (fun M' z' hR' => ih (k + 1) (f k s) z' M' (by omega) hR' h)
theorem lp_inv {α : Type} {f : Nat → α → α} {P : Nat → α → Prop} : ∀ (j k : Nat) (s : α), P k s → (∀ i s, k ≤ i → i < k + j → P i s → P (i + 1) (f i s)) → P (k + j) (lp j k s f) := by
  intro j
  induction j with
  | zero => intro k s h _; exact h
  | succ j ih =>
    intro k s h st
    have := ih (k + 1) (f k s) (st k s (by omega) (by omega) h) (fun i s h1 h2 h3 => st i s (by omega) (by omega) h3)
    rw [show k + 1 + j = k + (j + 1) from by omega] at this
    exact this
abbrev tSt : Type := (Nat → Int32) × Int32
def sLetF (set : Int32) (f : Nat) (s : tSt) : tSt := if ¬ fa s.1 f 2 = iN (-1) ∧ (set >>> (fa s.1 f 2 &&& 31)) &&& nN 1 = nN 1 then (sGone s.1 f, s.2 + nN 1) else s
def sLets (a : Nat → Int32) (set : Int32) : tSt := lp (nF a) 0 (a, nN 0) (sLetF set)
def sDayF (f : Nat) (s : tSt) : tSt := if ¬ fa s.1 f 2 = iN (-1) ∧ ¬ fa s.1 f 4 = iN (-1) ∧ fa s.1 f 4 ≤ s.1 6 then (sGone s.1 f, s.2 + nN 1) else s
def sDayA (a : Nat → Int32) (v : Int32) : Nat → Int32 := fun j => if j = 6 then v else a j
def sDays (a : Nat → Int32) (n : Int32) : tSt := lp (nF a) 0 (sDayA a (a 6 + n), nN 0) sDayF
/-- only whose favours are gone differs -/
def Gn (a b : Nat → Int32) : Prop := (∀ j, j < 140 → b j = a j) ∧ (∀ j, 940 ≤ j → b j = a j)
theorem Gn.rfl {a : Nat → Int32} : Gn a a := ⟨fun _ _ => Eq.refl _, fun _ _ => Eq.refl _⟩
theorem Gn.trans {a b c : Nat → Int32} (h : Gn a b) (g : Gn b c) : Gn a c := ⟨fun j hj => (g.1 j hj).trans (h.1 j hj), fun j hj => (g.2 j hj).trans (h.2 j hj)⟩
theorem Gn.gone {a : Nat → Int32} {f : Nat} (hf : f < 40) : Gn a (sGone a f) := ⟨fun _ hj => sGone_lo hj, fun _ hj => sGone_hi hj hf⟩
theorem sLets_ok {a : Nat → Int32} {set : Int32} (hw : Wf a) : Wf (sLets a set).1 ∧ Gn a (sLets a set).1 := by
  have hf' := hw.f'
  have := lp_inv (f := sLetF set) (P := fun _ s => Wf s.1 ∧ Gn a s.1) (nF a) 0 (a, nN 0) ⟨hw, Gn.rfl⟩ (fun i s h1 h2 h3 => by
    have e : nF s.1 = nF a := lo_nF h3.2.1
    unfold sLetF
    split
    · exact ⟨sGone_wf h3.1 (by omega), h3.2.trans (Gn.gone (by omega))⟩
    · exact h3)
  exact this
section LG
variable {d t u q f p g n y : Nat} {a : Nat → Int32} {M M' M0 : pMem} {Q : pOut → pMem → Prop}
theorem w_letGo {set : Int32} (hr : Rep M t a) (hw : Wf a) : mw (d + 6) 235 [.ref t, .int set] M (fun o M' => o = .inl (some (.int (sLets a set).2)) ∧ Rep M' t (sLets a set).1 ∧ Ag (XTw (gS M) (gP M) t) M M') := by
  have hf' := hw.f'
  simp (disch := omega) only [m_235, q_iconst, q_istore2, q_istore3, q_nop, q_iload3, q_aload0, q_aload0N, q_get_r, pTag_1, pRf_s, q_get_i, q_ic_ge, q_invv1, inv_1, q_if_ne, q_iload1, q_invs2_21, q_if_eq, q_iinc2, q_iinc3, q_goto, q_iload2, q_iret, e_235_0, e_235_2, e_235_3, L_0, L_1, k_some, k_none, pRm_i, pRm_r, pRm_0, pF_1, pF_2, inv_s]
  refine loopR (n := nF a) (J := Unit) (C := fun k s _ M => ([some (.ref t), some (.int set), some (.int s.2), some (.int (nN k))], [], M)) (f := sLetF set) (R := fun k s M1 => (Rep M1 t s.1 ∧ Ag (XTw (gS M) (gP M) t) M M1) ∧ Wf s.1 ∧ Gn a s.1) ?_ (nF a) 0 (a, nN 0) () M (by omega) ⟨⟨hr, Ag.rfl⟩, hw, Gn.rfl⟩ ?_
  · rintro k s _ M1 hk ⟨⟨r1, A1⟩, w1, G1⟩ go
    have e : nF s.1 = nF a := lo_nF G1.1
    have e1 : ¬ nF s.1 ≤ k := by omega
    have hf1 : k < nF s.1 := by omega
    have go2 : ∀ M2, (Rep M2 t (sLetF set k s).1 ∧ Ag (XTw (gS M) (gP M) t) M M2) → Wf (sLetF set k s).1 ∧ Gn a (sLetF set k s).1 → bw (d + 5) 235 2 ([some (.ref t), some (.int set), some (.int (sLetF set k s).2), some (.int (nN k))], [], M2) _ := fun M2 h1 h2 => by
      rw [e_235_2]
      simp (disch := omega) only [q_iconst, q_istore2, q_istore3, q_nop, q_iload3, q_aload0, q_aload0N, q_get_r, pTag_1, pRf_s, q_get_i, q_ic_ge, q_invv1, inv_1, q_if_ne, q_iload1, q_invs2_21, q_if_eq, q_iinc2, q_iinc3, q_goto, q_iload2, q_iret, e_235_0, e_235_2, e_235_3, L_0, L_1, k_some, k_none, pRm_i, pRm_r, pRm_0, pF_1, pF_2, inv_s, nN_add]
      exact go M2 () ⟨h1, h2⟩
    rw [e_235_1]
    by_cases c1 : fa s.1 k 2 = iN (-1)
    · have ef : sLetF set k s = s := by unfold sLetF; rw [if_neg (fun z => z.1 c1)]
      rw [ef] at go2
      simp (disch := omega) only [q_iconst, q_istore2, q_istore3, q_nop, q_iload3, q_aload0, q_aload0N, q_get_r, pTag_1, pRf_s, q_get_i, q_ic_ge, q_invv1, inv_1, q_if_ne, q_iload1, q_invs2_21, q_if_eq, q_iinc2, q_iinc3, q_goto, q_iload2, q_iret, e_235_0, e_235_3, L_0, L_1, k_some, k_none, pRm_i, pRm_r, pRm_0, pF_1, pF_2, inv_s, r1.sh.k7, r1.nf, r1.sh.r0, r1.sh.r1, r1.sh.r2, r1.sh.r3, r1.sh.r4, r1.sh.r5, r1.sh.r6, w_atN r1.sh.k8, w_atN r1.sh.k9, w_atN r1.sh.k10, w_atN r1.sh.k11, w_atN r1.sh.k12, w_atN r1.sh.k13, w_atN r1.sh.k14, r1.g, r1.h, r1.am, r1.hd, r1.en, r1.fc, r1.sh.k0, r1.nt, r1.ne, r1.nr, r1.nx, r1.day, r1.law, r1.sh.p0, r1.sh.p1, r1.sh.p2, r1.sh.p3, r1.sh.p4, r1.sh.p5, r1.sh.p6, r1.sh.p7, r1.sh.p8, w1.f, w_isGone r1 w1, c1, e1, bI_eq0, nN_le, nN_lt, nN_eq, nN_add, nN_mul, nN_lt0, nN_ge0, nN_gt0, nN_le0, nN_eq0, nN_eq1, nN_neN, pIn_n, pIx_n, eq_self, Bool.false_eq_true, Nat.add_zero, Nat.zero_add, Nat.reduceAdd, Nat.reduceMul, Nat.reduceSub, Nat.zero_le, Nat.reduceLeDiff, Nat.reduceEqDiff, Nat.le_refl, not_false_eq_true, not_true_eq_false, false_implies, true_implies, forall_const, true_and, and_true, if_true, if_false, implies_true, and_self, ne_eq, false_and, and_false, or_false, false_or, true_or, or_true]
      exact go2 M1 ⟨r1, A1⟩ ⟨w1, G1⟩
    · by_cases c2 : (set >>> (fa s.1 k 2 &&& 31)) &&& nN 1 = nN 1
      · have ef : sLetF set k s = (sGone s.1 k, s.2 + nN 1) := by unfold sLetF; rw [if_pos ⟨c1, c2⟩]
        rw [ef] at go2
        simp (disch := omega) only [q_iconst, q_istore2, q_istore3, q_nop, q_iload3, q_aload0, q_aload0N, q_get_r, pTag_1, pRf_s, q_get_i, q_ic_ge, q_invv1, inv_1, q_if_ne, q_iload1, q_invs2_21, q_if_eq, q_iinc2, q_iinc3, q_goto, q_iload2, q_iret, e_235_0, e_235_3, L_0, L_1, k_some, k_none, pRm_i, pRm_r, pRm_0, pF_1, pF_2, inv_s, r1.sh.k7, r1.nf, r1.sh.r0, r1.sh.r1, r1.sh.r2, r1.sh.r3, r1.sh.r4, r1.sh.r5, r1.sh.r6, w_atN r1.sh.k8, w_atN r1.sh.k9, w_atN r1.sh.k10, w_atN r1.sh.k11, w_atN r1.sh.k12, w_atN r1.sh.k13, w_atN r1.sh.k14, r1.g, r1.h, r1.am, r1.hd, r1.en, r1.fc, r1.sh.k0, r1.nt, r1.ne, r1.nr, r1.nx, r1.day, r1.law, r1.sh.p0, r1.sh.p1, r1.sh.p2, r1.sh.p3, r1.sh.p4, r1.sh.p5, r1.sh.p6, r1.sh.p7, r1.sh.p8, w1.f, w_isGone r1 w1, w_hasBit, c1, c2, e1, bI_eq0, nN_le, nN_lt, nN_eq, nN_add, nN_mul, nN_lt0, nN_ge0, nN_gt0, nN_le0, nN_eq0, nN_eq1, nN_neN, pIn_n, pIx_n, eq_self, Bool.false_eq_true, Nat.add_zero, Nat.zero_add, Nat.reduceAdd, Nat.reduceMul, Nat.reduceSub, Nat.zero_le, Nat.reduceLeDiff, Nat.reduceEqDiff, Nat.le_refl, not_false_eq_true, not_true_eq_false, false_implies, true_implies, forall_const, true_and, and_true, if_true, if_false, implies_true, and_self, ne_eq, false_and, and_false, or_false, false_or, true_or, or_true]
        refine mw_mono (w_vanish r1 w1 hf1 c1) ?_
        rintro _ M2 ⟨rfl, r2, A2⟩
        rw [A1.S, A1.P] at A2
        simp (disch := omega) only [q_iconst, q_istore2, q_istore3, q_nop, q_iload3, q_aload0, q_aload0N, q_get_r, pTag_1, pRf_s, q_get_i, q_ic_ge, q_invv1, inv_1, q_if_ne, q_iload1, q_invs2_21, q_if_eq, q_iinc2, q_iinc3, q_goto, q_iload2, q_iret, e_235_0, e_235_3, L_0, L_1, k_some, k_none, pRm_i, pRm_r, pRm_0, pF_1, pF_2, inv_s, eq_self, Bool.false_eq_true, Nat.add_zero, Nat.zero_add, Nat.reduceAdd, Nat.reduceMul, Nat.reduceSub, Nat.zero_le, Nat.reduceLeDiff, Nat.reduceEqDiff, Nat.le_refl, not_false_eq_true, not_true_eq_false, false_implies, true_implies, forall_const, true_and, and_true, if_true, if_false, implies_true, and_self, ne_eq, false_and, and_false, or_false, false_or, true_or, or_true]
        exact go2 M2 ⟨r2, A1.trans A2⟩ ⟨sGone_wf w1 hf1, G1.trans (Gn.gone (by omega))⟩
      · have ef : sLetF set k s = s := by unfold sLetF; rw [if_neg (fun z => c2 z.2)]
        rw [ef] at go2
        simp (disch := omega) only [q_iconst, q_istore2, q_istore3, q_nop, q_iload3, q_aload0, q_aload0N, q_get_r, pTag_1, pRf_s, q_get_i, q_ic_ge, q_invv1, inv_1, q_if_ne, q_iload1, q_invs2_21, q_if_eq, q_iinc2, q_iinc3, q_goto, q_iload2, q_iret, e_235_0, e_235_3, L_0, L_1, k_some, k_none, pRm_i, pRm_r, pRm_0, pF_1, pF_2, inv_s, r1.sh.k7, r1.nf, r1.sh.r0, r1.sh.r1, r1.sh.r2, r1.sh.r3, r1.sh.r4, r1.sh.r5, r1.sh.r6, w_atN r1.sh.k8, w_atN r1.sh.k9, w_atN r1.sh.k10, w_atN r1.sh.k11, w_atN r1.sh.k12, w_atN r1.sh.k13, w_atN r1.sh.k14, r1.g, r1.h, r1.am, r1.hd, r1.en, r1.fc, r1.sh.k0, r1.nt, r1.ne, r1.nr, r1.nx, r1.day, r1.law, r1.sh.p0, r1.sh.p1, r1.sh.p2, r1.sh.p3, r1.sh.p4, r1.sh.p5, r1.sh.p6, r1.sh.p7, r1.sh.p8, w1.f, w_isGone r1 w1, w_hasBit, c1, c2, e1, bI_eq0, nN_le, nN_lt, nN_eq, nN_add, nN_mul, nN_lt0, nN_ge0, nN_gt0, nN_le0, nN_eq0, nN_eq1, nN_neN, pIn_n, pIx_n, eq_self, Bool.false_eq_true, Nat.add_zero, Nat.zero_add, Nat.reduceAdd, Nat.reduceMul, Nat.reduceSub, Nat.zero_le, Nat.reduceLeDiff, Nat.reduceEqDiff, Nat.le_refl, not_false_eq_true, not_true_eq_false, false_implies, true_implies, forall_const, true_and, and_true, if_true, if_false, implies_true, and_self, ne_eq, false_and, and_false, or_false, false_or, true_or, or_true]
        exact go2 M1 ⟨r1, A1⟩ ⟨w1, G1⟩
  · rintro M1 _ ⟨⟨r1, A1⟩, w1, G1⟩
    have e : nF (lp (nF a) 0 (a, nN 0) (sLetF set)).1 = nF a := lo_nF G1.1
    have e1 : nF (lp (nF a) 0 (a, nN 0) (sLetF set)).1 ≤ nF a := by omega
    rw [e_235_1]
    simp (disch := omega) only [q_iconst, q_istore2, q_istore3, q_nop, q_iload3, q_aload0, q_aload0N, q_get_r, pTag_1, pRf_s, q_get_i, q_ic_ge, q_invv1, inv_1, q_if_ne, q_iload1, q_invs2_21, q_if_eq, q_iinc2, q_iinc3, q_goto, q_iload2, q_iret, e_235_0, e_235_3, L_0, L_1, k_some, k_none, pRm_i, pRm_r, pRm_0, pF_1, pF_2, inv_s, r1.sh.k7, r1.nf, r1.sh.r0, r1.sh.r1, r1.sh.r2, r1.sh.r3, r1.sh.r4, r1.sh.r5, r1.sh.r6, w_atN r1.sh.k8, w_atN r1.sh.k9, w_atN r1.sh.k10, w_atN r1.sh.k11, w_atN r1.sh.k12, w_atN r1.sh.k13, w_atN r1.sh.k14, r1.g, r1.h, r1.am, r1.hd, r1.en, r1.fc, r1.sh.k0, r1.nt, r1.ne, r1.nr, r1.nx, r1.day, r1.law, r1.sh.p0, r1.sh.p1, r1.sh.p2, r1.sh.p3, r1.sh.p4, r1.sh.p5, r1.sh.p6, r1.sh.p7, r1.sh.p8, w1.f, e1, nN_le, nN_lt, nN_eq, nN_add, nN_mul, nN_lt0, nN_ge0, nN_gt0, nN_le0, nN_eq0, nN_eq1, nN_neN, pIn_n, pIx_n, eq_self, Bool.false_eq_true, Nat.add_zero, Nat.zero_add, Nat.reduceAdd, Nat.reduceMul, Nat.reduceSub, Nat.zero_le, Nat.reduceLeDiff, Nat.reduceEqDiff, Nat.le_refl, not_false_eq_true, not_true_eq_false, false_implies, true_implies, forall_const, true_and, and_true, if_true, if_false, implies_true, and_self, ne_eq, false_and, and_false, or_false, false_or, true_or, or_true]
    exact ⟨rfl, r1, A1⟩
end LG
