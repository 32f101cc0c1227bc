/-! THE CLASS READS LINES OF THE TOWN: its parts -/
def TnS (M : pMem) (t n : Nat) (b : Nat → Nat) (p : Nat) (a : Nat → Int32) : Prop := (t = 3) ∧ (RdC M 69 70 71 2 900001 n b uW p) ∧ ((gS M 69).1 = 10) ∧ (gP M 69 10 = some t) ∧ (Rep M t a) ∧ (TmR M t a)
theorem TnS.mk {M : pMem} {t n : Nat} {b : Nat → Nat} {p : Nat} {a : Nat → Int32} (ht : t = 3) (rc : RdC M 69 70 71 2 900001 n b uW p) (k : (gS M 69).1 = 10) (p10 : gP M 69 10 = some t) (rp : Rep M t a) (tm : TmR M t a) : TnS M t n b p a := ⟨ht, rc, k, p10, rp, tm⟩
theorem TnS.ht {M : pMem} {t n : Nat} {b : Nat → Nat} {p : Nat} {a : Nat → Int32} (h : TnS M t n b p a) : t = 3 := And.left h
theorem TnS.rc {M : pMem} {t n : Nat} {b : Nat → Nat} {p : Nat} {a : Nat → Int32} (h : TnS M t n b p a) : RdC M 69 70 71 2 900001 n b uW p := And.left (And.right h)
theorem TnS.k {M : pMem} {t n : Nat} {b : Nat → Nat} {p : Nat} {a : Nat → Int32} (h : TnS M t n b p a) : (gS M 69).1 = 10 := And.left (And.right (And.right h))
theorem TnS.p10 {M : pMem} {t n : Nat} {b : Nat → Nat} {p : Nat} {a : Nat → Int32} (h : TnS M t n b p a) : gP M 69 10 = some t := And.left (And.right (And.right (And.right h)))
theorem TnS.rp {M : pMem} {t n : Nat} {b : Nat → Nat} {p : Nat} {a : Nat → Int32} (h : TnS M t n b p a) : Rep M t a := And.left (And.right (And.right (And.right (And.right h))))
theorem TnS.tm {M : pMem} {t n : Nat} {b : Nat → Nat} {p : Nat} {a : Nat → Int32} (h : TnS M t n b p a) : TmR M t a := And.right (And.right (And.right (And.right (And.right h))))
def X9 (h k : Nat) : Prop := h = 69 ∧ 6 ≤ k
def XF9 (f h k : Nat) : Prop := h = 69 ∧ ((6 ≤ k ∧ k ≤ 9) ∨ k = f)
def TnE (t n : Nat) (b : Nat → Nat) (a : Nat → Int32) (r : Nat ⊕ Nat) (o : pOut) (M' : pMem) : Prop := match r with
  | .inl e => o = .inl (some (.int (nN 0))) ∧ gI M' 69 9 = nN e
  | .inr q => o = .inl (some (.int (nN 1))) ∧ TnS M' t n b q a
section TN
variable {d t n u q m c s p x y v k K lo f : Nat} {a a' ak : Nat → Int32} {b b' : Nat → Nat} {M M1 M2 M3 M' : pMem} {Q : pOut → pMem → Prop} {hi : Int32}
theorem TnS.rd {X : Nat → Nat → Prop} (h : TnS M t n b p a) (A : Ag X M M') (hX : ∀ h k, X h k → X9 h k) (h2 : RdC M' 69 70 71 2 900001 n b uW q) : TnS M' t n b q a := by
  have ht := h.ht
  have A' := A.mono hX
  refine TnS.mk ht h2 (by rw [A.S]; exact h.k) (by rw [A.P]; exact h.p10) (h.rp.ag A' (fun h k h1 h2 h3 z => by have := z.1; omega)) (h.tm.agA (A'.mono fun h k z => Or.inl (by have := z.1; omega)))
theorem TnS.sc {X : Nat → Nat → Prop} (h : TnS M t n b p a) (A : Ag X M M') (hX : ∀ h k, X h k → h = 69 ∧ 10 ≤ k) : TnS M' t n b p a := by
  refine h.rd A (fun h k z => by have := hX h k z; exact ⟨this.1, by omega⟩) ?_
  refine h.rc.ag A (fun k z => by have := hX _ _ z; omega) (fun k z => by have := hX _ _ z; omega) (fun k z => by have := hX _ _ z; omega) (fun z => by have := hX _ _ z; omega) ?_ ?_ h.rc.at9 ?_
  · rw [A.I (fun z => by have := hX _ _ z; omega)]; exact h.rc.pl
  · rw [A.I (fun z => by have := hX _ _ z; omega)]; exact h.rc.tg
  · rw [A.I (fun z => by have := hX _ _ z; omega)]; exact h.rc.ft
theorem RdY_9 : ∀ h k, RdY 69 h k → X9 h k := fun h k z => ⟨z.1, z.2.1⟩
theorem RdY_F : ∀ h k, RdY 69 h k → XF9 f h k := fun h k z => ⟨z.1, Or.inl z.2⟩
theorem t_number (h : TnS M t n b p a) (hlo : lo < 3000) (hh : ∀ v, v ≤ 3001 → ((nN v ≤ hi) = (v < c))) (hc : c ≤ 1000) : mw (d + 2) 188 [.ref 69, .int (nN lo), .int hi] M (fun o M' => TnE t n b a (if lo ≤ th uW n b p ∧ th uW n b p < c then .inr (nx9 n b p) else .inl p) o M' ∧ ((lo ≤ th uW n b p ∧ th uW n b p < c) → gI M' 69 8 = nN (th uW n b p)) ∧ Ag (RdY 69) M M') := by
  refine mw_mono (w_number h.rc hlo hh hc) ?_
  rintro o M1 ⟨h1, h2, A1⟩
  refine ⟨?_, h2, A1⟩
  split
  · rename_i z
    rw [if_pos z] at h1
    exact ⟨h1.1, h.rd A1 RdY_9 h1.2⟩
  · rename_i z
    rw [if_neg z] at h1
    exact h1
theorem t_follows (h : TnS M t n b p a) (hc : c < 3000) : mw (d + 2) 187 [.ref 69, .int (nN c)] M (fun o M' => TnE t n b a (if th uW n b p = c then .inr (nx9 n b p) else .inl p) o M' ∧ Ag (RdY 69) M M') := by
  refine mw_mono (w_follows h.rc hc) ?_
  rintro o M1 ⟨h1, A1⟩
  refine ⟨?_, A1⟩
  split
  · rename_i z
    rw [if_pos z] at h1
    exact ⟨h1.1, h.rd A1 RdY_9 h1.2⟩
  · rename_i z
    rw [if_neg z] at h1
    exact h1
theorem t_step (h : TnS M t n b p a) (hp : p < n) : mw (d + 1) 186 [.ref 69] M (fun o M' => o = .inl none ∧ TnS M' t n b (nx9 n b p) a ∧ Ag (RdY 69) M M') := by
  refine mw_mono (w_step h.rc hp) ?_
  rintro o M1 ⟨rfl, h1, A1⟩
  have A2 : Ag (RdY 69) M M1 := A1.mono fun h k z => ⟨z.1, by omega, by omega⟩
  exact ⟨rfl, h.rd A2 RdY_9 h1, A2⟩
theorem t_wrong (h : TnS M t n b p a) : mw (d + 1) 189 [.ref 69] M (fun o M' => (o = .inl (some (.int (nN 0))) ∧ gI M' 69 9 = nN p) ∧ Ag (RdY 69) M M') := by
  refine mw_mono (w_wrongC h.rc) ?_
  rintro _ M1 ⟨rfl, h1, A1⟩
  exact ⟨⟨rfl, h1⟩, A1.mono fun h k z => ⟨z.1, by omega⟩⟩
theorem nm_le {c : Nat} (hc : c ≤ 1000) : ∀ v, v ≤ 3001 → ((nN v ≤ nN c - nN 1) = (v < c)) := by
  intro v hv
  by_cases h0 : c = 0
  · subst h0
    rw [show nN 0 - nN 1 = iN (-1) from by decide +kernel]
    refine propext ⟨fun h => ?_, fun h => by omega⟩
    have := (iN_le (sm_n (a := v) (by omega)) (b := -1) ⟨by decide, by decide⟩).mp h
    omega
  · rw [nN_subN (by omega), nN_le (by omega) (by omega)]
    exact propext ⟨fun h => by omega, fun h => by omega⟩
/-- what a reader of one number leaves -/
def TnF (M : pMem) (t n : Nat) (b : Nat → Nat) (a : Nat → Int32) (f : Nat) (r : Nat ⊕ (Nat × List Nat)) (o : pOut) (M' : pMem) : Prop := (match r with
  | .inl e => o = .inl (some (.int (nN 0))) ∧ gI M' 69 9 = nN e
  | .inr s => o = .inl (some (.int (nN 1))) ∧ TnS M' t n b s.1 a ∧ gI M' 69 f = nN (s.2.getD 0 0)) ∧ Ag (XF9 f) M M'
theorem t_amount (h : TnS M t n b p a) (hlo : lo < 3000) (hh : ∀ v, v ≤ 3001 → ((nN v ≤ hi) = (v < c))) (hc : c ≤ 1000) : mw (d + 3) 246 [.ref 69, .int (nN lo), .int hi] M (TnF M t n b a 15 (pnm (th uW n b) (nx9 n b) lo c p fun x q => .inr (q, [x]))) := by
  have hk := h.k
  simp (disch := omega) only [m_246, q_aload0, q_aload0N, q_iload1, q_iload2, q_invv2, inv_1, q_istore3, q_get_i, pTag_1, pRf_s, q_put_i, q_iload3, q_zret, e_246_0, k_some, k_none, pRm_i, pRm_r, pRm_0, pF_1, pF_2, inv_s, hk, pF_2, nN_le, nN_lt, nN_eq, nN_add, nN_mul, nN_lt0, nN_ge0, nN_gt0, nN_le0, nN_eq0, nN_eq1, nN_neN, pIn_n, pIx_n, eq_self, Nat.reduceLT, Bool.false_eq_true, Nat.add_zero, Nat.zero_add, Nat.reduceAdd, Nat.reduceMul, Nat.reduceSub, Nat.zero_le, Nat.reduceLeDiff, Nat.reduceEqDiff, Nat.le_refl, not_false_eq_true, not_true_eq_false, false_implies, true_implies, forall_const, true_and, and_true, if_true, if_false, implies_true, and_self, ne_eq, false_and, and_false, or_false, false_or, true_or, or_true]
  refine mw_mono (t_number h hlo hh hc) ?_
  rintro o M1 ⟨h1, h2, A1⟩
  have hk1 : (gS M1 69).1 = 10 := by rw [A1.S]; exact hk
  have A2 : Ag (XF9 15) M1 (sI M1 69 15 (gI M1 69 8)) := Ag.one ⟨rfl, Or.inr rfl⟩
  have A12 : Ag (XF9 15) M (sI M1 69 15 (gI M1 69 8)) := (A1.mono RdY_F).trans A2
  unfold TnF pnm
  by_cases z : lo ≤ th uW n b p ∧ th uW n b p < c
  · rw [if_pos z] at h1 ⊢
    obtain ⟨rfl, h1⟩ := h1
    simp (disch := omega) only [q_aload0, q_aload0N, q_iload1, q_iload2, q_invv2, inv_1, q_istore3, q_get_i, pTag_1, pRf_s, q_put_i, q_iload3, q_zret, e_246_0, k_some, k_none, pRm_i, pRm_r, pRm_0, pF_1, pF_2, inv_s, hk1, zb_1, nN_le, nN_lt, nN_eq, nN_add, nN_mul, nN_lt0, nN_ge0, nN_gt0, nN_le0, nN_eq0, nN_eq1, nN_neN, pIn_n, pIx_n, eq_self, Nat.reduceLT, Bool.false_eq_true, Nat.add_zero, Nat.zero_add, Nat.reduceAdd, Nat.reduceMul, Nat.reduceSub, Nat.zero_le, Nat.reduceLeDiff, Nat.reduceEqDiff, Nat.le_refl, not_false_eq_true, not_true_eq_false, false_implies, true_implies, forall_const, true_and, and_true, if_true, if_false, implies_true, and_self, ne_eq, false_and, and_false, or_false, false_or, true_or, or_true]
    refine ⟨⟨h1.sc (X := fun h k => h = 69 ∧ k = 15) (Ag.one ⟨rfl, rfl⟩) (fun h k z => ⟨z.1, by omega⟩), ?_⟩, A12⟩
    rw [gI_sI, if_pos ⟨rfl, rfl⟩, h2 z]; rfl
  · rw [if_neg z] at h1 ⊢
    obtain ⟨rfl, h1⟩ := h1
    simp (disch := omega) only [q_aload0, q_aload0N, q_iload1, q_iload2, q_invv2, inv_1, q_istore3, q_get_i, pTag_1, pRf_s, q_put_i, q_iload3, q_zret, e_246_0, k_some, k_none, pRm_i, pRm_r, pRm_0, pF_1, pF_2, inv_s, hk1, zb_0, nN_le, nN_lt, nN_eq, nN_add, nN_mul, nN_lt0, nN_ge0, nN_gt0, nN_le0, nN_eq0, nN_eq1, nN_neN, pIn_n, pIx_n, eq_self, Nat.reduceLT, Bool.false_eq_true, Nat.add_zero, Nat.zero_add, Nat.reduceAdd, Nat.reduceMul, Nat.reduceSub, Nat.zero_le, Nat.reduceLeDiff, Nat.reduceEqDiff, Nat.le_refl, not_false_eq_true, not_true_eq_false, false_implies, true_implies, forall_const, true_and, and_true, if_true, if_false, implies_true, and_self, ne_eq, false_and, and_false, or_false, false_or, true_or, or_true]
    exact ⟨by rw [gI_sI, if_neg (by omega)]; exact h1, A12⟩
theorem t_favour (h : TnS M t n b p a) (hw : Wf a) : mw (d + 3) 247 [.ref 69] M (TnF M t n b a 12 (pnm (th uW n b) (nx9 n b) 0 (nF a) p fun x q => .inr (q, [x]))) := by
  have hk := h.k
  have hf' := hw.f'
  have s := h.rp.sh
  simp (disch := omega) only [m_247, q_aload0, q_aload0N, q_iconst, q_get_r, pTag_1, pRf_s, q_get_i, q_isub, q_invv2, inv_1, q_istore1, q_put_i, q_iload1, q_zret, e_247_0, L_0, L_1, k_some, k_none, pRm_i, pRm_r, pRm_0, pF_1, pF_2, inv_s, hk, h.p10, s.k0, s.k1, s.k7, s.p0, s.p1, s.p2, s.p3, s.p4, s.p5, s.p6, s.p7, s.p8, s.q0, s.q1, s.q2, s.q3, s.q4, s.r0, s.r1, s.r2, s.r3, s.r4, s.r5, s.r6, h.rp.nf, hw.f, pF_2, eq_self, Nat.reduceLT, Bool.false_eq_true, Nat.add_zero, Nat.zero_add, Nat.reduceAdd, Nat.reduceMul, Nat.reduceSub, Nat.zero_le, Nat.reduceLeDiff, Nat.reduceEqDiff, Nat.le_refl, not_false_eq_true, not_true_eq_false, false_implies, true_implies, forall_const, true_and, and_true, if_true, if_false, implies_true, and_self, ne_eq, false_and, and_false, or_false, false_or, true_or, or_true]
  refine mw_mono (t_number (lo := 0) (c := nF a) h (by omega) (nm_le (by omega)) (by omega)) ?_
  rintro o M1 ⟨h1, h2, A1⟩
  have hk1 : (gS M1 69).1 = 10 := by rw [A1.S]; exact hk
  have A2 : Ag (XF9 12) M1 (sI M1 69 12 (gI M1 69 8)) := Ag.one ⟨rfl, Or.inr rfl⟩
  have A12 : Ag (XF9 12) M (sI M1 69 12 (gI M1 69 8)) := (A1.mono RdY_F).trans A2
  unfold TnF pnm
  by_cases z : 0 ≤ th uW n b p ∧ th uW n b p < nF a
  · rw [if_pos z] at h1 ⊢
    obtain ⟨rfl, h1⟩ := h1
    simp (disch := omega) only [q_aload0, q_aload0N, q_iconst, q_get_r, pTag_1, pRf_s, q_get_i, q_isub, q_invv2, inv_1, q_istore1, q_put_i, q_iload1, q_zret, e_247_0, L_0, L_1, k_some, k_none, pRm_i, pRm_r, pRm_0, pF_1, pF_2, inv_s, hk1, zb_1, nN_le, nN_lt, nN_eq, nN_add, nN_mul, nN_lt0, nN_ge0, nN_gt0, nN_le0, nN_eq0, nN_eq1, nN_neN, pIn_n, pIx_n, eq_self, Nat.reduceLT, Bool.false_eq_true, Nat.add_zero, Nat.zero_add, Nat.reduceAdd, Nat.reduceMul, Nat.reduceSub, Nat.zero_le, Nat.reduceLeDiff, Nat.reduceEqDiff, Nat.le_refl, not_false_eq_true, not_true_eq_false, false_implies, true_implies, forall_const, true_and, and_true, if_true, if_false, implies_true, and_self, ne_eq, false_and, and_false, or_false, false_or, true_or, or_true]
    refine ⟨⟨h1.sc (X := fun h k => h = 69 ∧ k = 12) (Ag.one ⟨rfl, rfl⟩) (fun h k z => ⟨z.1, by omega⟩), ?_⟩, A12⟩
    rw [gI_sI, if_pos ⟨rfl, rfl⟩, h2 z]; rfl
  · rw [if_neg z] at h1 ⊢
    obtain ⟨rfl, h1⟩ := h1
    simp (disch := omega) only [q_aload0, q_aload0N, q_iconst, q_get_r, pTag_1, pRf_s, q_get_i, q_isub, q_invv2, inv_1, q_istore1, q_put_i, q_iload1, q_zret, e_247_0, L_0, L_1, k_some, k_none, pRm_i, pRm_r, pRm_0, pF_1, pF_2, inv_s, hk1, zb_0, nN_le, nN_lt, nN_eq, nN_add, nN_mul, nN_lt0, nN_ge0, nN_gt0, nN_le0, nN_eq0, nN_eq1, nN_neN, pIn_n, pIx_n, eq_self, Nat.reduceLT, Bool.false_eq_true, Nat.add_zero, Nat.zero_add, Nat.reduceAdd, Nat.reduceMul, Nat.reduceSub, Nat.zero_le, Nat.reduceLeDiff, Nat.reduceEqDiff, Nat.le_refl, not_false_eq_true, not_true_eq_false, false_implies, true_implies, forall_const, true_and, and_true, if_true, if_false, implies_true, and_self, ne_eq, false_and, and_false, or_false, false_or, true_or, or_true]
    exact ⟨by rw [gI_sI, if_neg (by omega)]; exact h1, A12⟩
theorem t_first (h : TnS M t n b p a) (hw : Wf a) : mw (d + 3) 248 [.ref 69] M (TnF M t n b a 13 (pnm (th uW n b) (nx9 n b) 0 (nP a) p fun x q => .inr (q, [x]))) := by
  have hk := h.k
  have hp' := hw.p'
  have s := h.rp.sh
  simp (disch := omega) only [m_248, q_aload0, q_aload0N, q_iconst, q_get_r, pTag_1, pRf_s, q_get_i, q_isub, q_invv2, inv_1, q_istore1, q_put_i, q_iload1, q_zret, e_248_0, L_0, L_1, k_some, k_none, pRm_i, pRm_r, pRm_0, pF_1, pF_2, inv_s, hk, h.p10, s.k0, s.k1, s.k7, s.p0, s.p1, s.p2, s.p3, s.p4, s.p5, s.p6, s.p7, s.p8, s.q0, s.q1, s.q2, s.q3, s.q4, s.r0, s.r1, s.r2, s.r3, s.r4, s.r5, s.r6, h.rp.np, hw.p, pF_2, eq_self, Nat.reduceLT, Bool.false_eq_true, Nat.add_zero, Nat.zero_add, Nat.reduceAdd, Nat.reduceMul, Nat.reduceSub, Nat.zero_le, Nat.reduceLeDiff, Nat.reduceEqDiff, Nat.le_refl, not_false_eq_true, not_true_eq_false, false_implies, true_implies, forall_const, true_and, and_true, if_true, if_false, implies_true, and_self, ne_eq, false_and, and_false, or_false, false_or, true_or, or_true]
  refine mw_mono (t_number (lo := 0) (c := nP a) h (by omega) (nm_le (by omega)) (by omega)) ?_
  rintro o M1 ⟨h1, h2, A1⟩
  have hk1 : (gS M1 69).1 = 10 := by rw [A1.S]; exact hk
  have A2 : Ag (XF9 13) M1 (sI M1 69 13 (gI M1 69 8)) := Ag.one ⟨rfl, Or.inr rfl⟩
  have A12 : Ag (XF9 13) M (sI M1 69 13 (gI M1 69 8)) := (A1.mono RdY_F).trans A2
  unfold TnF pnm
  by_cases z : 0 ≤ th uW n b p ∧ th uW n b p < nP a
  · rw [if_pos z] at h1 ⊢
    obtain ⟨rfl, h1⟩ := h1
    simp (disch := omega) only [q_aload0, q_aload0N, q_iconst, q_get_r, pTag_1, pRf_s, q_get_i, q_isub, q_invv2, inv_1, q_istore1, q_put_i, q_iload1, q_zret, e_248_0, L_0, L_1, k_some, k_none, pRm_i, pRm_r, pRm_0, pF_1, pF_2, inv_s, hk1, zb_1, nN_le, nN_lt, nN_eq, nN_add, nN_mul, nN_lt0, nN_ge0, nN_gt0, nN_le0, nN_eq0, nN_eq1, nN_neN, pIn_n, pIx_n, eq_self, Nat.reduceLT, Bool.false_eq_true, Nat.add_zero, Nat.zero_add, Nat.reduceAdd, Nat.reduceMul, Nat.reduceSub, Nat.zero_le, Nat.reduceLeDiff, Nat.reduceEqDiff, Nat.le_refl, not_false_eq_true, not_true_eq_false, false_implies, true_implies, forall_const, true_and, and_true, if_true, if_false, implies_true, and_self, ne_eq, false_and, and_false, or_false, false_or, true_or, or_true]
    refine ⟨⟨h1.sc (X := fun h k => h = 69 ∧ k = 13) (Ag.one ⟨rfl, rfl⟩) (fun h k z => ⟨z.1, by omega⟩), ?_⟩, A12⟩
    rw [gI_sI, if_pos ⟨rfl, rfl⟩, h2 z]; rfl
  · rw [if_neg z] at h1 ⊢
    obtain ⟨rfl, h1⟩ := h1
    simp (disch := omega) only [q_aload0, q_aload0N, q_iconst, q_get_r, pTag_1, pRf_s, q_get_i, q_isub, q_invv2, inv_1, q_istore1, q_put_i, q_iload1, q_zret, e_248_0, L_0, L_1, k_some, k_none, pRm_i, pRm_r, pRm_0, pF_1, pF_2, inv_s, hk1, zb_0, nN_le, nN_lt, nN_eq, nN_add, nN_mul, nN_lt0, nN_ge0, nN_gt0, nN_le0, nN_eq0, nN_eq1, nN_neN, pIn_n, pIx_n, eq_self, Nat.reduceLT, Bool.false_eq_true, Nat.add_zero, Nat.zero_add, Nat.reduceAdd, Nat.reduceMul, Nat.reduceSub, Nat.zero_le, Nat.reduceLeDiff, Nat.reduceEqDiff, Nat.le_refl, not_false_eq_true, not_true_eq_false, false_implies, true_implies, forall_const, true_and, and_true, if_true, if_false, implies_true, and_self, ne_eq, false_and, and_false, or_false, false_or, true_or, or_true]
    exact ⟨by rw [gI_sI, if_neg (by omega)]; exact h1, A12⟩
theorem t_second {w : Nat} (h : TnS M t n b p a) (hw : Wf a) (h13 : gI M 69 13 = nN w) (hw2 : w < 4000) : mw (d + 3) 249 [.ref 69] M (TnF M t n b a 14 (psec (th uW n b) (nx9 n b) (nP a) w p fun x q => .inr (q, [x]))) := by
  have hk := h.k
  have hp' := hw.p'
  have s := h.rp.sh
  have htl := h.rc.tl p
  unfold psec
  by_cases c0 : th uW n b p = w
  · rw [if_pos c0]
    simp (disch := omega) only [m_249, q_aload0, q_aload0N, q_get_i, pTag_1, pRf_s, q_ic_ne, q_invv0, inv_1, q_zret, q_iconst, q_get_r, q_isub, q_invv2, q_istore1, q_put_i, q_iload1, e_249_0, L_0, L_1, k_some, k_none, pRm_i, pRm_r, pRm_0, pF_1, pF_2, inv_s, hk, h.rc.tg, h13, c0, nN_le, nN_lt, nN_eq, nN_add, nN_mul, nN_lt0, nN_ge0, nN_gt0, nN_le0, nN_eq0, nN_eq1, nN_neN, pIn_n, pIx_n, eq_self, Nat.reduceLT, Bool.false_eq_true, Nat.add_zero, Nat.zero_add, Nat.reduceAdd, Nat.reduceMul, Nat.reduceSub, Nat.zero_le, Nat.reduceLeDiff, Nat.reduceEqDiff, Nat.le_refl, not_false_eq_true, not_true_eq_false, false_implies, true_implies, forall_const, true_and, and_true, if_true, if_false, implies_true, and_self, ne_eq, false_and, and_false, or_false, false_or, true_or, or_true]
    refine mw_mono (t_wrong h) ?_
    rintro _ M1 ⟨⟨rfl, h1⟩, A1⟩
    simp (disch := omega) only [q_aload0, q_aload0N, q_get_i, pTag_1, pRf_s, q_ic_ne, q_invv0, inv_1, q_zret, q_iconst, q_get_r, q_isub, q_invv2, q_istore1, q_put_i, q_iload1, e_249_0, L_0, L_1, k_some, k_none, pRm_i, pRm_r, pRm_0, pF_1, pF_2, inv_s, zb_0, nN_le, nN_lt, nN_eq, nN_add, nN_mul, nN_lt0, nN_ge0, nN_gt0, nN_le0, nN_eq0, nN_eq1, nN_neN, pIn_n, pIx_n, eq_self, Nat.reduceLT, Bool.false_eq_true, Nat.add_zero, Nat.zero_add, Nat.reduceAdd, Nat.reduceMul, Nat.reduceSub, Nat.zero_le, Nat.reduceLeDiff, Nat.reduceEqDiff, Nat.le_refl, not_false_eq_true, not_true_eq_false, false_implies, true_implies, forall_const, true_and, and_true, if_true, if_false, implies_true, and_self, ne_eq, false_and, and_false, or_false, false_or, true_or, or_true]
    exact ⟨⟨rfl, h1⟩, A1.mono RdY_F⟩
  rw [if_neg c0]
  simp (disch := omega) only [m_249, q_aload0, q_aload0N, q_get_i, pTag_1, pRf_s, q_ic_ne, q_invv0, inv_1, q_zret, q_iconst, q_get_r, q_isub, q_invv2, q_istore1, q_put_i, q_iload1, e_249_0, e_249_1, L_0, L_1, k_some, k_none, pRm_i, pRm_r, pRm_0, pF_1, pF_2, inv_s, hk, h.rc.tg, h13, c0, h.p10, s.k0, s.k1, s.k7, s.p0, s.p1, s.p2, s.p3, s.p4, s.p5, s.p6, s.p7, s.p8, s.q0, s.q1, s.q2, s.q3, s.q4, s.r0, s.r1, s.r2, s.r3, s.r4, s.r5, s.r6, h.rp.np, hw.p, pF_2, eq_self, Nat.reduceLT, Bool.false_eq_true, Nat.add_zero, Nat.zero_add, Nat.reduceAdd, Nat.reduceMul, Nat.reduceSub, Nat.zero_le, Nat.reduceLeDiff, Nat.reduceEqDiff, Nat.le_refl, not_false_eq_true, not_true_eq_false, false_implies, true_implies, forall_const, true_and, and_true, if_true, if_false, implies_true, and_self, ne_eq, false_and, and_false, or_false, false_or, true_or, or_true, nN_eq]
  refine mw_mono (t_number (lo := 0) (c := nP a) h (by omega) (nm_le (by omega)) (by omega)) ?_
  rintro o M1 ⟨h1, h2, A1⟩
  have hk1 : (gS M1 69).1 = 10 := by rw [A1.S]; exact hk
  have A2 : Ag (XF9 14) M1 (sI M1 69 14 (gI M1 69 8)) := Ag.one ⟨rfl, Or.inr rfl⟩
  have A12 : Ag (XF9 14) M (sI M1 69 14 (gI M1 69 8)) := (A1.mono RdY_F).trans A2
  unfold TnF pnm
  by_cases z : 0 ≤ th uW n b p ∧ th uW n b p < nP a
  · rw [if_pos z] at h1 ⊢
    obtain ⟨rfl, h1⟩ := h1
    simp (disch := omega) only [q_aload0, q_aload0N, q_get_i, pTag_1, pRf_s, q_ic_ne, q_invv0, inv_1, q_zret, q_iconst, q_get_r, q_isub, q_invv2, q_istore1, q_put_i, q_iload1, e_249_0, e_249_1, L_0, L_1, k_some, k_none, pRm_i, pRm_r, pRm_0, pF_1, pF_2, inv_s, hk1, zb_1, nN_le, nN_lt, nN_eq, nN_add, nN_mul, nN_lt0, nN_ge0, nN_gt0, nN_le0, nN_eq0, nN_eq1, nN_neN, pIn_n, pIx_n, eq_self, Nat.reduceLT, Bool.false_eq_true, Nat.add_zero, Nat.zero_add, Nat.reduceAdd, Nat.reduceMul, Nat.reduceSub, Nat.zero_le, Nat.reduceLeDiff, Nat.reduceEqDiff, Nat.le_refl, not_false_eq_true, not_true_eq_false, false_implies, true_implies, forall_const, true_and, and_true, if_true, if_false, implies_true, and_self, ne_eq, false_and, and_false, or_false, false_or, true_or, or_true]
    refine ⟨⟨h1.sc (X := fun h k => h = 69 ∧ k = 14) (Ag.one ⟨rfl, rfl⟩) (fun h k z => ⟨z.1, by omega⟩), ?_⟩, A12⟩
    rw [gI_sI, if_pos ⟨rfl, rfl⟩, h2 z]; rfl
  · rw [if_neg z] at h1 ⊢
    obtain ⟨rfl, h1⟩ := h1
    simp (disch := omega) only [q_aload0, q_aload0N, q_get_i, pTag_1, pRf_s, q_ic_ne, q_invv0, inv_1, q_zret, q_iconst, q_get_r, q_isub, q_invv2, q_istore1, q_put_i, q_iload1, e_249_0, e_249_1, L_0, L_1, k_some, k_none, pRm_i, pRm_r, pRm_0, pF_1, pF_2, inv_s, hk1, zb_0, nN_le, nN_lt, nN_eq, nN_add, nN_mul, nN_lt0, nN_ge0, nN_gt0, nN_le0, nN_eq0, nN_eq1, nN_neN, pIn_n, pIx_n, eq_self, Nat.reduceLT, Bool.false_eq_true, Nat.add_zero, Nat.zero_add, Nat.reduceAdd, Nat.reduceMul, Nat.reduceSub, Nat.zero_le, Nat.reduceLeDiff, Nat.reduceEqDiff, Nat.le_refl, not_false_eq_true, not_true_eq_false, false_implies, true_implies, forall_const, true_and, and_true, if_true, if_false, implies_true, and_self, ne_eq, false_and, and_false, or_false, false_or, true_or, or_true]
    exact ⟨by rw [gI_sI, if_neg (by omega)]; exact h1, A12⟩
end TN
