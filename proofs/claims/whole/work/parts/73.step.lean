/-! THE CLASS GOES THROUGH THE THINGS -/
def RdY (R h k : Nat) : Prop := h = R ∧ 6 ≤ k ∧ k ≤ 9
section SP
variable {d n R tr br tb sr p k m c : Nat} {b : Nat → Nat} {W : List (List Nat)} {M M1 M' : pMem} {Q : pOut → pMem → Prop} {hi : Int32}
theorem wixF_ne {x : List Nat} : ∀ (W : List (List Nat)) (i : Nat), i + W.length < 3000 → wixF x W i ≠ 3000 := by
  intro W
  induction W with
  | nil => intro i _; show (3001 : Nat) ≠ 3000; omega
  | cons w W ih =>
    intro i h
    simp only [List.length_cons] at h
    unfold wixF
    split
    · omega
    · exact ih (i + 1) (by omega)
theorem th_end (hW : W.length < 100) (hb : ∀ k, b k < 256) (h : p < n) : th W n b p ≠ 3000 := by
  unfold th
  rw [if_neg (by omega)]
  split
  · have := hb p; omega
  · split
    · rename_i h2
      split
      · omega
      · rename_i h3
        have g := te_spec (n := n) (b := b) (p := p) (by omega)
        unfold tx
        rw [numV_nm]
        have h1 := nmV_lt (b := b) (p := p) (m := te n b p - p) (fun i hi => kd_2 (by rw [g.2.2.2.1 (p + i) (by omega) (by omega)]; exact h2))
        have h2 : 10 ^ (te n b p - p) ≤ 10 ^ 3 := Nat.pow_le_pow_right (by omega) (by omega)
        omega
    · exact wixF_ne W 1000 (by omega)
theorem th_n : th W n b n = 3000 := if_pos (Nat.le_refl _)
theorem RdC.lt (h : RdC M R tr br tb sr n b W p) (he : th W n b p ≠ 3000) : p < n ∧ isB b p = true := by
  rcases h.at9 with z | z
  · rw [z] at he; exact absurd th_n he
  · exact z
theorem RdC.le (h : RdC M R tr br tb sr n b W p) : p ≤ n := by
  rcases h.at9 with z | z <;> omega
theorem RdC.tl (h : RdC M R tr br tb sr n b W p) (q : Nat) : th W n b q ≤ 3001 := by
  obtain ⟨cs, -, -, -, hW⟩ := h.w9
  exact th_lt hW h.b9
/-- what moves in the reader alone -/
theorem RdC.ag {X : Nat → Nat → Prop} (h : RdC M R tr br tb sr n b W p) (A : Ag X M M') (n1 : ∀ k, ¬ X tb k) (n2 : ∀ k, ¬ X tr k) (n3 : ∀ k, ¬ X br k) (n5 : ¬ X R 5) {q : Nat} (pl : gI M' R 6 = nN (ct b q)) (tg : gI M' R 7 = nN (th W n b q)) (at9 : q = n ∨ (q < n ∧ isB b q = true)) (ft : gI M' R 9 = iN (-1)) : RdC M' R tr br tb sr n b W q :=
  RdC.mk (h.s9.ag A) h.w9 h.n9 h.b9 (fun k hk => by rw [A.I (n1 k)]; exact h.y9 k hk) (by rw [A.I n5]; exact h.len) pl tg (fun q hq hB => by rw [A.I (n2 _), A.I (n3 _)]; exact h.all q hq hB) (by rw [A.I (n2 _)]; exact h.endT) (by rw [A.I (n3 _)]; exact h.endB) at9 ft
theorem RdC.agY (h : RdC M R tr br tb sr n b W p) (A : Ag (RdY R) M M') {q : Nat} (pl : gI M' R 6 = nN (ct b q)) (tg : gI M' R 7 = nN (th W n b q)) (at9 : q = n ∨ (q < n ∧ isB b q = true)) (ft : gI M' R 9 = iN (-1)) : RdC M' R tr br tb sr n b W q :=
  h.ag A (fun k z => h.s9.n6 z.1.symm) (fun k z => h.s9.n4 z.1.symm) (fun k z => h.s9.n5 z.1.symm) (fun z => by have := z.2.1; omega) pl tg at9 ft
theorem w_step (h : RdC M R tr br tb sr n b W p) (hp : p < n) : mw (d + 1) 186 [.ref R] M (fun o M' => o = .inl none ∧ RdC M' R tr br tb sr n b W (nx9 n b p) ∧ Ag (fun h k => h = R ∧ (k = 6 ∨ k = 7)) M M') := by
  have hB : isB b p = true := by
    rcases h.at9 with z | z
    · omega
    · exact z.2
  have s := h.s9
  have hk := s.k
  obtain ⟨g1, g2, g3⟩ := nx_gt (b := b) hp
  have ec := ct_nx hp hB
  have hc := ct_le (b := b) (nx9 n b p)
  have hn := h.n9
  have e401 : iN ((401 : Nat) : Int) = nN 401 := rfl
  have e1 : ct b p + 1 < 401 := by omega
  have e2 : ¬ 401 ≤ ct b p + 1 := by omega
  have e7 : ¬ (7 : Nat) = 6 := by omega
  have ht : gI M tr (ct b p + 1) = nN (th W n b (nx9 n b p)) := by
    rw [← ec]
    by_cases c9 : nx9 n b p = n
    · rw [c9, h.endT, th_n]
    · exact (h.all _ (by omega) (g3 (by omega))).1
  simp (disch := first | omega | rfl | (repeat' (first | exact gS_sI | exact gP_sI | refine Eq.trans gS_sI ?_ | refine Eq.trans gP_sI ?_))) only [m_186, q_aload0, q_aload0N, q_dup_i, q_dup_r, q_get_i, pTag_2, pRf_s, q_iconst, q_iadd, q_put_i, q_if_lt, q_get_r, q_alen, q_ic_ge, q_iald, q_goto, q_sipush, q_nop, q_vret, e_186_0, e_186_1, e_186_2, L_1, L_3000, gS_sI, gP_sI, hk, s.p3, s.kt, h.pl, gI_sI, e401, e1, e2, s.n4.symm, ht, nN_le, nN_lt, nN_eq, nN_add, nN_mul, nN_lt0, nN_ge0, nN_gt0, nN_le0, nN_eq0, nN_eq1, nN_neN, pIn_n, pIx_n, eq_self, Nat.reduceLT, Bool.false_eq_true, Nat.add_zero, Nat.zero_add, Nat.reduceAdd, Nat.reduceMul, Nat.reduceSub, Nat.zero_le, Nat.reduceLeDiff, Nat.reduceEqDiff, Nat.le_refl, not_false_eq_true, not_true_eq_false, false_implies, true_implies, forall_const, true_and, and_true, if_true, if_false, implies_true, and_self, ne_eq, false_and, and_false, or_false, false_or, true_or, or_true]
  have A : Ag (fun h k => h = R ∧ (k = 6 ∨ k = 7)) M (sI (sI M R 6 (nN (ct b p + 1))) R 7 (nN (th W n b (nx9 n b p)))) := Ag.put (Ag.one ⟨rfl, Or.inl rfl⟩) ⟨rfl, Or.inr rfl⟩
  refine ⟨h.agY (A.mono fun h k z => ⟨z.1, by omega, by omega⟩) ?_ ?_ ?_ (by rw [gI_sI, if_neg (by omega), gI_sI, if_neg (by omega)]; exact h.ft), A⟩
  · rw [gI_sI, if_neg (by omega), gI_sI, if_pos ⟨rfl, rfl⟩, ec]
  · rw [gI_sI, if_pos ⟨rfl, rfl⟩]
  · by_cases c9 : nx9 n b p = n
    · exact Or.inl c9
    · exact Or.inr ⟨by omega, g3 (by omega)⟩
theorem w_wrongC (h : RdC M R tr br tb sr n b W p) : mw (d + 1) 189 [.ref R] M (fun o M' => o = .inl (some (.int (nN 0))) ∧ gI M' R 9 = nN p ∧ Ag (fun h k => h = R ∧ k = 9) M M') := by
  have s := h.s9
  have hk := s.k
  have hp := h.le
  have hn := h.n9
  have hc := ct_le (b := b) p
  have e401 : iN ((401 : Nat) : Int) = nN 401 := rfl
  have e1 : ct b p < 401 := by omega
  have e2 : ¬ 401 ≤ ct b p := by omega
  have ht : gI M br (ct b p) = nN p := by
    rcases h.at9 with z | z
    · rw [z]; exact h.endB
    · exact (h.all _ z.1 z.2).2
  simp (disch := first | omega | rfl | (repeat' (first | exact gS_sI | exact gP_sI | refine Eq.trans gS_sI ?_ | refine Eq.trans gP_sI ?_))) only [m_189, q_aload0, q_aload0N, q_get_i, pTag_2, pRf_s, q_if_lt, q_get_r, q_alen, q_ic_ge, q_iald, q_goto, q_iconst, q_nop, q_put_i, q_zret, e_189_0, e_189_1, e_189_2, L_0, hk, s.p4, s.kb, h.pl, e401, e1, e2, ht, zb_0, nN_le, nN_lt, nN_eq, nN_add, nN_mul, nN_lt0, nN_ge0, nN_gt0, nN_le0, nN_eq0, nN_eq1, nN_neN, pIn_n, pIx_n, eq_self, Nat.reduceLT, Bool.false_eq_true, Nat.add_zero, Nat.zero_add, Nat.reduceAdd, Nat.reduceMul, Nat.reduceSub, Nat.zero_le, Nat.reduceLeDiff, Nat.reduceEqDiff, Nat.le_refl, not_false_eq_true, not_true_eq_false, false_implies, true_implies, forall_const, true_and, and_true, if_true, if_false, implies_true, and_self, ne_eq, false_and, and_false, or_false, false_or, true_or, or_true]
  exact ⟨by rw [gI_sI, if_pos ⟨rfl, rfl⟩], Ag.one ⟨rfl, rfl⟩⟩
/-- how a step of reading ends -/
def RdE (M : pMem) (R tr br tb sr n : Nat) (b : Nat → Nat) (W : List (List Nat)) (r : Nat ⊕ Nat) (o : pOut) (M' : pMem) : Prop := match r with
  | .inl e => o = .inl (some (.int (nN 0))) ∧ gI M' R 9 = nN e
  | .inr q => o = .inl (some (.int (nN 1))) ∧ RdC M' R tr br tb sr n b W q
theorem w_follows (h : RdC M R tr br tb sr n b W p) (hc : c < 3000) : mw (d + 2) 187 [.ref R, .int (nN c)] M (fun o M' => RdE M R tr br tb sr n b W (if th W n b p = c then .inr (nx9 n b p) else .inl p) o M' ∧ Ag (RdY R) M M') := by
  have hk := h.s9.k
  have htl := h.tl p
  by_cases e : th W n b p = c
  · have hp := (h.lt (by omega)).1
    rw [if_pos e]
    simp (disch := omega) only [m_187, q_aload0, q_aload0N, q_get_i, pTag_2, pRf_s, q_iload1, q_ic_eq, q_invv0, inv_2, q_zret, q_iconst, e_187_0, L_1, k_some, k_none, pRm_i, pRm_r, pRm_0, pF_1, pF_2, inv_s, hk, h.tg, e, nN_le, nN_lt, nN_eq, nN_add, nN_mul, nN_lt0, nN_ge0, nN_gt0, nN_le0, nN_eq0, nN_eq1, nN_neN, pIn_n, pIx_n, eq_self, Nat.reduceLT, Bool.false_eq_true, Nat.add_zero, Nat.zero_add, Nat.reduceAdd, Nat.reduceMul, Nat.reduceSub, Nat.zero_le, Nat.reduceLeDiff, Nat.reduceEqDiff, Nat.le_refl, not_false_eq_true, not_true_eq_false, false_implies, true_implies, forall_const, true_and, and_true, if_true, if_false, implies_true, and_self, ne_eq, false_and, and_false, or_false, false_or, true_or, or_true]
    rw [e_187_1]
    simp (disch := omega) only [q_aload0, q_aload0N, q_get_i, pTag_2, pRf_s, q_iload1, q_ic_eq, q_invv0, inv_2, q_zret, q_iconst, e_187_0, L_1, k_some, k_none, pRm_i, pRm_r, pRm_0, pF_1, pF_2, inv_s, hk, nN_le, nN_lt, nN_eq, nN_add, nN_mul, nN_lt0, nN_ge0, nN_gt0, nN_le0, nN_eq0, nN_eq1, nN_neN, pIn_n, pIx_n, eq_self, Nat.reduceLT, Bool.false_eq_true, Nat.add_zero, Nat.zero_add, Nat.reduceAdd, Nat.reduceMul, Nat.reduceSub, Nat.zero_le, Nat.reduceLeDiff, Nat.reduceEqDiff, Nat.le_refl, not_false_eq_true, not_true_eq_false, false_implies, true_implies, forall_const, true_and, and_true, if_true, if_false, implies_true, and_self, ne_eq, false_and, and_false, or_false, false_or, true_or, or_true]
    refine mw_mono (w_step h hp) ?_
    rintro _ M1 ⟨rfl, h1, A1⟩
    simp (disch := omega) only [q_aload0, q_aload0N, q_get_i, pTag_2, pRf_s, q_iload1, q_ic_eq, q_invv0, inv_2, q_zret, q_iconst, e_187_0, L_1, k_some, k_none, pRm_i, pRm_r, pRm_0, pF_1, pF_2, inv_s, zb_1, eq_self, Nat.reduceLT, Bool.false_eq_true, Nat.add_zero, Nat.zero_add, Nat.reduceAdd, Nat.reduceMul, Nat.reduceSub, Nat.zero_le, Nat.reduceLeDiff, Nat.reduceEqDiff, Nat.le_refl, not_false_eq_true, not_true_eq_false, false_implies, true_implies, forall_const, true_and, and_true, if_true, if_false, implies_true, and_self, ne_eq, false_and, and_false, or_false, false_or, true_or, or_true]
    exact ⟨⟨rfl, h1⟩, A1.mono fun h k z => ⟨z.1, by omega, by omega⟩⟩
  · rw [if_neg e]
    simp (disch := omega) only [m_187, q_aload0, q_aload0N, q_get_i, pTag_2, pRf_s, q_iload1, q_ic_eq, q_invv0, inv_2, q_zret, q_iconst, e_187_0, L_1, k_some, k_none, pRm_i, pRm_r, pRm_0, pF_1, pF_2, inv_s, hk, h.tg, e, nN_le, nN_lt, nN_eq, nN_add, nN_mul, nN_lt0, nN_ge0, nN_gt0, nN_le0, nN_eq0, nN_eq1, nN_neN, pIn_n, pIx_n, eq_self, Nat.reduceLT, Bool.false_eq_true, Nat.add_zero, Nat.zero_add, Nat.reduceAdd, Nat.reduceMul, Nat.reduceSub, Nat.zero_le, Nat.reduceLeDiff, Nat.reduceEqDiff, Nat.le_refl, not_false_eq_true, not_true_eq_false, false_implies, true_implies, forall_const, true_and, and_true, if_true, if_false, implies_true, and_self, ne_eq, false_and, and_false, or_false, false_or, true_or, or_true]
    refine mw_mono (w_wrongC h) ?_
    rintro _ M1 ⟨rfl, h1, A1⟩
    simp (disch := omega) only [q_aload0, q_aload0N, q_get_i, pTag_2, pRf_s, q_iload1, q_ic_eq, q_invv0, inv_2, q_zret, q_iconst, e_187_0, L_1, k_some, k_none, pRm_i, pRm_r, pRm_0, pF_1, pF_2, inv_s, zb_0, eq_self, Nat.reduceLT, Bool.false_eq_true, Nat.add_zero, Nat.zero_add, Nat.reduceAdd, Nat.reduceMul, Nat.reduceSub, Nat.zero_le, Nat.reduceLeDiff, Nat.reduceEqDiff, Nat.le_refl, not_false_eq_true, not_true_eq_false, false_implies, true_implies, forall_const, true_and, and_true, if_true, if_false, implies_true, and_self, ne_eq, false_and, and_false, or_false, false_or, true_or, or_true]
    exact ⟨⟨rfl, h1⟩, A1.mono fun h k z => ⟨z.1, by omega, by omega⟩⟩
theorem w_number {lo : Nat} (h : RdC M R tr br tb sr n b W p) (hlo : lo < 3000) (hh : ∀ v, v ≤ 3001 → ((nN v ≤ hi) = (v < c))) (hc : c ≤ 1000) : mw (d + 2) 188 [.ref R, .int (nN lo), .int hi] M (fun o M' => RdE M R tr br tb sr n b W (if lo ≤ th W n b p ∧ th W n b p < c then .inr (nx9 n b p) else .inl p) o M' ∧ ((lo ≤ th W n b p ∧ th W n b p < c) → gI M' R 8 = nN (th W n b p)) ∧ Ag (RdY R) M M') := by
  have hk := h.s9.k
  have htl := h.tl p
  have e9 := hh _ htl
  have fail : ¬ (lo ≤ th W n b p ∧ th W n b p < c) → bw (d + 1) 188 1 ([some (.ref R), some (.int (nN lo)), some (.int hi)], [], M) (fun o M' => RdE M R tr br tb sr n b W (if lo ≤ th W n b p ∧ th W n b p < c then .inr (nx9 n b p) else .inl p) o M' ∧ ((lo ≤ th W n b p ∧ th W n b p < c) → gI M' R 8 = nN (th W n b p)) ∧ Ag (RdY R) M M') := by
    intro hf
    rw [e_188_1]
    simp (disch := omega) only [q_aload0, q_aload0N, q_get_i, pTag_2, pRf_s, q_iload1, q_ic_lt, q_iload2, q_ic_le, q_nop, q_invv0, inv_2, q_zret, q_put_i, q_iconst, e_188_0, L_1, k_some, k_none, pRm_i, pRm_r, pRm_0, pF_1, pF_2, inv_s, hk, nN_le, nN_lt, nN_eq, nN_add, nN_mul, nN_lt0, nN_ge0, nN_gt0, nN_le0, nN_eq0, nN_eq1, nN_neN, pIn_n, pIx_n, eq_self, Nat.reduceLT, Bool.false_eq_true, Nat.add_zero, Nat.zero_add, Nat.reduceAdd, Nat.reduceMul, Nat.reduceSub, Nat.zero_le, Nat.reduceLeDiff, Nat.reduceEqDiff, Nat.le_refl, not_false_eq_true, not_true_eq_false, false_implies, true_implies, forall_const, true_and, and_true, if_true, if_false, implies_true, and_self, ne_eq, false_and, and_false, or_false, false_or, true_or, or_true]
    refine mw_mono (w_wrongC h) ?_
    rintro _ M1 ⟨rfl, h1, A1⟩
    simp (disch := omega) only [q_aload0, q_aload0N, q_get_i, pTag_2, pRf_s, q_iload1, q_ic_lt, q_iload2, q_ic_le, q_nop, q_invv0, inv_2, q_zret, q_put_i, q_iconst, e_188_0, L_1, k_some, k_none, pRm_i, pRm_r, pRm_0, pF_1, pF_2, inv_s, zb_0, eq_self, Nat.reduceLT, Bool.false_eq_true, Nat.add_zero, Nat.zero_add, Nat.reduceAdd, Nat.reduceMul, Nat.reduceSub, Nat.zero_le, Nat.reduceLeDiff, Nat.reduceEqDiff, Nat.le_refl, not_false_eq_true, not_true_eq_false, false_implies, true_implies, forall_const, true_and, and_true, if_true, if_false, implies_true, and_self, ne_eq, false_and, and_false, or_false, false_or, true_or, or_true]
    rw [if_neg hf]
    exact ⟨⟨rfl, h1⟩, fun z => absurd z hf, A1.mono fun h k z => ⟨z.1, by omega, by omega⟩⟩
  by_cases c1 : th W n b p < lo
  · simp (disch := omega) only [m_188, q_aload0, q_aload0N, q_get_i, pTag_2, pRf_s, q_iload1, q_ic_lt, q_iload2, q_ic_le, q_nop, q_invv0, inv_2, q_zret, q_put_i, q_iconst, e_188_0, L_1, k_some, k_none, pRm_i, pRm_r, pRm_0, pF_1, pF_2, inv_s, hk, h.tg, c1, nN_le, nN_lt, nN_eq, nN_add, nN_mul, nN_lt0, nN_ge0, nN_gt0, nN_le0, nN_eq0, nN_eq1, nN_neN, pIn_n, pIx_n, eq_self, Nat.reduceLT, Bool.false_eq_true, Nat.add_zero, Nat.zero_add, Nat.reduceAdd, Nat.reduceMul, Nat.reduceSub, Nat.zero_le, Nat.reduceLeDiff, Nat.reduceEqDiff, Nat.le_refl, not_false_eq_true, not_true_eq_false, false_implies, true_implies, forall_const, true_and, and_true, if_true, if_false, implies_true, and_self, ne_eq, false_and, and_false, or_false, false_or, true_or, or_true]
    exact fail (by omega)
  · by_cases c2 : th W n b p < c
    · have hp := (h.lt (by omega)).1
      have e8 : nN (th W n b p) ≤ hi := by rw [e9]; exact c2
      have A0 : Ag (RdY R) M (sI M R 8 (nN (th W n b p))) := Ag.one ⟨rfl, by omega, by omega⟩
      have h0 : RdC (sI M R 8 (nN (th W n b p))) R tr br tb sr n b W p := h.agY A0 (by rw [gI_sI, if_neg (by omega)]; exact h.pl) (by rw [gI_sI, if_neg (by omega)]; exact h.tg) h.at9 (by rw [gI_sI, if_neg (by omega)]; exact h.ft)
      have hk0 := h0.s9.k
      simp (disch := omega) only [m_188, q_aload0, q_aload0N, q_get_i, pTag_2, pRf_s, q_iload1, q_ic_lt, q_iload2, q_ic_le, q_nop, q_invv0, inv_2, q_zret, q_put_i, q_iconst, e_188_0, e_188_2, L_1, k_some, k_none, pRm_i, pRm_r, pRm_0, pF_1, pF_2, inv_s, hk, hk0, h.tg, c1, e8, nN_le, nN_lt, nN_eq, nN_add, nN_mul, nN_lt0, nN_ge0, nN_gt0, nN_le0, nN_eq0, nN_eq1, nN_neN, pIn_n, pIx_n, eq_self, Nat.reduceLT, Bool.false_eq_true, Nat.add_zero, Nat.zero_add, Nat.reduceAdd, Nat.reduceMul, Nat.reduceSub, Nat.zero_le, Nat.reduceLeDiff, Nat.reduceEqDiff, Nat.le_refl, not_false_eq_true, not_true_eq_false, false_implies, true_implies, forall_const, true_and, and_true, if_true, if_false, implies_true, and_self, ne_eq, false_and, and_false, or_false, false_or, true_or, or_true]
      refine mw_mono (w_step h0 hp) ?_
      rintro _ M1 ⟨rfl, h1, A1⟩
      simp (disch := omega) only [q_aload0, q_aload0N, q_get_i, pTag_2, pRf_s, q_iload1, q_ic_lt, q_iload2, q_ic_le, q_nop, q_invv0, inv_2, q_zret, q_put_i, q_iconst, e_188_0, e_188_2, L_1, k_some, k_none, pRm_i, pRm_r, pRm_0, pF_1, pF_2, inv_s, zb_1, eq_self, Nat.reduceLT, Bool.false_eq_true, Nat.add_zero, Nat.zero_add, Nat.reduceAdd, Nat.reduceMul, Nat.reduceSub, Nat.zero_le, Nat.reduceLeDiff, Nat.reduceEqDiff, Nat.le_refl, not_false_eq_true, not_true_eq_false, false_implies, true_implies, forall_const, true_and, and_true, if_true, if_false, implies_true, and_self, ne_eq, false_and, and_false, or_false, false_or, true_or, or_true]
      rw [if_pos ⟨by omega, c2⟩]
      refine ⟨⟨rfl, h1⟩, fun _ => ?_, A0.trans (A1.mono fun h k z => ⟨z.1, by omega, by omega⟩)⟩
      rw [A1.I (by omega), gI_sI, if_pos ⟨rfl, rfl⟩]
    · have e8 : ¬ nN (th W n b p) ≤ hi := by rw [e9]; exact c2
      simp (disch := omega) only [m_188, q_aload0, q_aload0N, q_get_i, pTag_2, pRf_s, q_iload1, q_ic_lt, q_iload2, q_ic_le, q_nop, q_invv0, inv_2, q_zret, q_put_i, q_iconst, e_188_0, L_1, k_some, k_none, pRm_i, pRm_r, pRm_0, pF_1, pF_2, inv_s, hk, h.tg, c1, e8, nN_le, nN_lt, nN_eq, nN_add, nN_mul, nN_lt0, nN_ge0, nN_gt0, nN_le0, nN_eq0, nN_eq1, nN_neN, pIn_n, pIx_n, eq_self, Nat.reduceLT, Bool.false_eq_true, Nat.add_zero, Nat.zero_add, Nat.reduceAdd, Nat.reduceMul, Nat.reduceSub, Nat.zero_le, Nat.reduceLeDiff, Nat.reduceEqDiff, Nat.le_refl, not_false_eq_true, not_true_eq_false, false_implies, true_implies, forall_const, true_and, and_true, if_true, if_false, implies_true, and_self, ne_eq, false_and, and_false, or_false, false_or, true_or, or_true]
      exact fail (by omega)
end SP
