/-! THE LAW'S MODEL READS A TEXT: its small steps -/
def LtM (M : pMem) (u n : Nat) (b : Nat → Nat) : Prop := (gI M u 7 = iN (-1) ∧ n ≤ 400 ∧ ∀ k, k < n → gI M (u + 4) k = nN (b k)) ∨ ∃ B, gI M u 7 = nN B ∧ B + n ≤ 3346 ∧ ∀ k, k < n → gI M (u + 1) (B + k) = nN (b k)
def MdS (M : pMem) (u n : Nat) (b : Nat → Nat) (q : Nat) (p : Nat) : Prop := (ShM (gS M) (gP M) u) ∧ (LtM M u n b) ∧ (n ≤ 400) ∧ (∀ k, b k < 256) ∧ (gI M u 8 = nN n) ∧ (gI M u 10 = iN (-1)) ∧ (gI M u 9 = nN q) ∧ (Cl n b q) ∧ (nb n b q = p)
theorem MdS.mk {M : pMem} {u n : Nat} {b : Nat → Nat} {q : Nat} {p : Nat} (sh : ShM (gS M) (gP M) u) (lt : LtM M u n b) (n9 : n ≤ 400) (b9 : ∀ k, b k < 256) (en : gI M u 8 = nN n) (ft : gI M u 10 = iN (-1)) (aq : gI M u 9 = nN q) (cl : Cl n b q) (nq : nb n b q = p) : MdS M u n b q p := ⟨sh, lt, n9, b9, en, ft, aq, cl, nq⟩
theorem MdS.sh {M : pMem} {u n : Nat} {b : Nat → Nat} {q : Nat} {p : Nat} (h : MdS M u n b q p) : ShM (gS M) (gP M) u := And.left h
theorem MdS.lt {M : pMem} {u n : Nat} {b : Nat → Nat} {q : Nat} {p : Nat} (h : MdS M u n b q p) : LtM M u n b := And.left (And.right h)
theorem MdS.n9 {M : pMem} {u n : Nat} {b : Nat → Nat} {q : Nat} {p : Nat} (h : MdS M u n b q p) : n ≤ 400 := And.left (And.right (And.right h))
theorem MdS.b9 {M : pMem} {u n : Nat} {b : Nat → Nat} {q : Nat} {p : Nat} (h : MdS M u n b q p) : ∀ k, b k < 256 := And.left (And.right (And.right (And.right h)))
theorem MdS.en {M : pMem} {u n : Nat} {b : Nat → Nat} {q : Nat} {p : Nat} (h : MdS M u n b q p) : gI M u 8 = nN n := And.left (And.right (And.right (And.right (And.right h))))
theorem MdS.ft {M : pMem} {u n : Nat} {b : Nat → Nat} {q : Nat} {p : Nat} (h : MdS M u n b q p) : gI M u 10 = iN (-1) := And.left (And.right (And.right (And.right (And.right (And.right h)))))
theorem MdS.aq {M : pMem} {u n : Nat} {b : Nat → Nat} {q : Nat} {p : Nat} (h : MdS M u n b q p) : gI M u 9 = nN q := And.left (And.right (And.right (And.right (And.right (And.right (And.right h))))))
theorem MdS.cl {M : pMem} {u n : Nat} {b : Nat → Nat} {q : Nat} {p : Nat} (h : MdS M u n b q p) : Cl n b q := And.left (And.right (And.right (And.right (And.right (And.right (And.right (And.right h)))))))
theorem MdS.nq {M : pMem} {u n : Nat} {b : Nat → Nat} {q : Nat} {p : Nat} (h : MdS M u n b q p) : nb n b q = p := And.right (And.right (And.right (And.right (And.right (And.right (And.right (And.right h)))))))
def MdX (u h k : Nat) : Prop := h = u ∧ (k = 9 ∨ k = 10)
section MD
variable {d n u p q k m c : Nat} {b : Nat → Nat} {W : List (List Nat)} {M M1 M' : pMem} {Q : pOut → pMem → Prop} {x y : Int32}
theorem LtM.ag {X : Nat → Nat → Prop} (h : LtM M u n b) (A : Ag X M M') (n1 : ¬ X u 7) (n2 : ∀ k, ¬ X (u + 4) k) (n3 : ∀ k, ¬ X (u + 1) k) : LtM M' u n b := by
  rcases h with ⟨h1, h2, h3⟩ | ⟨B, h1, h2, h3⟩
  · exact Or.inl ⟨by rw [A.I n1]; exact h1, h2, fun k hk => by rw [A.I (n2 k)]; exact h3 k hk⟩
  · exact Or.inr ⟨B, by rw [A.I n1]; exact h1, h2, fun k hk => by rw [A.I (n3 _)]; exact h3 k hk⟩
theorem MdS.ple (h : MdS M u n b q p) : q ≤ p ∧ p ≤ n := by
  obtain ⟨h1, h2, -, -⟩ := nb_spec (b := b) h.cl.1
  rw [h.nq] at h1 h2
  exact ⟨h1, h2⟩
theorem MdS.at9 (h : MdS M u n b q p) : p = n ∨ (p < n ∧ isB b p = true) := by
  obtain ⟨h1, h2, h3, -⟩ := nb_spec (b := b) h.cl.1
  rw [h.nq] at h1 h2 h3
  by_cases c : p = n
  · exact Or.inl c
  · exact Or.inr ⟨by omega, h3 (by omega)⟩
/-- it stands elsewhere -/
theorem MdS.mv {q' p' : Nat} (h : MdS M u n b q p) (A : Ag (fun h k => h = u ∧ k = 9) M M') (aq : gI M' u 9 = nN q') (cl : Cl n b q') (nq : nb n b q' = p') : MdS M' u n b q' p' :=
  MdS.mk (by rw [A.S, A.P]; exact h.sh) (h.lt.ag A (by omega) (by omega) (by omega)) h.n9 h.b9 (by rw [A.I (by omega)]; exact h.en) (by rw [A.I (by omega)]; exact h.ft) aq cl nq
theorem w_letter (hs : ShM (gS M) (gP M) u) (hl : LtM M u n b) (hk : k < n) : mw (d + 1) 60 [.ref u, .int (nN k)] M Q = Q (.inl (some (.int (nN (b k))))) M := by
  rcases hl with ⟨h1, h2, h3⟩ | ⟨B, h1, h2, h3⟩
  · have h4 := h3 k hk
    have h5 : k < 400 := by omega
    simp (disch := omega) only [m_60, q_aload0, q_aload0N, q_get_i, pTag_1, pRf_s, q_iconst, q_ic_ne, q_get_r, q_iload1, q_iald, q_goto, q_iadd, q_nop, q_iret, e_60_0, e_60_1, e_60_2, hs.k0, hs.p1, hs.p5, hs.k1, hs.k4, h1, h4, h5, nN_le, nN_lt, nN_eq, nN_add, nN_mul, nN_lt0, nN_ge0, nN_gt0, nN_le0, nN_eq0, nN_eq1, nN_neN, pIn_n, pIx_n, eq_self, Nat.reduceLT, Bool.false_eq_true, Nat.add_zero, Nat.zero_add, Nat.reduceAdd, Nat.reduceMul, Nat.reduceSub, Nat.zero_le, Nat.reduceLeDiff, Nat.reduceEqDiff, Nat.le_refl, not_false_eq_true, not_true_eq_false, false_implies, true_implies, forall_const, true_and, and_true, if_true, if_false, implies_true, and_self, ne_eq, false_and, and_false, or_false, false_or, true_or, or_true]
  · have h4 := h3 k hk
    have h5 : B + k < 3346 := by omega
    simp (disch := omega) only [m_60, q_aload0, q_aload0N, q_get_i, pTag_1, pRf_s, q_iconst, q_ic_ne, q_get_r, q_iload1, q_iald, q_goto, q_iadd, q_nop, q_iret, e_60_0, e_60_1, e_60_2, hs.k0, hs.p1, hs.p5, hs.k1, hs.k4, h1, h4, h5, nN_le, nN_lt, nN_eq, nN_add, nN_mul, nN_lt0, nN_ge0, nN_gt0, nN_le0, nN_eq0, nN_eq1, nN_neN, pIn_n, pIx_n, eq_self, Nat.reduceLT, Bool.false_eq_true, Nat.add_zero, Nat.zero_add, Nat.reduceAdd, Nat.reduceMul, Nat.reduceSub, Nat.zero_le, Nat.reduceLeDiff, Nat.reduceEqDiff, Nat.le_refl, not_false_eq_true, not_true_eq_false, false_implies, true_implies, forall_const, true_and, and_true, if_true, if_false, implies_true, and_self, ne_eq, false_and, and_false, or_false, false_or, true_or, or_true]
theorem kd_0 {c : Nat} : (kd c = 0) = (c = 32) := by
  unfold kd
  refine propext ⟨fun h => ?_, fun h => by subst h; decide⟩
  split at h
  · cases h
  · split at h
    · cases h
    · split at h
      · assumption
      · cases h
theorem kd_1 {c : Nat} : (kd c = 1) = (97 ≤ c ∧ c ≤ 122) := by
  unfold kd
  refine propext ⟨fun h => ?_, fun h => if_pos h⟩
  split at h
  · assumption
  · split at h
    · cases h
    · split at h <;> cases h
theorem kd_2e {c : Nat} : (kd c = 2) = (48 ≤ c ∧ c ≤ 57) := by
  refine propext ⟨kd_2, fun h => ?_⟩
  unfold kd
  rw [if_neg (by omega), if_pos h]
theorem w_skip (h : MdS M u n b q p) : mw (d + 2) 61 [.ref u] M (fun o M' => o = .inl none ∧ MdS M' u n b p p ∧ Ag (fun h k => h = u ∧ k = 9) M M') := by
  have key : ∀ (j q : Nat) (M : pMem), q + j = n → MdS M u n b q p → bw (d + 1) 61 0 ([some (.ref u)], [], M) (fun o M' => o = .inl none ∧ MdS M' u n b p p ∧ Ag (fun h k => h = u ∧ k = 9) M M') := by
    intro j
    induction j with
    | zero =>
      intro q M hj h
      have hq : q = n := by omega
      have hp : p = n := by rw [← h.nq, hq]; exact nb_n
      have hn := h.n9
      have e : n ≤ q := by omega
      rw [e_61_0]
      simp (disch := omega) only [q_aload0, q_aload0N, q_get_i, pTag_1, pRf_s, q_ic_ge, q_invv1, inv_1, q_bipush, q_ic_ne, q_dup_i, q_dup_r, q_iconst, q_iadd, q_put_i, q_goto, q_vret, e_61_1, L_1, L_32, k_some, k_none, pRm_i, pRm_r, pRm_0, pF_1, pF_2, inv_s, h.sh.k0, h.aq, h.en, e, nN_le, nN_lt, nN_eq, nN_add, nN_mul, nN_lt0, nN_ge0, nN_gt0, nN_le0, nN_eq0, nN_eq1, nN_neN, pIn_n, pIx_n, eq_self, Nat.reduceLT, Bool.false_eq_true, Nat.add_zero, Nat.zero_add, Nat.reduceAdd, Nat.reduceMul, Nat.reduceSub, Nat.zero_le, Nat.reduceLeDiff, Nat.reduceEqDiff, Nat.le_refl, not_false_eq_true, not_true_eq_false, false_implies, true_implies, forall_const, true_and, and_true, if_true, if_false, implies_true, and_self, ne_eq, false_and, and_false, or_false, false_or, true_or, or_true]
      refine ⟨?_, Ag.rfl⟩
      rw [hp]
      rw [hq, hp] at h
      exact h
    | succ j ih =>
      intro q M hj h
      have hn := h.n9
      have hb9 := h.b9 q
      have e : ¬ n ≤ q := by omega
      rw [e_61_0]
      by_cases c : b q = 32
      · have hB : isB b q = false := by
          cases h9 : isB b q with
          | false => rfl
          | true => exact absurd (by rw [kd_0]; exact c) (isB_iff.mp h9).1
        simp (disch := omega) only [q_aload0, q_aload0N, q_get_i, pTag_1, pRf_s, q_ic_ge, q_invv1, inv_1, q_bipush, q_ic_ne, q_dup_i, q_dup_r, q_iconst, q_iadd, q_put_i, q_goto, q_vret, e_61_1, L_1, L_32, k_some, k_none, pRm_i, pRm_r, pRm_0, pF_1, pF_2, inv_s, h.sh.k0, h.aq, h.en, w_letter h.sh h.lt, e, c, nN_le, nN_lt, nN_eq, nN_add, nN_mul, nN_lt0, nN_ge0, nN_gt0, nN_le0, nN_eq0, nN_eq1, nN_neN, pIn_n, pIx_n, eq_self, Nat.reduceLT, Bool.false_eq_true, Nat.add_zero, Nat.zero_add, Nat.reduceAdd, Nat.reduceMul, Nat.reduceSub, Nat.zero_le, Nat.reduceLeDiff, Nat.reduceEqDiff, Nat.le_refl, not_false_eq_true, not_true_eq_false, false_implies, true_implies, forall_const, true_and, and_true, if_true, if_false, implies_true, and_self, ne_eq, false_and, and_false, or_false, false_or, true_or, or_true]
        have A : Ag (fun h k => h = u ∧ k = 9) M (sI M u 9 (nN (q + 1))) := Ag.one ⟨rfl, rfl⟩
        have h2 : MdS (sI M u 9 (nN (q + 1))) u n b (q + 1) p := h.mv A (by rw [gI_sI, if_pos ⟨rfl, rfl⟩]) (Cl_blank (by omega) (by rw [kd_0]; exact c)) (by rw [← nb_step (by omega) hB]; exact h.nq)
        refine bw_mono (ih (q + 1) _ (by omega) h2) ?_
        rintro _ M3 ⟨rfl, h3, A3⟩
        exact ⟨rfl, h3, A.trans A3⟩
      · have hB : isB b q = true := by
          rcases h.cl.2 with z | z | z
          · omega
          · rw [kd_0] at z; exact absurd z c
          · exact z
        have hp : p = q := by rw [← h.nq]; exact nb_at (by omega) hB
        simp (disch := omega) only [q_aload0, q_aload0N, q_get_i, pTag_1, pRf_s, q_ic_ge, q_invv1, inv_1, q_bipush, q_ic_ne, q_dup_i, q_dup_r, q_iconst, q_iadd, q_put_i, q_goto, q_vret, e_61_1, L_1, L_32, k_some, k_none, pRm_i, pRm_r, pRm_0, pF_1, pF_2, inv_s, h.sh.k0, h.aq, h.en, w_letter h.sh h.lt, e, c, nN_le, nN_lt, nN_eq, nN_add, nN_mul, nN_lt0, nN_ge0, nN_gt0, nN_le0, nN_eq0, nN_eq1, nN_neN, pIn_n, pIx_n, eq_self, Nat.reduceLT, Bool.false_eq_true, Nat.add_zero, Nat.zero_add, Nat.reduceAdd, Nat.reduceMul, Nat.reduceSub, Nat.zero_le, Nat.reduceLeDiff, Nat.reduceEqDiff, Nat.le_refl, not_false_eq_true, not_true_eq_false, false_implies, true_implies, forall_const, true_and, and_true, if_true, if_false, implies_true, and_self, ne_eq, false_and, and_false, or_false, false_or, true_or, or_true]
        rw [hp]
        rw [hp] at h
        exact ⟨h, Ag.rfl⟩
  simp (disch := omega) only [m_61]
  exact key (n - q) q M (by have := h.cl.1; omega) h
theorem wixF_in {x : List Nat} : ∀ (V : List (List Nat)) (i : Nat), i + V.length < 1100 → wixF x V i < 1100 ∨ wixF x V i = 3001 := by
  intro V
  induction V with
  | nil => intro i _; exact Or.inr rfl
  | cons w V ih =>
    intro i hi
    simp only [List.length_cons] at hi
    unfold wixF
    split
    · left; omega
    · exact ih (i + 1) (by omega)
/-- what a thing's number says of its kind -/
theorem th_kinds (hW : W.length < 100) (h : p < n) : (kd (b p) = 3 ∧ th W n b p = 2000 + b p) ∨ (kd (b p) = 2 ∧ ((te n b p - p ≤ 3 ∧ th W n b p = nmV b p (te n b p - p) ∧ th W n b p < 1000) ∨ (3 < te n b p - p ∧ th W n b p = 3001))) ∨ (¬ kd (b p) = 3 ∧ ¬ kd (b p) = 2 ∧ th W n b p = wixF (tx n b p) W 1000 ∧ (th W n b p < 1100 ∨ th W n b p = 3001)) := by
  unfold th
  rw [if_neg (by omega)]
  by_cases c3 : kd (b p) = 3
  · rw [if_pos c3]; exact Or.inl ⟨c3, rfl⟩
  · rw [if_neg c3]
    by_cases c2 : kd (b p) = 2
    · rw [if_pos c2]
      refine Or.inr (Or.inl ⟨c2, ?_⟩)
      by_cases c4 : 3 < te n b p - p
      · rw [if_pos c4]; exact Or.inr ⟨c4, rfl⟩
      · rw [if_neg c4]
        left
        have g := te_spec (n := n) (b := b) (p := p) h
        unfold tx
        rw [numV_nm]
        have h1 := nmV_lt (b := b) (p := p) (m := te n b p - p) (fun i hi => kd_2 (by rw [g.2.2.2.1 (p + i) (by omega) (by omega)]; exact c2))
        have h2 : 10 ^ (te n b p - p) ≤ 10 ^ 3 := Nat.pow_le_pow_right (by omega) (by omega)
        exact ⟨by omega, rfl, by omega⟩
    · rw [if_neg c2]
      exact Or.inr (Or.inr ⟨c3, c2, rfl, wixF_in W 1000 (by omega)⟩)
theorem wixF_ge {x : List Nat} : ∀ (V : List (List Nat)) (i : Nat), i ≤ 3001 → i ≤ wixF x V i := by
  intro V
  induction V with
  | nil => intro i h; exact h
  | cons w V ih =>
    intro i hi
    unfold wixF
    split
    · exact Nat.le_refl _
    · by_cases e : i = 3001
      · subst e
        have : ∀ (V : List (List Nat)) (j : Nat), 3001 ≤ j → 3001 ≤ wixF x V j := by
          intro V
          induction V with
          | nil => intro j _; exact Nat.le_refl _
          | cons w V ih => intro j hj; unfold wixF; split; exact hj; exact ih (j + 1) (by omega)
        exact this V _ (by omega)
      · have := ih (i + 1) (by omega); omega
theorem th_sign (hc : kd c = 3) (hc9 : c < 256) (hW : W.length < 100) : (th W n b p = 2000 + c) = (p < n ∧ b p = c) := by
  by_cases hp : p < n
  · rcases th_kinds (b := b) hW hp with ⟨h1, h2⟩ | ⟨h1, h2⟩ | ⟨h1, h2, h3, h4⟩
    · rw [h2]
      exact propext ⟨fun z => ⟨hp, by omega⟩, fun z => by omega⟩
    · refine propext ⟨fun z => by omega, fun z => ?_⟩
      rw [z.2, hc] at h1; cases h1
    · refine propext ⟨fun z => by omega, fun z => ?_⟩
      rw [z.2] at h1; exact absurd hc h1
  · rw [th_3000 (by omega)]
    exact propext ⟨fun z => by omega, fun z => absurd z.1 hp⟩
theorem bI_T : bI True = nN 1 := by simp [bI]
theorem bI_F : bI False = nN 0 := by simp [bI]
theorem w_isSign (h : MdS M u n b q p) (hc : c < 256) : mw (d + 3) 62 [.ref u, .int (nN c)] M (fun o M' => o = .inl (some (.int (bI (p < n ∧ b p = c)))) ∧ MdS M' u n b p p ∧ Ag (fun h k => h = u ∧ k = 9) M M') := by
  simp (disch := omega) only [m_62, q_aload0, q_aload0N, q_invv0, inv_1, q_get_i, pTag_1, pRf_s, q_ic_ge, q_invv1, q_iload1, q_ic_ne, q_iconst, q_goto, q_nop, q_zret, e_62_0, L_0, L_1, k_some, k_none, pRm_i, pRm_r, pRm_0, pF_1, pF_2, inv_s, h.sh.k0, nN_le, nN_lt, nN_eq, nN_add, nN_mul, nN_lt0, nN_ge0, nN_gt0, nN_le0, nN_eq0, nN_eq1, nN_neN, pIn_n, pIx_n, eq_self, Nat.reduceLT, Bool.false_eq_true, Nat.add_zero, Nat.zero_add, Nat.reduceAdd, Nat.reduceMul, Nat.reduceSub, Nat.zero_le, Nat.reduceLeDiff, Nat.reduceEqDiff, Nat.le_refl, not_false_eq_true, not_true_eq_false, false_implies, true_implies, forall_const, true_and, and_true, if_true, if_false, implies_true, and_self, ne_eq, false_and, and_false, or_false, false_or, true_or, or_true]
  refine mw_mono (w_skip h) ?_
  rintro _ M1 ⟨rfl, h1, A1⟩
  have hn := h1.n9
  have hpn := h1.ple.2
  have hb9 := h1.b9 p
  by_cases c1 : n ≤ p
  · have e : ¬ (p < n ∧ b p = c) := by omega
    simp (disch := omega) only [q_aload0, q_aload0N, q_invv0, inv_1, q_get_i, pTag_1, pRf_s, q_ic_ge, q_invv1, q_iload1, q_ic_ne, q_iconst, q_goto, q_nop, q_zret, e_62_0, e_62_1, e_62_2, L_0, L_1, k_some, k_none, pRm_i, pRm_r, pRm_0, pF_1, pF_2, inv_s, h1.sh.k0, h1.aq, h1.en, c1, e, bI_F, zb_0, nN_le, nN_lt, nN_eq, nN_add, nN_mul, nN_lt0, nN_ge0, nN_gt0, nN_le0, nN_eq0, nN_eq1, nN_neN, pIn_n, pIx_n, eq_self, Nat.reduceLT, Bool.false_eq_true, Nat.add_zero, Nat.zero_add, Nat.reduceAdd, Nat.reduceMul, Nat.reduceSub, Nat.zero_le, Nat.reduceLeDiff, Nat.reduceEqDiff, Nat.le_refl, not_false_eq_true, not_true_eq_false, false_implies, true_implies, forall_const, true_and, and_true, if_true, if_false, implies_true, and_self, ne_eq, false_and, and_false, or_false, false_or, true_or, or_true]
    exact ⟨h1, A1⟩
  · by_cases c2 : b p = c
    · have e : p < n ∧ b p = c := ⟨by omega, c2⟩
      have e9 : p < n := by omega
      simp (disch := omega) only [q_aload0, q_aload0N, q_invv0, inv_1, q_get_i, pTag_1, pRf_s, q_ic_ge, q_invv1, q_iload1, q_ic_ne, q_iconst, q_goto, q_nop, q_zret, e_62_0, e_62_1, e_62_2, L_0, L_1, k_some, k_none, pRm_i, pRm_r, pRm_0, pF_1, pF_2, inv_s, h1.sh.k0, h1.aq, h1.en, w_letter h1.sh h1.lt, c1, c2, e9, bI_T, zb_1, nN_le, nN_lt, nN_eq, nN_add, nN_mul, nN_lt0, nN_ge0, nN_gt0, nN_le0, nN_eq0, nN_eq1, nN_neN, pIn_n, pIx_n, eq_self, Nat.reduceLT, Bool.false_eq_true, Nat.add_zero, Nat.zero_add, Nat.reduceAdd, Nat.reduceMul, Nat.reduceSub, Nat.zero_le, Nat.reduceLeDiff, Nat.reduceEqDiff, Nat.le_refl, not_false_eq_true, not_true_eq_false, false_implies, true_implies, forall_const, true_and, and_true, if_true, if_false, implies_true, and_self, ne_eq, false_and, and_false, or_false, false_or, true_or, or_true]
      exact ⟨h1, A1⟩
    · have e : ¬ (p < n ∧ b p = c) := fun z => c2 z.2
      simp (disch := omega) only [q_aload0, q_aload0N, q_invv0, inv_1, q_get_i, pTag_1, pRf_s, q_ic_ge, q_invv1, q_iload1, q_ic_ne, q_iconst, q_goto, q_nop, q_zret, e_62_0, e_62_1, e_62_2, L_0, L_1, k_some, k_none, pRm_i, pRm_r, pRm_0, pF_1, pF_2, inv_s, h1.sh.k0, h1.aq, h1.en, w_letter h1.sh h1.lt, c1, c2, bI_F, zb_0, nN_le, nN_lt, nN_eq, nN_add, nN_mul, nN_lt0, nN_ge0, nN_gt0, nN_le0, nN_eq0, nN_eq1, nN_neN, pIn_n, pIx_n, eq_self, Nat.reduceLT, Bool.false_eq_true, Nat.add_zero, Nat.zero_add, Nat.reduceAdd, Nat.reduceMul, Nat.reduceSub, Nat.zero_le, Nat.reduceLeDiff, Nat.reduceEqDiff, Nat.le_refl, not_false_eq_true, not_true_eq_false, false_implies, true_implies, forall_const, true_and, and_true, if_true, if_false, implies_true, and_self, ne_eq, false_and, and_false, or_false, false_or, true_or, or_true]
      exact ⟨h1, A1⟩
theorem w_wrongM (hs : ShM (gS M) (gP M) u) (hf : gI M u 10 = iN (-1)) : mw (d + 1) 64 [.ref u, .int x] M (fun o M' => o = .inl none ∧ gI M' u 10 = x ∧ Ag (fun h k => h = u ∧ k = 10) M M') := by
  simp (disch := omega) only [m_64, q_aload0, q_aload0N, q_get_i, pTag_1, pRf_s, q_iconst, q_ic_ne, q_iload1, q_put_i, q_nop, q_vret, e_64_0, e_64_1, hs.k0, hf, nN_le, nN_lt, nN_eq, nN_add, nN_mul, nN_lt0, nN_ge0, nN_gt0, nN_le0, nN_eq0, nN_eq1, nN_neN, pIn_n, pIx_n, eq_self, Nat.reduceLT, Bool.false_eq_true, Nat.add_zero, Nat.zero_add, Nat.reduceAdd, Nat.reduceMul, Nat.reduceSub, Nat.zero_le, Nat.reduceLeDiff, Nat.reduceEqDiff, Nat.le_refl, not_false_eq_true, not_true_eq_false, false_implies, true_implies, forall_const, true_and, and_true, if_true, if_false, implies_true, and_self, ne_eq, false_and, and_false, or_false, false_or, true_or, or_true]
  exact ⟨by rw [gI_sI, if_pos ⟨rfl, rfl⟩], Ag.one ⟨rfl, rfl⟩⟩
theorem w_wrongN (hs : ShM (gS M) (gP M) u) (hf : ¬ gI M u 10 = iN (-1)) : mw (d + 1) 64 [.ref u, .int x] M Q = Q (.inl none) M := by
  simp (disch := omega) only [m_64, q_aload0, q_aload0N, q_get_i, pTag_1, pRf_s, q_iconst, q_ic_ne, q_iload1, q_put_i, q_nop, q_vret, e_64_0, e_64_1, hs.k0, hf, nN_le, nN_lt, nN_eq, nN_add, nN_mul, nN_lt0, nN_ge0, nN_gt0, nN_le0, nN_eq0, nN_eq1, nN_neN, pIn_n, pIx_n, eq_self, Nat.reduceLT, Bool.false_eq_true, Nat.add_zero, Nat.zero_add, Nat.reduceAdd, Nat.reduceMul, Nat.reduceSub, Nat.zero_le, Nat.reduceLeDiff, Nat.reduceEqDiff, Nat.le_refl, not_false_eq_true, not_true_eq_false, false_implies, true_implies, forall_const, true_and, and_true, if_true, if_false, implies_true, and_self, ne_eq, false_and, and_false, or_false, false_or, true_or, or_true]
end MD
