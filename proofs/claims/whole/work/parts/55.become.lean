/-! ONE TOWN BECOMES ANOTHER -/
theorem w_copy {d a b n : Nat} {M : pMem} (h1 : gS M a = (100, n)) (h2 : gS M b = (100, n)) (hn : n < 1000000) (hab : a ≠ b) : mw (d + 1) 47 [.ref a, .ref b] M (fun o M' => o = .inl none ∧ Ag (fun h _ => h = b) M M' ∧ ∀ k, k < n → gI M' b k = gI M a k) := by
  have e1 : iN (n : Int) = nN n := rfl
  have e2 : (if nN n < nN n then nN n else nN n) = nN n := by split <;> rfl
  have e3 : (nN 0).toInt = 0 := nN_toInt (by omega)
  have e4 : (nN n).toInt = n := nN_toInt (by omega)
  have p1 : pIx (nN 0) = 0 := pIx_n (by omega)
  have p2 : pIx (nN n) = n := pIx_n (by omega)
  simp (disch := omega) only [m_47, q_aload0, q_aload0N, q_iconst, q_aload1, q_aload1N, q_alen, q_min, q_cpy, q_vret, e_47_0, L_0, h1, h2, e1, e2, e3, e4, p1, p2, pRm_i, pRm_r, pRm_0, hab, eq_self, Nat.reduceLT, Bool.false_eq_true, Nat.add_zero, Nat.zero_add, Nat.reduceAdd, Nat.reduceMul, Nat.reduceSub, Nat.zero_le, Nat.reduceLeDiff, Nat.reduceEqDiff, Nat.le_refl, not_false_eq_true, not_true_eq_false, false_implies, true_implies, forall_const, true_and, and_true, if_true, if_false, implies_true, and_self, ne_eq, false_and, and_false, or_false, false_or, true_or, or_true]
  refine ⟨by omega, ⟨⟨rfl, rfl⟩, ⟨rfl, rfl, rfl⟩, fun h k hn => ?_⟩, fun k hk => ?_⟩
  · show upR M.1 b _ h k = _
    unfold upR
    rw [if_neg hn]
    rfl
  · show upR M.1 b _ b k = _
    unfold upR
    rw [if_pos rfl]
    unfold va_cpy
    rw [if_pos (by omega), Nat.zero_add, Nat.sub_zero]
/-- a town's block, partly like another's: rows L, fields F -/
def Bk (M0 M : pMem) (t s : Nat) (L : List Nat) (F : List (Nat × Nat)) : Prop := (gS M = gS M0 ∧ gJ M = gJ M0 ∧ gN M = gN M0 ∧ gL M = gL M0) ∧ (∀ h k, h ≠ t + 15 → gP M h k = gP M0 h k) ∧ (∀ h k, ¬ (t ≤ h ∧ h < t + 22) → gI M h k = gI M0 h k) ∧ (∀ i, i ∈ L → (i < 22 ∧ i ≠ 0 ∧ i ≠ 1 ∧ i ≠ 7) ∧ ∀ k, k < (gS M0 (s + i)).2 → gI M (t + i) k = gI M0 (s + i) k) ∧ (∀ p, p ∈ F → (p.1 = 0 ∨ p.1 = 1 ∨ p.1 = 7) ∧ gI M (t + p.1) p.2 = gI M0 (s + p.1) p.2)
section BK
variable {d t s i n : Nat} {M0 M M1 : pMem} {L : List Nat} {F : List (Nat × Nat)} {Q : pOut → pMem → Prop}
theorem Bk.copy (b : Bk M0 M t s L F) (hd : s + 22 ≤ t ∨ t + 22 ≤ s) (hi : i < 22 ∧ i ≠ 0 ∧ i ≠ 1 ∧ i ≠ 7) (hn : gS M0 (s + i) = (100, n)) (A : Ag (fun h _ => h = t + i) M M1) (hc : ∀ k, k < n → gI M1 (t + i) k = gI M (s + i) k) : Bk M0 M1 t s (i :: L) F := by
  obtain ⟨⟨b1, b2, b3, b4⟩, b5, b6, b7, b8⟩ := b
  refine ⟨⟨A.S.trans b1, A.J.trans b2, A.N.trans b3, A.L.trans b4⟩, fun h k hh => by rw [A.P]; exact b5 h k hh, fun h k hh => by rw [A.I (by omega)]; exact b6 h k hh, ?_, ?_⟩
  · intro j hj
    by_cases c : j = i
    · subst c
      refine ⟨hi, fun k hk => ?_⟩
      rw [hn] at hk
      rw [hc k hk, b6 _ _ (by omega)]
    · have hj' : j ∈ L := by
        rcases List.mem_cons.mp hj with z | z
        · exact absurd z c
        · exact z
      obtain ⟨g1, g2⟩ := b7 j hj'
      refine ⟨g1, fun k hk => ?_⟩
      rw [A.I (by omega)]
      exact g2 k hk
  · intro p hp
    obtain ⟨g1, g2⟩ := b8 p hp
    refine ⟨g1, ?_⟩
    rw [A.I (by omega)]
    exact g2
theorem Bk.field {f : Nat} (b : Bk M0 M t s L F) (hd : s + 22 ≤ t ∨ t + 22 ≤ s) (hi : i = 0 ∨ i = 1 ∨ i = 7) : Bk M0 (sI M (t + i) f (gI M (s + i) f)) t s L ((i, f) :: F) := by
  obtain ⟨⟨b1, b2, b3, b4⟩, b5, b6, b7, b8⟩ := b
  refine ⟨⟨b1, b2, b3, b4⟩, b5, fun h k hh => by rw [gI_sI, if_neg (by omega)]; exact b6 h k hh, ?_, ?_⟩
  · intro j hj
    obtain ⟨g1, g2⟩ := b7 j hj
    refine ⟨g1, fun k hk => ?_⟩
    rw [gI_sI, if_neg (by omega)]
    exact g2 k hk
  · intro p hp
    rcases List.mem_cons.mp hp with rfl | z
    · refine ⟨hi, ?_⟩
      rw [gI_sI, if_pos ⟨rfl, rfl⟩]
      exact b6 _ _ (by omega)
    · obtain ⟨g1, g2⟩ := b8 p z
      refine ⟨g1, ?_⟩
      rw [gI_sI]
      split
      · rename_i c
        have e : p.1 = i := by omega
        rw [e, c.2]
        exact b6 _ _ (by omega)
      · exact g2
theorem Bk.sh (b : Bk M0 M t s L F) {r : Nat} (h : ShT (gS M0) (gP M0) r) (hr : r + 22 ≤ t ∨ t + 22 ≤ r ∨ r = t) : ShT (gS M) (gP M) r := by
  obtain ⟨⟨b1, -, -, -⟩, b5, -, -⟩ := b
  have p0 : ∀ k, gP M r k = gP M0 r k := fun k => b5 _ _ (by omega)
  have p1 : ∀ k, gP M (r + 1) k = gP M0 (r + 1) k := fun k => b5 _ _ (by omega)
  have p7 : ∀ k, gP M (r + 7) k = gP M0 (r + 7) k := fun k => b5 _ _ (by omega)
  unfold ShT at h ⊢
  simp only [b1, p0, p1, p7]
  exact h
theorem Bk.start : Bk M M t s [] [] := ⟨⟨rfl, rfl, rfl, rfl⟩, fun _ _ _ => rfl, fun _ _ _ => rfl, fun _ z => absurd z List.not_mem_nil, fun _ z => absurd z List.not_mem_nil⟩
theorem w_peHold (b : Bk M0 M t s L F) (hd : s + 22 ≤ t ∨ t + 22 ≤ s) (hs : ShT (gS M0) (gP M0) s) (ht : ShT (gS M0) (gP M0) t) :
    mw (d + 2) 158 [.ref (t + 1), .ref (s + 1)] M (fun o M' => o = .inl none ∧ Bk M0 M' t s (6 :: 5 :: L) F) := by
  have s1 := b.sh hs (by omega)
  have t1 := b.sh ht (by omega)
  simp (disch := omega) only [m_158, q_aload1, q_aload1N, q_get_r, pTag_1, pRf_s, q_aload0, q_aload0N, q_invs2_21, q_vret, e_158_0, k_some, k_none, pRm_i, pRm_r, pRm_0, pF_1, pF_2, inv_s, s1.k0, s1.k1, s1.k7, s1.p0, s1.p1, s1.p2, s1.p3, s1.p4, s1.p5, s1.p6, s1.p7, s1.p8, s1.q0, s1.q1, s1.q2, s1.q3, s1.q4, s1.r0, s1.r1, s1.r2, s1.r3, s1.r4, s1.r5, s1.r6, t1.k0, t1.k1, t1.k7, t1.p0, t1.p1, t1.p2, t1.p3, t1.p4, t1.p5, t1.p6, t1.p7, t1.p8, t1.q0, t1.q1, t1.q2, t1.q3, t1.q4, t1.r0, t1.r1, t1.r2, t1.r3, t1.r4, t1.r5, t1.r6, eq_self, Nat.reduceLT, Bool.false_eq_true, Nat.add_zero, Nat.zero_add, Nat.reduceAdd, Nat.reduceMul, Nat.reduceSub, Nat.zero_le, Nat.reduceLeDiff, Nat.reduceEqDiff, Nat.le_refl, not_false_eq_true, not_true_eq_false, false_implies, true_implies, forall_const, true_and, and_true, if_true, if_false, implies_true, and_self, ne_eq, false_and, and_false, or_false, false_or, true_or, or_true]
  refine mw_mono (w_copy s1.k5 t1.k5 (by omega) (by omega)) ?_
  rintro _ M1 ⟨rfl, A1, c1⟩
  have b1 := b.copy (i := 5) hd (by omega) hs.k5 A1 c1
  have s2 := b1.sh hs (by omega)
  have t2 := b1.sh ht (by omega)
  simp (disch := omega) only [q_aload1, q_aload1N, q_get_r, pTag_1, pRf_s, q_aload0, q_aload0N, q_invs2_21, q_vret, e_158_0, k_some, k_none, pRm_i, pRm_r, pRm_0, pF_1, pF_2, inv_s, s2.k0, s2.k1, s2.k7, s2.p0, s2.p1, s2.p2, s2.p3, s2.p4, s2.p5, s2.p6, s2.p7, s2.p8, s2.q0, s2.q1, s2.q2, s2.q3, s2.q4, s2.r0, s2.r1, s2.r2, s2.r3, s2.r4, s2.r5, s2.r6, t2.k0, t2.k1, t2.k7, t2.p0, t2.p1, t2.p2, t2.p3, t2.p4, t2.p5, t2.p6, t2.p7, t2.p8, t2.q0, t2.q1, t2.q2, t2.q3, t2.q4, t2.r0, t2.r1, t2.r2, t2.r3, t2.r4, t2.r5, t2.r6, eq_self, Nat.reduceLT, Bool.false_eq_true, Nat.add_zero, Nat.zero_add, Nat.reduceAdd, Nat.reduceMul, Nat.reduceSub, Nat.zero_le, Nat.reduceLeDiff, Nat.reduceEqDiff, Nat.le_refl, not_false_eq_true, not_true_eq_false, false_implies, true_implies, forall_const, true_and, and_true, if_true, if_false, implies_true, and_self, ne_eq, false_and, and_false, or_false, false_or, true_or, or_true]
  refine mw_mono (w_copy s2.k6 t2.k6 (by omega) (by omega)) ?_
  rintro _ M2 ⟨rfl, A2, c2⟩
  have b2 := b1.copy (i := 6) hd (by omega) hs.k6 A2 c2
  simp (disch := omega) only [q_aload1, q_aload1N, q_get_r, pTag_1, pRf_s, q_aload0, q_aload0N, q_invs2_21, q_vret, e_158_0, k_some, k_none, pRm_i, pRm_r, pRm_0, pF_1, pF_2, inv_s, eq_self, Nat.reduceLT, Bool.false_eq_true, Nat.add_zero, Nat.zero_add, Nat.reduceAdd, Nat.reduceMul, Nat.reduceSub, Nat.zero_le, Nat.reduceLeDiff, Nat.reduceEqDiff, Nat.le_refl, not_false_eq_true, not_true_eq_false, false_implies, true_implies, forall_const, true_and, and_true, if_true, if_false, implies_true, and_self, ne_eq, false_and, and_false, or_false, false_or, true_or, or_true]
  exact b2
theorem w_faHold (b : Bk M0 M t s L F) (hd : s + 22 ≤ t ∨ t + 22 ≤ s) (hs : ShT (gS M0) (gP M0) s) (ht : ShT (gS M0) (gP M0) t) :
    mw (d + 2) 143 [.ref (t + 7), .ref (s + 7)] M (fun o M' => o = .inl none ∧ Bk M0 M' t s (9 :: L) F) := by
  have s1 := b.sh hs (by omega)
  have t1 := b.sh ht (by omega)
  simp (disch := omega) only [m_143, q_aload1, q_aload1N, q_get_r, pTag_1, pRf_s, q_aload0, q_aload0N, q_invs2_21, q_vret, e_143_0, k_some, k_none, pRm_i, pRm_r, pRm_0, pF_1, pF_2, inv_s, s1.k0, s1.k1, s1.k7, s1.p0, s1.p1, s1.p2, s1.p3, s1.p4, s1.p5, s1.p6, s1.p7, s1.p8, s1.q0, s1.q1, s1.q2, s1.q3, s1.q4, s1.r0, s1.r1, s1.r2, s1.r3, s1.r4, s1.r5, s1.r6, t1.k0, t1.k1, t1.k7, t1.p0, t1.p1, t1.p2, t1.p3, t1.p4, t1.p5, t1.p6, t1.p7, t1.p8, t1.q0, t1.q1, t1.q2, t1.q3, t1.q4, t1.r0, t1.r1, t1.r2, t1.r3, t1.r4, t1.r5, t1.r6, eq_self, Nat.reduceLT, Bool.false_eq_true, Nat.add_zero, Nat.zero_add, Nat.reduceAdd, Nat.reduceMul, Nat.reduceSub, Nat.zero_le, Nat.reduceLeDiff, Nat.reduceEqDiff, Nat.le_refl, not_false_eq_true, not_true_eq_false, false_implies, true_implies, forall_const, true_and, and_true, if_true, if_false, implies_true, and_self, ne_eq, false_and, and_false, or_false, false_or, true_or, or_true]
  refine mw_mono (w_copy s1.k9 t1.k9 (by omega) (by omega)) ?_
  rintro _ M1 ⟨rfl, A1, c1⟩
  have b1 := b.copy (i := 9) hd (by omega) hs.k9 A1 c1
  simp (disch := omega) only [q_aload1, q_aload1N, q_get_r, pTag_1, pRf_s, q_aload0, q_aload0N, q_invs2_21, q_vret, e_143_0, k_some, k_none, pRm_i, pRm_r, pRm_0, pF_1, pF_2, inv_s, eq_self, Nat.reduceLT, Bool.false_eq_true, Nat.add_zero, Nat.zero_add, Nat.reduceAdd, Nat.reduceMul, Nat.reduceSub, Nat.zero_le, Nat.reduceLeDiff, Nat.reduceEqDiff, Nat.le_refl, not_false_eq_true, not_true_eq_false, false_implies, true_implies, forall_const, true_and, and_true, if_true, if_false, implies_true, and_self, ne_eq, false_and, and_false, or_false, false_or, true_or, or_true]
  exact b1
theorem w_holdAs (hd : s + 22 ≤ t ∨ t + 22 ≤ s) (hs : ShT (gS M) (gP M) s) (ht : ShT (gS M) (gP M) t) :
    mw (d + 3) 217 [.ref t, .ref s] M (fun o M' => o = .inl none ∧ Bk M M' t s [9, 6, 5] [] ∧ gP M' = gP M ∧ ∀ i k, i < 22 → i ≠ 5 → i ≠ 6 → i ≠ 9 → gI M' (t + i) k = gI M (t + i) k) := by
  have b0 : Bk M M t s [] [] := Bk.start
  simp (disch := omega) only [m_217, q_aload0, q_aload0N, q_get_r, pTag_1, pRf_s, q_aload1, q_aload1N, q_invv1, inv_1, q_vret, e_217_0, k_some, k_none, pRm_i, pRm_r, pRm_0, pF_1, pF_2, inv_s, m_158, q_aload1, q_aload1N, q_get_r, pTag_1, pRf_s, q_aload0, q_aload0N, q_invs2_21, q_vret, e_158_0, k_some, k_none, pRm_i, pRm_r, pRm_0, pF_1, pF_2, inv_s, hs.k0, hs.k1, hs.k7, hs.p0, hs.p1, hs.p2, hs.p3, hs.p4, hs.p5, hs.p6, hs.p7, hs.p8, hs.q0, hs.q1, hs.q2, hs.q3, hs.q4, hs.r0, hs.r1, hs.r2, hs.r3, hs.r4, hs.r5, hs.r6, ht.k0, ht.k1, ht.k7, ht.p0, ht.p1, ht.p2, ht.p3, ht.p4, ht.p5, ht.p6, ht.p7, ht.p8, ht.q0, ht.q1, ht.q2, ht.q3, ht.q4, ht.r0, ht.r1, ht.r2, ht.r3, ht.r4, ht.r5, ht.r6, eq_self, Nat.reduceLT, Bool.false_eq_true, Nat.add_zero, Nat.zero_add, Nat.reduceAdd, Nat.reduceMul, Nat.reduceSub, Nat.zero_le, Nat.reduceLeDiff, Nat.reduceEqDiff, Nat.le_refl, not_false_eq_true, not_true_eq_false, false_implies, true_implies, forall_const, true_and, and_true, if_true, if_false, implies_true, and_self, ne_eq, false_and, and_false, or_false, false_or, true_or, or_true]
  refine mw_mono (w_copy hs.k5 ht.k5 (by omega) (by omega)) ?_
  rintro _ M1 ⟨rfl, A1, c1⟩
  have b1 := b0.copy (i := 5) hd (by omega) hs.k5 A1 c1
  have s2 := b1.sh hs (by omega)
  have t2 := b1.sh ht (by omega)
  simp (disch := omega) only [q_aload0, q_aload0N, q_get_r, pTag_1, pRf_s, q_aload1, q_aload1N, q_invv1, inv_1, q_vret, e_217_0, k_some, k_none, pRm_i, pRm_r, pRm_0, pF_1, pF_2, inv_s, q_aload1, q_aload1N, q_get_r, pTag_1, pRf_s, q_aload0, q_aload0N, q_invs2_21, q_vret, e_158_0, k_some, k_none, pRm_i, pRm_r, pRm_0, pF_1, pF_2, inv_s, s2.k0, s2.k1, s2.k7, s2.p0, s2.p1, s2.p2, s2.p3, s2.p4, s2.p5, s2.p6, s2.p7, s2.p8, s2.q0, s2.q1, s2.q2, s2.q3, s2.q4, s2.r0, s2.r1, s2.r2, s2.r3, s2.r4, s2.r5, s2.r6, t2.k0, t2.k1, t2.k7, t2.p0, t2.p1, t2.p2, t2.p3, t2.p4, t2.p5, t2.p6, t2.p7, t2.p8, t2.q0, t2.q1, t2.q2, t2.q3, t2.q4, t2.r0, t2.r1, t2.r2, t2.r3, t2.r4, t2.r5, t2.r6, eq_self, Nat.reduceLT, Bool.false_eq_true, Nat.add_zero, Nat.zero_add, Nat.reduceAdd, Nat.reduceMul, Nat.reduceSub, Nat.zero_le, Nat.reduceLeDiff, Nat.reduceEqDiff, Nat.le_refl, not_false_eq_true, not_true_eq_false, false_implies, true_implies, forall_const, true_and, and_true, if_true, if_false, implies_true, and_self, ne_eq, false_and, and_false, or_false, false_or, true_or, or_true]
  refine mw_mono (w_copy s2.k6 t2.k6 (by omega) (by omega)) ?_
  rintro _ M2 ⟨rfl, A2, c2⟩
  have b2 := b1.copy (i := 6) hd (by omega) hs.k6 A2 c2
  have s3 := b2.sh hs (by omega)
  have t3 := b2.sh ht (by omega)
  simp (disch := omega) only [q_aload0, q_aload0N, q_get_r, pTag_1, pRf_s, q_aload1, q_aload1N, q_invv1, inv_1, q_vret, e_217_0, k_some, k_none, pRm_i, pRm_r, pRm_0, pF_1, pF_2, inv_s, q_aload1, q_aload1N, q_get_r, pTag_1, pRf_s, q_aload0, q_aload0N, q_invs2_21, q_vret, e_158_0, k_some, k_none, pRm_i, pRm_r, pRm_0, pF_1, pF_2, inv_s, m_143, q_aload1, q_aload1N, q_get_r, pTag_1, pRf_s, q_aload0, q_aload0N, q_invs2_21, q_vret, e_143_0, k_some, k_none, pRm_i, pRm_r, pRm_0, pF_1, pF_2, inv_s, s3.k0, s3.k1, s3.k7, s3.p0, s3.p1, s3.p2, s3.p3, s3.p4, s3.p5, s3.p6, s3.p7, s3.p8, s3.q0, s3.q1, s3.q2, s3.q3, s3.q4, s3.r0, s3.r1, s3.r2, s3.r3, s3.r4, s3.r5, s3.r6, t3.k0, t3.k1, t3.k7, t3.p0, t3.p1, t3.p2, t3.p3, t3.p4, t3.p5, t3.p6, t3.p7, t3.p8, t3.q0, t3.q1, t3.q2, t3.q3, t3.q4, t3.r0, t3.r1, t3.r2, t3.r3, t3.r4, t3.r5, t3.r6, eq_self, Nat.reduceLT, Bool.false_eq_true, Nat.add_zero, Nat.zero_add, Nat.reduceAdd, Nat.reduceMul, Nat.reduceSub, Nat.zero_le, Nat.reduceLeDiff, Nat.reduceEqDiff, Nat.le_refl, not_false_eq_true, not_true_eq_false, false_implies, true_implies, forall_const, true_and, and_true, if_true, if_false, implies_true, and_self, ne_eq, false_and, and_false, or_false, false_or, true_or, or_true]
  refine mw_mono (w_copy s3.k9 t3.k9 (by omega) (by omega)) ?_
  rintro _ M3 ⟨rfl, A3, c3⟩
  have b3 := b2.copy (i := 9) hd (by omega) hs.k9 A3 c3
  simp (disch := omega) only [q_aload0, q_aload0N, q_get_r, pTag_1, pRf_s, q_aload1, q_aload1N, q_invv1, inv_1, q_vret, e_217_0, k_some, k_none, pRm_i, pRm_r, pRm_0, pF_1, pF_2, inv_s, q_aload1, q_aload1N, q_get_r, pTag_1, pRf_s, q_aload0, q_aload0N, q_invs2_21, q_vret, e_158_0, k_some, k_none, pRm_i, pRm_r, pRm_0, pF_1, pF_2, inv_s, q_aload1, q_aload1N, q_get_r, pTag_1, pRf_s, q_aload0, q_aload0N, q_invs2_21, q_vret, e_143_0, k_some, k_none, pRm_i, pRm_r, pRm_0, pF_1, pF_2, inv_s, eq_self, Nat.reduceLT, Bool.false_eq_true, Nat.add_zero, Nat.zero_add, Nat.reduceAdd, Nat.reduceMul, Nat.reduceSub, Nat.zero_le, Nat.reduceLeDiff, Nat.reduceEqDiff, Nat.le_refl, not_false_eq_true, not_true_eq_false, false_implies, true_implies, forall_const, true_and, and_true, if_true, if_false, implies_true, and_self, ne_eq, false_and, and_false, or_false, false_or, true_or, or_true]
  refine ⟨b3, (A3.P.trans A2.P).trans A1.P, fun i k h1 h2 h3 h4 => ?_⟩
  rw [A3.I (by omega), A2.I (by omega), A1.I (by omega)]
end BK
