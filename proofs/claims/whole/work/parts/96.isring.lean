/-! ring: which letters make one; the class's side of it -/
def qB (b : Nat → Nat) (k : Nat) : Nat := (nN (b k) - nN 97).toInt.toNat
def seB (b : Nat → Nat) : Nat → Nat
  | 0 => 0
  | k + 1 => seB b k ||| (1 <<< qB b k)
def okR (a : Nat → Int32) (b : Nat → Nat) (k : Nat) : Prop := Ix (nP a) (nN (b k) - nN 97) ∧ ∀ i, i < k → b i ≠ b k
def RgO (a : Nat → Int32) (n : Nat) (b : Nat → Nat) : Prop := 2 ≤ n ∧ n ≤ 6 ∧ ∀ k, k < n → okR a b k
noncomputable def okB (a : Nat → Int32) (b : Nat → Nat) (k : Nat) : Bool := @decide (okR a b k) (Classical.propDecidable _)
def zR (b : Nat → Nat) (k : Nat) : Option Value := match k with | 0 => none | k + 1 => some (.int (nN (b k) - nN 97))
section RG
variable {d t u n p q f g m c e K k dd : Nat} {n' : Nat} {b b' : Nat → Nat} {a a' ak : Nat → Int32} {img fc : Bool} {fl : Int32} {M M0 M1 M' : pMem} {Q : pOut → pMem → Prop} {x y z v w : Int32}
theorem okB_iff : (okB a b k = true) = okR a b k := by
  unfold okB
  exact propext (@decide_eq_true_iff _ (Classical.propDecidable _))
theorem fstN_pre {P : Nat → Bool} : ∀ j k, ∀ i, k ≤ i → i < fstN P j k → P i = true := by
  intro j
  induction j with
  | zero => intro k i h1 h2; unfold fstN at h2; omega
  | succ j ih =>
    intro k i h1 h2
    unfold fstN at h2
    by_cases c : P k = true
    · rw [if_pos c] at h2
      by_cases e : i = k
      · rw [e]; exact c
      · exact ih (k + 1) i (by omega) h2
    · rw [if_neg c] at h2; omega
/-- a search's loop, with what came before -/
theorem fst_rule2 {P : Nat → Bool} {y bl n : Nat} {C : Nat → pCfg} (hs : ∀ k, k < n → (∀ i, i < k → P i = true) → P k = true → bw d y bl (C k) Q = bw d y bl (C (k + 1)) Q) : ∀ j k, k + j = n → (∀ i, i < k → P i = true) → bw d y bl (C k) Q = bw d y bl (C (fstN P j k)) Q := by
  intro j
  induction j with
  | zero => intro k h _; rfl
  | succ j ih =>
    intro k h hp
    unfold fstN
    by_cases c : P k = true
    · rw [if_pos c, hs k (by omega) hp c]
      refine ih (k + 1) (by omega) fun i hi => ?_
      by_cases e : i = k
      · rw [e]; exact c
      · exact hp i (by omega)
    · rw [if_neg c]
theorem okR_q (hp' : nP a ≤ 12) (h : Ix (nP a) (nN (b k) - nN 97)) : qB b k < nP a ∧ nN (b k) - nN 97 = nN (qB b k) := by
  obtain ⟨q, hq, e⟩ := h
  have : qB b k = q := by unfold qB; rw [e, nN_toInt (by omega)]; omega
  rw [this]
  exact ⟨hq, e⟩
theorem qB_eq {i : Nat} (hb : ∀ k, b k < 256) (h1 : nN (b k) - nN 97 = nN (qB b k)) (h2 : nN (b i) - nN 97 = nN (qB b i)) (h : qB b i = qB b k) : b i = b k := by
  rw [h, ← h1] at h2
  have : nN (b i) = nN (b k) := by
    have h3 : nN (b i) - nN 97 + nN 97 = nN (b k) - nN 97 + nN 97 := by rw [h2]
    rwa [Int32.sub_add_cancel, Int32.sub_add_cancel] at h3
  have g1 := hb i
  have g2 := hb k
  exact nN_inj (by omega) (by omega) this
theorem seB_lt (hp' : nP a ≤ 12) : ∀ k, (∀ i, i < k → okR a b i) → seB b k < 4096 := by
  intro k
  induction k with
  | zero => intro _; exact (by decide : (0 : Nat) < 4096)
  | succ k ih =>
    intro h
    have h1 := ih fun i hi => h i (by omega)
    have h2 := (okR_q hp' (h k (by omega)).1).1
    unfold seB
    have h3 : 1 <<< qB b k < 2 ^ 12 := by
      rw [Nat.one_shiftLeft]
      exact Nat.pow_lt_pow_right (by omega) (by omega)
    exact Nat.or_lt_two_pow (n := 12) h1 h3
theorem seB_bit {q : Nat} : ∀ k, ((seB b k).testBit q = true) = (∃ i, i < k ∧ qB b i = q) := by
  intro k
  induction k with
  | zero => exact propext ⟨fun h => by simp [seB] at h, fun ⟨i, h, _⟩ => absurd h (by omega)⟩
  | succ k ih =>
    unfold seB
    rw [Nat.testBit_or, Bool.or_eq_true, ih, Nat.one_shiftLeft, Nat.testBit_two_pow]
    refine propext ⟨?_, ?_⟩
    · rintro (⟨i, h1, h2⟩ | h)
      · exact ⟨i, by omega, h2⟩
      · exact ⟨k, by omega, by simpa using h⟩
    · rintro ⟨i, h1, h2⟩
      by_cases e : i = k
      · subst e; exact Or.inr (by simpa using h2)
      · exact Or.inl ⟨i, by omega, h2⟩
theorem w_isRing (c : CI M a ak img n' b' fl) (hw : Wf a) (hn : n ≤ 400) (tb : ∀ k, k < n → gI M 2 k = nN (b k)) (hb : ∀ k, b k < 256) : mw (d + 3) 43 [.ref 0, .int (nN n)] M (fun o M' => M' = M ∧ (RgO a n b ∧ o = .inl (some (.int (nN 1))) ∨ ¬ RgO a n b ∧ o = .inl (some (.int (nN 0))))) := by
  have k0 := c.sh.k0
  have q0 := c.sh.p0
  have p1 := c.sh.p1
  have k1 := c.sh.k1
  have k2 := c.sh.k2
  have q1 := c.sh.q1
  have hr := c.rep
  have hp' := hw.p'
  by_cases c1 : n < 2
  · have hN : ¬ RgO a n b := fun z => by have := z.1; omega
    simp (disch := omega) only [m_43, q_iload1, q_iconst, q_ic_lt, q_bipush, q_ic_le, q_nop, q_zret, q_istore2, q_istore3, q_iload3, q_ic_ge, q_aload0, q_aload0N, q_get_r, pTag_1, pRf_s, q_invs2_20, q_isub, q_istore4, q_iload4, q_invv1, inv_1, q_if_eq, q_iload2, q_ishl, q_ior, q_iinc3, q_goto, e_43_0, e_43_1, e_43_2, e_43_4, e_43_5, e_43_6, L_0, L_1, L_2, L_6, L_97, k_some, k_none, pRm_i, pRm_r, pRm_0, pF_1, pF_2, inv_s, c1, nN_le, nN_lt, nN_eq, nN_add, nN_mul, nN_lt0, nN_ge0, nN_gt0, nN_le0, nN_eq0, nN_eq1, nN_neN, pIn_n, pIx_n, eq_self, Nat.reduceLT, Bool.false_eq_true, Nat.add_zero, Nat.zero_add, Nat.reduceAdd, Nat.reduceMul, Nat.reduceSub, Nat.zero_le, Nat.reduceLeDiff, Nat.reduceEqDiff, Nat.le_refl, not_false_eq_true, not_true_eq_false, false_implies, true_implies, forall_const, true_and, and_true, if_true, if_false, implies_true, and_self, ne_eq, false_and, and_false, or_false, false_or, true_or, or_true]
    exact Or.inr hN
  by_cases c2 : 6 < n
  · have hN : ¬ RgO a n b := fun z => by have := z.2.1; omega
    have c2' : ¬ n ≤ 6 := by omega
    simp (disch := omega) only [m_43, q_iload1, q_iconst, q_ic_lt, q_bipush, q_ic_le, q_nop, q_zret, q_istore2, q_istore3, q_iload3, q_ic_ge, q_aload0, q_aload0N, q_get_r, pTag_1, pRf_s, q_invs2_20, q_isub, q_istore4, q_iload4, q_invv1, inv_1, q_if_eq, q_iload2, q_ishl, q_ior, q_iinc3, q_goto, e_43_0, e_43_1, e_43_2, e_43_4, e_43_5, e_43_6, L_0, L_1, L_2, L_6, L_97, k_some, k_none, pRm_i, pRm_r, pRm_0, pF_1, pF_2, inv_s, c1, c2', nN_le, nN_lt, nN_eq, nN_add, nN_mul, nN_lt0, nN_ge0, nN_gt0, nN_le0, nN_eq0, nN_eq1, nN_neN, pIn_n, pIx_n, eq_self, Nat.reduceLT, Bool.false_eq_true, Nat.add_zero, Nat.zero_add, Nat.reduceAdd, Nat.reduceMul, Nat.reduceSub, Nat.zero_le, Nat.reduceLeDiff, Nat.reduceEqDiff, Nat.le_refl, not_false_eq_true, not_true_eq_false, false_implies, true_implies, forall_const, true_and, and_true, if_true, if_false, implies_true, and_self, ne_eq, false_and, and_false, or_false, false_or, true_or, or_true]
    exact Or.inr hN
  have c2' : n ≤ 6 := by omega
  simp (disch := omega) only [m_43, q_iload1, q_iconst, q_ic_lt, q_bipush, q_ic_le, q_nop, q_zret, q_istore2, q_istore3, q_iload3, q_ic_ge, q_aload0, q_aload0N, q_get_r, pTag_1, pRf_s, q_invs2_20, q_isub, q_istore4, q_iload4, q_invv1, inv_1, q_if_eq, q_iload2, q_ishl, q_ior, q_iinc3, q_goto, e_43_0, e_43_1, e_43_2, e_43_4, e_43_5, e_43_6, L_0, L_1, L_2, L_6, L_97, k_some, k_none, pRm_i, pRm_r, pRm_0, pF_1, pF_2, inv_s, c1, c2', nN_le, nN_lt, nN_eq, nN_add, nN_mul, nN_lt0, nN_ge0, nN_gt0, nN_le0, nN_eq0, nN_eq1, nN_neN, pIn_n, pIx_n, eq_self, Nat.reduceLT, Bool.false_eq_true, Nat.add_zero, Nat.zero_add, Nat.reduceAdd, Nat.reduceMul, Nat.reduceSub, Nat.zero_le, Nat.reduceLeDiff, Nat.reduceEqDiff, Nat.le_refl, not_false_eq_true, not_true_eq_false, false_implies, true_implies, forall_const, true_and, and_true, if_true, if_false, implies_true, and_self, ne_eq, false_and, and_false, or_false, false_or, true_or, or_true]
  have atOk : ∀ k, k < n → (∀ i, i < k → okR a b i) → okR a b k → (((nN (seB b k) >>> (nN (qB b k) &&& 31)) &&& nN 1 = nN 1) = False) := by
    intro k hk hp h
    have l := seB_lt hp' k hp
    obtain ⟨h1, h2⟩ := okR_q hp' h.1
    rw [bit_nN (by omega) (by omega), seB_bit]
    refine eq_false ?_
    rintro ⟨i, hi, e⟩
    exact h.2 i hi (qB_eq hb h2 (okR_q hp' (hp i hi).1).2 e)
  refine Eq.mpr (fst_rule2 (n := n) (P := okB a b) (C := fun k => ([some (.ref 0), some (.int (nN n)), some (.int (nN (seB b k))), some (.int (nN k)), zR b k], [], M)) ?_ n 0 (by omega) (fun i hi => absurd hi (by omega))) ?_
  · intro k hk hp h
    simp only [okB_iff] at hp h
    obtain ⟨h1, h2⟩ := okR_q hp' h.1
    have h3 : ¬ n ≤ k := by omega
    have h5 := atOk k hk hp h
    have h6 := seB_lt hp' k hp
    have h7 : (0 ≤ nN (qB b k) ∧ nN (qB b k) < nN (nP a)) = True := eq_true ((Ix_lt (by omega)).mpr ⟨_, h1, rfl⟩)
    have hk4 : k < 400 := by omega
    have e8 : nN (seB b k) ||| nN 1 <<< (nN (qB b k) &&& 31) = nN (seB b (k + 1)) := by
      rw [nN_shl (by omega), nN_or]; rfl
    have e9 : zR b (k + 1) = some (.int (nN (qB b k))) := by rw [← h2]; rfl
    rw [e_43_3, e9, ← e8]
    simp (disch := omega) only [q_iload1, q_iconst, q_ic_lt, q_bipush, q_ic_le, q_nop, q_zret, q_istore2, q_istore3, q_iload3, q_ic_ge, q_aload0, q_aload0N, q_get_r, pTag_1, pRf_s, q_invs2_20, q_isub, q_istore4, q_iload4, q_invv1, inv_1, q_if_eq, q_iload2, q_ishl, q_ior, q_iinc3, q_goto, e_43_0, e_43_1, e_43_2, e_43_4, e_43_5, e_43_6, L_0, L_1, L_2, L_6, L_97, k_some, k_none, pRm_i, pRm_r, pRm_0, pF_1, pF_2, inv_s, h3, k0, q0, p1, q1, k1, w_atN k2, tb, h2, w_isThere hr hw, w_hasBit, h5, h7, bI_p, bI_n, bI_eq0, c.sh.t3.k1, hr.sh.k0, hr.nt, hr.ne, hr.nr, hr.nx, hr.day, hr.law, hr.sh.p0, hr.sh.p1, hr.sh.p2, hr.sh.p3, hr.sh.p4, hr.sh.p5, hr.sh.p6, hr.sh.p7, hr.sh.p8, nN_le, nN_lt, nN_eq, nN_add, nN_mul, nN_lt0, nN_ge0, nN_gt0, nN_le0, nN_eq0, nN_eq1, nN_neN, pIn_n, pIx_n, eq_self, Nat.reduceLT, Bool.false_eq_true, Nat.add_zero, Nat.zero_add, Nat.reduceAdd, Nat.reduceMul, Nat.reduceSub, Nat.zero_le, Nat.reduceLeDiff, Nat.reduceEqDiff, Nat.le_refl, not_false_eq_true, not_true_eq_false, false_implies, true_implies, forall_const, true_and, and_true, if_true, if_false, implies_true, and_self, ne_eq, false_and, and_false, or_false, false_or, true_or, or_true]
  · obtain ⟨z1, z2⟩ := fstN_le (P := okB a b) n 0
    have hpre := fstN_pre (P := okB a b) n 0
    have hat := fstN_at (P := okB a b) n 0
    simp only [okB_iff] at hpre hat
    generalize fstN (okB a b) n 0 = kk at *
    by_cases e : kk = n
    · subst e
      have hR : RgO a kk b := ⟨by omega, by omega, fun k hk => hpre k (by omega) hk⟩
      rw [e_43_3]
      simp (disch := omega) only [q_iload1, q_iconst, q_ic_lt, q_bipush, q_ic_le, q_nop, q_zret, q_istore2, q_istore3, q_iload3, q_ic_ge, q_aload0, q_aload0N, q_get_r, pTag_1, pRf_s, q_invs2_20, q_isub, q_istore4, q_iload4, q_invv1, inv_1, q_if_eq, q_iload2, q_ishl, q_ior, q_iinc3, q_goto, e_43_0, e_43_1, e_43_2, e_43_4, e_43_5, e_43_6, L_0, L_1, L_2, L_6, L_97, k_some, k_none, pRm_i, pRm_r, pRm_0, pF_1, pF_2, inv_s, nN_le, nN_lt, nN_eq, nN_add, nN_mul, nN_lt0, nN_ge0, nN_gt0, nN_le0, nN_eq0, nN_eq1, nN_neN, pIn_n, pIx_n, eq_self, Nat.reduceLT, Bool.false_eq_true, Nat.add_zero, Nat.zero_add, Nat.reduceAdd, Nat.reduceMul, Nat.reduceSub, Nat.zero_le, Nat.reduceLeDiff, Nat.reduceEqDiff, Nat.le_refl, not_false_eq_true, not_true_eq_false, false_implies, true_implies, forall_const, true_and, and_true, if_true, if_false, implies_true, and_self, ne_eq, false_and, and_false, or_false, false_or, true_or, or_true]
      exact Or.inl hR
    · have hno := hat (by omega)
      have hR : ¬ RgO a n b := fun z => hno (z.2.2 kk (by omega))
      have h3 : ¬ n ≤ kk := by omega
      have h6 := seB_lt hp' kk (fun i hi => hpre i (by omega) hi)
      rw [e_43_3]
      by_cases hx : Ix (nP a) (nN (b kk) - nN 97)
      · obtain ⟨h1, h2⟩ := okR_q hp' hx
        have h7 : (0 ≤ nN (qB b kk) ∧ nN (qB b kk) < nN (nP a)) = True := eq_true ((Ix_lt (by omega)).mpr ⟨_, h1, rfl⟩)
        have h5 : ((nN (seB b kk) >>> (nN (qB b kk) &&& 31)) &&& nN 1 = nN 1) = True := by
          rw [bit_nN (by omega) (by omega), seB_bit]
          refine eq_true ?_
          have : ∃ i, i < kk ∧ b i = b kk := Classical.byContradiction fun z => hno ⟨hx, fun i hi e => z ⟨i, hi, e⟩⟩
          obtain ⟨i, hi, e⟩ := this
          exact ⟨i, hi, by unfold qB; rw [e]⟩
        simp (disch := omega) only [q_iload1, q_iconst, q_ic_lt, q_bipush, q_ic_le, q_nop, q_zret, q_istore2, q_istore3, q_iload3, q_ic_ge, q_aload0, q_aload0N, q_get_r, pTag_1, pRf_s, q_invs2_20, q_isub, q_istore4, q_iload4, q_invv1, inv_1, q_if_eq, q_iload2, q_ishl, q_ior, q_iinc3, q_goto, e_43_0, e_43_1, e_43_2, e_43_4, e_43_5, e_43_6, L_0, L_1, L_2, L_6, L_97, k_some, k_none, pRm_i, pRm_r, pRm_0, pF_1, pF_2, inv_s, h3, k0, q0, p1, q1, k1, w_atN k2, tb, h2, w_isThere hr hw, w_hasBit, h5, h7, bI_p, bI_n, bI_eq0, c.sh.t3.k1, hr.sh.k0, hr.nt, hr.ne, hr.nr, hr.nx, hr.day, hr.law, hr.sh.p0, hr.sh.p1, hr.sh.p2, hr.sh.p3, hr.sh.p4, hr.sh.p5, hr.sh.p6, hr.sh.p7, hr.sh.p8, nN_le, nN_lt, nN_eq, nN_add, nN_mul, nN_lt0, nN_ge0, nN_gt0, nN_le0, nN_eq0, nN_eq1, nN_neN, pIn_n, pIx_n, eq_self, Nat.reduceLT, Bool.false_eq_true, Nat.add_zero, Nat.zero_add, Nat.reduceAdd, Nat.reduceMul, Nat.reduceSub, Nat.zero_le, Nat.reduceLeDiff, Nat.reduceEqDiff, Nat.le_refl, not_false_eq_true, not_true_eq_false, false_implies, true_implies, forall_const, true_and, and_true, if_true, if_false, implies_true, and_self, ne_eq, false_and, and_false, or_false, false_or, true_or, or_true]
        exact Or.inr hR
      · have h7 : (0 ≤ (nN (b kk) - nN 97) ∧ (nN (b kk) - nN 97) < nN (nP a)) = False := eq_false (fun z => hx ((Ix_lt (by omega)).mp z))
        simp (disch := omega) only [q_iload1, q_iconst, q_ic_lt, q_bipush, q_ic_le, q_nop, q_zret, q_istore2, q_istore3, q_iload3, q_ic_ge, q_aload0, q_aload0N, q_get_r, pTag_1, pRf_s, q_invs2_20, q_isub, q_istore4, q_iload4, q_invv1, inv_1, q_if_eq, q_iload2, q_ishl, q_ior, q_iinc3, q_goto, e_43_0, e_43_1, e_43_2, e_43_4, e_43_5, e_43_6, L_0, L_1, L_2, L_6, L_97, k_some, k_none, pRm_i, pRm_r, pRm_0, pF_1, pF_2, inv_s, h3, k0, q0, p1, q1, k1, w_atN k2, tb, w_isThere hr hw, h7, bI_p, bI_n, bI_eq0, c.sh.t3.k1, hr.sh.k0, hr.nt, hr.ne, hr.nr, hr.nx, hr.day, hr.law, hr.sh.p0, hr.sh.p1, hr.sh.p2, hr.sh.p3, hr.sh.p4, hr.sh.p5, hr.sh.p6, hr.sh.p7, hr.sh.p8, nN_le, nN_lt, nN_eq, nN_add, nN_mul, nN_lt0, nN_ge0, nN_gt0, nN_le0, nN_eq0, nN_eq1, nN_neN, pIn_n, pIx_n, eq_self, Nat.reduceLT, Bool.false_eq_true, Nat.add_zero, Nat.zero_add, Nat.reduceAdd, Nat.reduceMul, Nat.reduceSub, Nat.zero_le, Nat.reduceLeDiff, Nat.reduceEqDiff, Nat.le_refl, not_false_eq_true, not_true_eq_false, false_implies, true_implies, forall_const, true_and, and_true, if_true, if_false, implies_true, and_self, ne_eq, false_and, and_false, or_false, false_or, true_or, or_true]
        exact Or.inr hR
end RG
