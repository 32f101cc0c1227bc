/-! A TEMPER'S PLAIN CONDITION, in the law's model -/
section CM
variable {d n u p q k m c sr i dp : Nat} {b : Nat → Nat} {fv : Nat → Int32} {W : List (List Nat)} {M M1 M' : pMem} {Q : pOut → pMem → Prop} {x y : Int32}
def pB (fv : Nat → Int32) (r : pZ) : Prop := match r with
  | .inl _ => True
  | .inr s => s.2.2 fv = nN 0 ∨ s.2.2 fv = nN 1
def Z01 (o : pOut) : Prop := ∃ v, o = .inl (some (.int v)) ∧ (v = nN 0 ∨ v = nN 1)
theorem zq0 : Z01 (.inl (some (.int (nN 0)))) := ⟨_, rfl, Or.inl rfl⟩
theorem zq1 : Z01 (.inl (some (.int (nN 1)))) := ⟨_, rfl, Or.inr rfl⟩
def MdQ (M' : pMem) (u n : Nat) (b : Nat → Nat) (dp : Nat) (fv : Nat → Int32) (r : pZ) (o : pOut) : Prop := MdZ M' u n b dp fv r o ∧ Z01 o
theorem pB_plain {T N : Nat → Nat} {F : Nat} (hb : Bl fv) : pB fv (pPlain T N F p) := by
  unfold pPlain
  split
  · rename_i h
    exact hb _ (by omega) (by omega)
  · unfold pComp
    cases pSum T N F p with
    | inl e => trivial
    | inr s =>
      show pB fv (if T s.1 = 2060 ∨ T s.1 = 2062 then pThen (pSum T N F (N s.1)) (fun s2 => .inr (s2.1, s.2.1 ++ s2.2.1 ++ [T s.1], fun fv => sJoin (T s.1) (s.2.2 fv) (s2.2.2 fv))) else .inl s.1)
      split
      · rename_i h
        cases pSum T N F (N s.1) with
        | inl e => trivial
        | inr s2 =>
          show sJoin (T s.1) (s.2.2 fv) (s2.2.2 fv) = _ ∨ sJoin (T s.1) (s.2.2 fv) (s2.2.2 fv) = _
          rcases h with h | h
          · rw [h]; exact bI_01
          · rw [h]; exact bI_01
      · trivial
theorem w_compM {l2 l3 : Option Value} (h : MdT M u n b dp fv q p) : bw (d + 8) 73 3 ([some (.ref u), none, l2, l3], [], M) (fun o M' => MdQ M' u n b dp fv (pComp (th tW n b) (nx9 n b) 400 p) o ∧ Ag (MdY u) M M') := by
  have hpn := h.sd.ple.2
  have hn := h.sd.n9
  have hW : tW.length < 100 := by decide
  rw [e_73_3]
  simp (disch := omega) only [q_aload0, q_aload0N, q_ldc_s, q_invv1, inv_1, q_if_eq, q_get_z, pTag_1, pRf_s, q_zret, q_invv0, q_istore1, q_get_i, q_iconst, q_ic_eq, q_bipush, q_istore2, q_iload2, q_if_ne, q_dup_i, q_dup_r, q_iadd, q_put_i, q_istore3, q_iload1, q_iload3, q_ic_ge, q_goto, q_ic_le, q_nop, e_73_3, L_0, L_1, L_60, L_62, k_some, k_none, pRm_i, pRm_r, pRm_0, pF_1, pF_2, inv_s, h.sd.sh.k0, nN_le, nN_lt, nN_eq, nN_add, nN_mul, nN_lt0, nN_ge0, nN_gt0, nN_le0, nN_eq0, nN_eq1, nN_neN, pIn_n, pIx_n, eq_self, Nat.reduceLT, Bool.false_eq_true, Nat.add_zero, Nat.zero_add, Nat.reduceAdd, Nat.reduceMul, Nat.reduceSub, Nat.zero_le, Nat.reduceLeDiff, Nat.reduceEqDiff, Nat.le_refl, not_false_eq_true, not_true_eq_false, false_implies, true_implies, forall_const, true_and, and_true, if_true, if_false, implies_true, and_self, ne_eq, false_and, and_false, or_false, false_or, true_or, or_true]
  refine mw_mono (w_sumM h) ?_
  rintro o M1 ⟨h1, A1⟩
  have s1 : ShM (gS M1) (gP M1) u := by rw [A1.S, A1.P]; exact h.sd.sh
  unfold pComp
  cases hc : pSum (th tW n b) (nx9 n b) 400 p with
  | inl e =>
    rw [hc] at h1
    obtain ⟨⟨v, rfl⟩, f5, e5, z5⟩ := h1
    have f6 := nN_ft e5
    simp (disch := omega) only [q_aload0, q_aload0N, q_ldc_s, q_invv1, inv_1, q_if_eq, q_get_z, pTag_1, pRf_s, q_zret, q_invv0, q_istore1, q_get_i, q_iconst, q_ic_eq, q_bipush, q_istore2, q_iload2, q_if_ne, q_dup_i, q_dup_r, q_iadd, q_put_i, q_istore3, q_iload1, q_iload3, q_ic_ge, q_goto, q_ic_le, q_nop, e_73_3, L_0, L_1, L_60, L_62, k_some, k_none, pRm_i, pRm_r, pRm_0, pF_1, pF_2, inv_s, s1.k0, f5, f6, nN_le, nN_lt, nN_eq, nN_add, nN_mul, nN_lt0, nN_ge0, nN_gt0, nN_le0, nN_eq0, nN_eq1, nN_neN, pIn_n, pIx_n, eq_self, Nat.reduceLT, Bool.false_eq_true, Nat.add_zero, Nat.zero_add, Nat.reduceAdd, Nat.reduceMul, Nat.reduceSub, Nat.zero_le, Nat.reduceLeDiff, Nat.reduceEqDiff, Nat.le_refl, not_false_eq_true, not_true_eq_false, false_implies, true_implies, forall_const, true_and, and_true, if_true, if_false, implies_true, and_self, ne_eq, false_and, and_false, or_false, false_or, true_or, or_true]
    exact ⟨⟨⟨⟨_, rfl⟩, f5, e5, z5⟩, zq0⟩, A1⟩
  | inr s =>
    rw [hc] at h1
    obtain ⟨rfl, q1, T1⟩ := h1
    have f1 := T1.sd.ft
    have hs1 := T1.sd.ple.2
    simp (disch := omega) only [q_aload0, q_aload0N, q_ldc_s, q_invv1, inv_1, q_if_eq, q_get_z, pTag_1, pRf_s, q_zret, q_invv0, q_istore1, q_get_i, q_iconst, q_ic_eq, q_bipush, q_istore2, q_iload2, q_if_ne, q_dup_i, q_dup_r, q_iadd, q_put_i, q_istore3, q_iload1, q_iload3, q_ic_ge, q_goto, q_ic_le, q_nop, e_73_3, L_0, L_1, L_60, L_62, k_some, k_none, pRm_i, pRm_r, pRm_0, pF_1, pF_2, inv_s, s1.k0, f1, nN_le, nN_lt, nN_eq, nN_add, nN_mul, nN_lt0, nN_ge0, nN_gt0, nN_le0, nN_eq0, nN_eq1, nN_neN, pIn_n, pIx_n, eq_self, Nat.reduceLT, Bool.false_eq_true, Nat.add_zero, Nat.zero_add, Nat.reduceAdd, Nat.reduceMul, Nat.reduceSub, Nat.zero_le, Nat.reduceLeDiff, Nat.reduceEqDiff, Nat.le_refl, not_false_eq_true, not_true_eq_false, false_implies, true_implies, forall_const, true_and, and_true, if_true, if_false, implies_true, and_self, ne_eq, false_and, and_false, or_false, false_or, true_or, or_true]
    rw [e_73_4]
    simp (disch := omega) only [q_aload0, q_aload0N, q_ldc_s, q_invv1, inv_1, q_if_eq, q_get_z, pTag_1, pRf_s, q_zret, q_invv0, q_istore1, q_get_i, q_iconst, q_ic_eq, q_bipush, q_istore2, q_iload2, q_if_ne, q_dup_i, q_dup_r, q_iadd, q_put_i, q_istore3, q_iload1, q_iload3, q_ic_ge, q_goto, q_ic_le, q_nop, e_73_4, L_0, L_1, L_60, L_62, k_some, k_none, pRm_i, pRm_r, pRm_0, pF_1, pF_2, inv_s, s1.k0, nN_le, nN_lt, nN_eq, nN_add, nN_mul, nN_lt0, nN_ge0, nN_gt0, nN_le0, nN_eq0, nN_eq1, nN_neN, pIn_n, pIx_n, eq_self, Nat.reduceLT, Bool.false_eq_true, Nat.add_zero, Nat.zero_add, Nat.reduceAdd, Nat.reduceMul, Nat.reduceSub, Nat.zero_le, Nat.reduceLeDiff, Nat.reduceEqDiff, Nat.le_refl, not_false_eq_true, not_true_eq_false, false_implies, true_implies, forall_const, true_and, and_true, if_true, if_false, implies_true, and_self, ne_eq, false_and, and_false, or_false, false_or, true_or, or_true]
    refine mw_mono (w_isSign (c := 60) T1.sd (by omega)) ?_
    rintro _ M2 ⟨rfl, h2, A2⟩
    have T2 := T1.st A2 X9_10 h2
    have A02 := A1.trans (A2.mono MdY_9)
    have t60 : th tW n b s.1 = 2060 ↔ (s.1 < n ∧ b s.1 = 60) := by rw [← th_sign (W := tW) (show kd 60 = 3 from rfl) (by omega) hW]
    have t62 : th tW n b s.1 = 2062 ↔ (s.1 < n ∧ b s.1 = 62) := by rw [← th_sign (W := tW) (show kd 62 = 3 from rfl) (by omega) hW]
    -- behind the sign
    have two : ∀ (M3 : pMem) (x2 : Int32) (w : Nat), w = 2060 ∧ x2 = nN 1 ∨ w = 2062 ∧ x2 = nN 0 → th tW n b s.1 = w → MdT M3 u n b dp fv s.1 s.1 → Ag (MdY u) M M3 → bw (d + 8) 73 5 ([some (.ref u), some (.int (s.2.2 fv)), some (.int x2), l3], [], M3) (fun o M' => MdQ M' u n b dp fv (pThen (pSum (th tW n b) (nx9 n b) 400 (nx9 n b s.1)) fun s2 => .inr (s2.1, s.2.1 ++ s2.2.1 ++ [th tW n b s.1], fun fv => sJoin (th tW n b s.1) (s.2.2 fv) (s2.2.2 fv))) o ∧ Ag (MdY u) M M') := by
      intro M3 x2 w hw ht T3 A3
      have hsn : s.1 < n ∧ kd (b s.1) = 3 := by
        rcases hw with ⟨z, -⟩ | ⟨z, -⟩
        · have := t60.mp (by omega); exact ⟨this.1, by rw [this.2]; rfl⟩
        · have := t62.mp (by omega); exact ⟨this.1, by rw [this.2]; rfl⟩
      have T4 := T3.sign rfl hsn.1 hsn.2
      have A4 : Ag (fun h k => h = u ∧ k = 9) M3 (sI M3 u 9 (nN (s.1 + 1))) := Ag.one ⟨rfl, rfl⟩
      rw [e_73_5]
      simp (disch := omega) only [q_aload0, q_aload0N, q_ldc_s, q_invv1, inv_1, q_if_eq, q_get_z, pTag_1, pRf_s, q_zret, q_invv0, q_istore1, q_get_i, q_iconst, q_ic_eq, q_bipush, q_istore2, q_iload2, q_if_ne, q_dup_i, q_dup_r, q_iadd, q_put_i, q_istore3, q_iload1, q_iload3, q_ic_ge, q_goto, q_ic_le, q_nop, e_73_5, L_0, L_1, L_60, L_62, k_some, k_none, pRm_i, pRm_r, pRm_0, pF_1, pF_2, inv_s, T3.sd.sh.k0, T3.sd.aq, T4.sd.sh.k0, nN_le, nN_lt, nN_eq, nN_add, nN_mul, nN_lt0, nN_ge0, nN_gt0, nN_le0, nN_eq0, nN_eq1, nN_neN, pIn_n, pIx_n, eq_self, Nat.reduceLT, Bool.false_eq_true, Nat.add_zero, Nat.zero_add, Nat.reduceAdd, Nat.reduceMul, Nat.reduceSub, Nat.zero_le, Nat.reduceLeDiff, Nat.reduceEqDiff, Nat.le_refl, not_false_eq_true, not_true_eq_false, false_implies, true_implies, forall_const, true_and, and_true, if_true, if_false, implies_true, and_self, ne_eq, false_and, and_false, or_false, false_or, true_or, or_true]
      refine mw_mono (w_sumM T4) ?_
      rintro o M5 ⟨h5, A5⟩
      have A05 := (A3.trans (A4.mono MdY_9)).trans A5
      cases hc : pSum (th tW n b) (nx9 n b) 400 (nx9 n b s.1) with
      | inl e =>
        rw [hc] at h5
        obtain ⟨⟨v, rfl⟩, f5, e5, z5⟩ := h5
        rcases hw with ⟨-, rfl⟩ | ⟨-, rfl⟩
        · by_cases c : s.2.2 fv < v
          · have c' := Int32.not_le.mpr c
            simp (disch := omega) only [q_aload0, q_aload0N, q_ldc_s, q_invv1, inv_1, q_if_eq, q_get_z, pTag_1, pRf_s, q_zret, q_invv0, q_istore1, q_get_i, q_iconst, q_ic_eq, q_bipush, q_istore2, q_iload2, q_if_ne, q_dup_i, q_dup_r, q_iadd, q_put_i, q_istore3, q_iload1, q_iload3, q_ic_ge, q_goto, q_ic_le, q_nop, e_73_6, e_73_7, e_73_8, e_73_9, L_0, L_1, L_60, L_62, k_some, k_none, pRm_i, pRm_r, pRm_0, pF_1, pF_2, inv_s, zb_1, c, c', nN_le, nN_lt, nN_eq, nN_add, nN_mul, nN_lt0, nN_ge0, nN_gt0, nN_le0, nN_eq0, nN_eq1, nN_neN, pIn_n, pIx_n, eq_self, Nat.reduceLT, Bool.false_eq_true, Nat.add_zero, Nat.zero_add, Nat.reduceAdd, Nat.reduceMul, Nat.reduceSub, Nat.zero_le, Nat.reduceLeDiff, Nat.reduceEqDiff, Nat.le_refl, not_false_eq_true, not_true_eq_false, false_implies, true_implies, forall_const, true_and, and_true, if_true, if_false, implies_true, and_self, ne_eq, false_and, and_false, or_false, false_or, true_or, or_true]
            exact ⟨⟨⟨⟨_, rfl⟩, f5, e5, z5⟩, zq1⟩, A05⟩
          · have c' := Int32.not_lt.mp c
            simp (disch := omega) only [q_aload0, q_aload0N, q_ldc_s, q_invv1, inv_1, q_if_eq, q_get_z, pTag_1, pRf_s, q_zret, q_invv0, q_istore1, q_get_i, q_iconst, q_ic_eq, q_bipush, q_istore2, q_iload2, q_if_ne, q_dup_i, q_dup_r, q_iadd, q_put_i, q_istore3, q_iload1, q_iload3, q_ic_ge, q_goto, q_ic_le, q_nop, e_73_6, e_73_7, e_73_8, e_73_9, L_0, L_1, L_60, L_62, k_some, k_none, pRm_i, pRm_r, pRm_0, pF_1, pF_2, inv_s, zb_1, c, c', nN_le, nN_lt, nN_eq, nN_add, nN_mul, nN_lt0, nN_ge0, nN_gt0, nN_le0, nN_eq0, nN_eq1, nN_neN, pIn_n, pIx_n, eq_self, Nat.reduceLT, Bool.false_eq_true, Nat.add_zero, Nat.zero_add, Nat.reduceAdd, Nat.reduceMul, Nat.reduceSub, Nat.zero_le, Nat.reduceLeDiff, Nat.reduceEqDiff, Nat.le_refl, not_false_eq_true, not_true_eq_false, false_implies, true_implies, forall_const, true_and, and_true, if_true, if_false, implies_true, and_self, ne_eq, false_and, and_false, or_false, false_or, true_or, or_true]
            exact ⟨⟨⟨⟨_, rfl⟩, f5, e5, z5⟩, zq0⟩, A05⟩
        · by_cases c : v < s.2.2 fv
          · have c' := Int32.not_le.mpr c
            simp (disch := omega) only [q_aload0, q_aload0N, q_ldc_s, q_invv1, inv_1, q_if_eq, q_get_z, pTag_1, pRf_s, q_zret, q_invv0, q_istore1, q_get_i, q_iconst, q_ic_eq, q_bipush, q_istore2, q_iload2, q_if_ne, q_dup_i, q_dup_r, q_iadd, q_put_i, q_istore3, q_iload1, q_iload3, q_ic_ge, q_goto, q_ic_le, q_nop, e_73_6, e_73_7, e_73_8, e_73_9, L_0, L_1, L_60, L_62, k_some, k_none, pRm_i, pRm_r, pRm_0, pF_1, pF_2, inv_s, zb_0, c, c', nN_le, nN_lt, nN_eq, nN_add, nN_mul, nN_lt0, nN_ge0, nN_gt0, nN_le0, nN_eq0, nN_eq1, nN_neN, pIn_n, pIx_n, eq_self, Nat.reduceLT, Bool.false_eq_true, Nat.add_zero, Nat.zero_add, Nat.reduceAdd, Nat.reduceMul, Nat.reduceSub, Nat.zero_le, Nat.reduceLeDiff, Nat.reduceEqDiff, Nat.le_refl, not_false_eq_true, not_true_eq_false, false_implies, true_implies, forall_const, true_and, and_true, if_true, if_false, implies_true, and_self, ne_eq, false_and, and_false, or_false, false_or, true_or, or_true]
            exact ⟨⟨⟨⟨_, rfl⟩, f5, e5, z5⟩, zq1⟩, A05⟩
          · have c' := Int32.not_lt.mp c
            simp (disch := omega) only [q_aload0, q_aload0N, q_ldc_s, q_invv1, inv_1, q_if_eq, q_get_z, pTag_1, pRf_s, q_zret, q_invv0, q_istore1, q_get_i, q_iconst, q_ic_eq, q_bipush, q_istore2, q_iload2, q_if_ne, q_dup_i, q_dup_r, q_iadd, q_put_i, q_istore3, q_iload1, q_iload3, q_ic_ge, q_goto, q_ic_le, q_nop, e_73_6, e_73_7, e_73_8, e_73_9, L_0, L_1, L_60, L_62, k_some, k_none, pRm_i, pRm_r, pRm_0, pF_1, pF_2, inv_s, zb_0, c, c', nN_le, nN_lt, nN_eq, nN_add, nN_mul, nN_lt0, nN_ge0, nN_gt0, nN_le0, nN_eq0, nN_eq1, nN_neN, pIn_n, pIx_n, eq_self, Nat.reduceLT, Bool.false_eq_true, Nat.add_zero, Nat.zero_add, Nat.reduceAdd, Nat.reduceMul, Nat.reduceSub, Nat.zero_le, Nat.reduceLeDiff, Nat.reduceEqDiff, Nat.le_refl, not_false_eq_true, not_true_eq_false, false_implies, true_implies, forall_const, true_and, and_true, if_true, if_false, implies_true, and_self, ne_eq, false_and, and_false, or_false, false_or, true_or, or_true]
            exact ⟨⟨⟨⟨_, rfl⟩, f5, e5, z5⟩, zq0⟩, A05⟩
      | inr s2 =>
        rw [hc] at h5
        obtain ⟨rfl, q5, T5⟩ := h5
        have fin : ∀ z, Z01 (.inl (some (.int z))) → z = sJoin (th tW n b s.1) (s.2.2 fv) (s2.2.2 fv) → MdQ M5 u n b dp fv (.inr (s2.1, s.2.1 ++ s2.2.1 ++ [th tW n b s.1], fun fv => sJoin (th tW n b s.1) (s.2.2 fv) (s2.2.2 fv))) (.inl (some (.int z))) ∧ Ag (MdY u) M M5 := fun z hq hz => ⟨⟨⟨by rw [hz], q5, T5⟩, hq⟩, A05⟩
        rw [ht] at fin ⊢
        rcases hw with ⟨rfl, rfl⟩ | ⟨rfl, rfl⟩
        · by_cases c : s.2.2 fv < s2.2.2 fv
          · have c' := Int32.not_le.mpr c
            simp (disch := omega) only [q_aload0, q_aload0N, q_ldc_s, q_invv1, inv_1, q_if_eq, q_get_z, pTag_1, pRf_s, q_zret, q_invv0, q_istore1, q_get_i, q_iconst, q_ic_eq, q_bipush, q_istore2, q_iload2, q_if_ne, q_dup_i, q_dup_r, q_iadd, q_put_i, q_istore3, q_iload1, q_iload3, q_ic_ge, q_goto, q_ic_le, q_nop, e_73_6, e_73_7, e_73_8, e_73_9, L_0, L_1, L_60, L_62, k_some, k_none, pRm_i, pRm_r, pRm_0, pF_1, pF_2, inv_s, zb_1, c, c', nN_le, nN_lt, nN_eq, nN_add, nN_mul, nN_lt0, nN_ge0, nN_gt0, nN_le0, nN_eq0, nN_eq1, nN_neN, pIn_n, pIx_n, eq_self, Nat.reduceLT, Bool.false_eq_true, Nat.add_zero, Nat.zero_add, Nat.reduceAdd, Nat.reduceMul, Nat.reduceSub, Nat.zero_le, Nat.reduceLeDiff, Nat.reduceEqDiff, Nat.le_refl, not_false_eq_true, not_true_eq_false, false_implies, true_implies, forall_const, true_and, and_true, if_true, if_false, implies_true, and_self, ne_eq, false_and, and_false, or_false, false_or, true_or, or_true]
            exact fin _ zq1 (bI_t c)
          · have c' := Int32.not_lt.mp c
            simp (disch := omega) only [q_aload0, q_aload0N, q_ldc_s, q_invv1, inv_1, q_if_eq, q_get_z, pTag_1, pRf_s, q_zret, q_invv0, q_istore1, q_get_i, q_iconst, q_ic_eq, q_bipush, q_istore2, q_iload2, q_if_ne, q_dup_i, q_dup_r, q_iadd, q_put_i, q_istore3, q_iload1, q_iload3, q_ic_ge, q_goto, q_ic_le, q_nop, e_73_6, e_73_7, e_73_8, e_73_9, L_0, L_1, L_60, L_62, k_some, k_none, pRm_i, pRm_r, pRm_0, pF_1, pF_2, inv_s, zb_1, c, c', nN_le, nN_lt, nN_eq, nN_add, nN_mul, nN_lt0, nN_ge0, nN_gt0, nN_le0, nN_eq0, nN_eq1, nN_neN, pIn_n, pIx_n, eq_self, Nat.reduceLT, Bool.false_eq_true, Nat.add_zero, Nat.zero_add, Nat.reduceAdd, Nat.reduceMul, Nat.reduceSub, Nat.zero_le, Nat.reduceLeDiff, Nat.reduceEqDiff, Nat.le_refl, not_false_eq_true, not_true_eq_false, false_implies, true_implies, forall_const, true_and, and_true, if_true, if_false, implies_true, and_self, ne_eq, false_and, and_false, or_false, false_or, true_or, or_true]
            exact fin _ zq0 (bI_f c)
        · by_cases c : s2.2.2 fv < s.2.2 fv
          · have c' := Int32.not_le.mpr c
            simp (disch := omega) only [q_aload0, q_aload0N, q_ldc_s, q_invv1, inv_1, q_if_eq, q_get_z, pTag_1, pRf_s, q_zret, q_invv0, q_istore1, q_get_i, q_iconst, q_ic_eq, q_bipush, q_istore2, q_iload2, q_if_ne, q_dup_i, q_dup_r, q_iadd, q_put_i, q_istore3, q_iload1, q_iload3, q_ic_ge, q_goto, q_ic_le, q_nop, e_73_6, e_73_7, e_73_8, e_73_9, L_0, L_1, L_60, L_62, k_some, k_none, pRm_i, pRm_r, pRm_0, pF_1, pF_2, inv_s, zb_0, c, c', nN_le, nN_lt, nN_eq, nN_add, nN_mul, nN_lt0, nN_ge0, nN_gt0, nN_le0, nN_eq0, nN_eq1, nN_neN, pIn_n, pIx_n, eq_self, Nat.reduceLT, Bool.false_eq_true, Nat.add_zero, Nat.zero_add, Nat.reduceAdd, Nat.reduceMul, Nat.reduceSub, Nat.zero_le, Nat.reduceLeDiff, Nat.reduceEqDiff, Nat.le_refl, not_false_eq_true, not_true_eq_false, false_implies, true_implies, forall_const, true_and, and_true, if_true, if_false, implies_true, and_self, ne_eq, false_and, and_false, or_false, false_or, true_or, or_true]
            exact fin _ zq1 (bI_t c)
          · have c' := Int32.not_lt.mp c
            simp (disch := omega) only [q_aload0, q_aload0N, q_ldc_s, q_invv1, inv_1, q_if_eq, q_get_z, pTag_1, pRf_s, q_zret, q_invv0, q_istore1, q_get_i, q_iconst, q_ic_eq, q_bipush, q_istore2, q_iload2, q_if_ne, q_dup_i, q_dup_r, q_iadd, q_put_i, q_istore3, q_iload1, q_iload3, q_ic_ge, q_goto, q_ic_le, q_nop, e_73_6, e_73_7, e_73_8, e_73_9, L_0, L_1, L_60, L_62, k_some, k_none, pRm_i, pRm_r, pRm_0, pF_1, pF_2, inv_s, zb_0, c, c', nN_le, nN_lt, nN_eq, nN_add, nN_mul, nN_lt0, nN_ge0, nN_gt0, nN_le0, nN_eq0, nN_eq1, nN_neN, pIn_n, pIx_n, eq_self, Nat.reduceLT, Bool.false_eq_true, Nat.add_zero, Nat.zero_add, Nat.reduceAdd, Nat.reduceMul, Nat.reduceSub, Nat.zero_le, Nat.reduceLeDiff, Nat.reduceEqDiff, Nat.le_refl, not_false_eq_true, not_true_eq_false, false_implies, true_implies, forall_const, true_and, and_true, if_true, if_false, implies_true, and_self, ne_eq, false_and, and_false, or_false, false_or, true_or, or_true]
            exact fin _ zq0 (bI_f c)
    by_cases c60 : s.1 < n ∧ b s.1 = 60
    · simp (disch := omega) only [q_aload0, q_aload0N, q_ldc_s, q_invv1, inv_1, q_if_eq, q_get_z, pTag_1, pRf_s, q_zret, q_invv0, q_istore1, q_get_i, q_iconst, q_ic_eq, q_bipush, q_istore2, q_iload2, q_if_ne, q_dup_i, q_dup_r, q_iadd, q_put_i, q_istore3, q_iload1, q_iload3, q_ic_ge, q_goto, q_ic_le, q_nop, L_0, L_1, L_60, L_62, k_some, k_none, pRm_i, pRm_r, pRm_0, pF_1, pF_2, inv_s, c60, bI_T, zb_1, h2.sh.k0, nN_le, nN_lt, nN_eq, nN_add, nN_mul, nN_lt0, nN_ge0, nN_gt0, nN_le0, nN_eq0, nN_eq1, nN_neN, pIn_n, pIx_n, eq_self, Nat.reduceLT, Bool.false_eq_true, Nat.add_zero, Nat.zero_add, Nat.reduceAdd, Nat.reduceMul, Nat.reduceSub, Nat.zero_le, Nat.reduceLeDiff, Nat.reduceEqDiff, Nat.le_refl, not_false_eq_true, not_true_eq_false, false_implies, true_implies, forall_const, true_and, and_true, if_true, if_false, implies_true, and_self, ne_eq, false_and, and_false, or_false, false_or, true_or, or_true]
      have g := two M2 (nN 1) 2060 (Or.inl ⟨rfl, rfl⟩) (t60.mpr c60) T2 A02
      have e : pThen (Sum.inr s) (fun s => if th tW n b s.1 = 2060 ∨ th tW n b s.1 = 2062 then pThen (pSum (th tW n b) (nx9 n b) 400 (nx9 n b s.1)) fun s2 => .inr (s2.1, s.2.1 ++ s2.2.1 ++ [th tW n b s.1], fun fv => sJoin (th tW n b s.1) (s.2.2 fv) (s2.2.2 fv)) else .inl s.1) = pThen (pSum (th tW n b) (nx9 n b) 400 (nx9 n b s.1)) fun s2 => .inr (s2.1, s.2.1 ++ s2.2.1 ++ [th tW n b s.1], fun fv => sJoin (th tW n b s.1) (s.2.2 fv) (s2.2.2 fv)) := if_pos (Or.inl (t60.mpr c60))
      rw [e]
      exact g
    · simp (disch := omega) only [q_aload0, q_aload0N, q_ldc_s, q_invv1, inv_1, q_if_eq, q_get_z, pTag_1, pRf_s, q_zret, q_invv0, q_istore1, q_get_i, q_iconst, q_ic_eq, q_bipush, q_istore2, q_iload2, q_if_ne, q_dup_i, q_dup_r, q_iadd, q_put_i, q_istore3, q_iload1, q_iload3, q_ic_ge, q_goto, q_ic_le, q_nop, L_0, L_1, L_60, L_62, k_some, k_none, pRm_i, pRm_r, pRm_0, pF_1, pF_2, inv_s, c60, bI_F, zb_0, h2.sh.k0, nN_le, nN_lt, nN_eq, nN_add, nN_mul, nN_lt0, nN_ge0, nN_gt0, nN_le0, nN_eq0, nN_eq1, nN_neN, pIn_n, pIx_n, eq_self, Nat.reduceLT, Bool.false_eq_true, Nat.add_zero, Nat.zero_add, Nat.reduceAdd, Nat.reduceMul, Nat.reduceSub, Nat.zero_le, Nat.reduceLeDiff, Nat.reduceEqDiff, Nat.le_refl, not_false_eq_true, not_true_eq_false, false_implies, true_implies, forall_const, true_and, and_true, if_true, if_false, implies_true, and_self, ne_eq, false_and, and_false, or_false, false_or, true_or, or_true]
      refine mw_mono (w_isSign (c := 62) h2 (by omega)) ?_
      rintro _ M3 ⟨rfl, h3, A3⟩
      have T3 := T2.st A3 X9_10 h3
      have A03 := A02.trans (A3.mono MdY_9)
      by_cases c62 : s.1 < n ∧ b s.1 = 62
      · simp (disch := omega) only [q_aload0, q_aload0N, q_ldc_s, q_invv1, inv_1, q_if_eq, q_get_z, pTag_1, pRf_s, q_zret, q_invv0, q_istore1, q_get_i, q_iconst, q_ic_eq, q_bipush, q_istore2, q_iload2, q_if_ne, q_dup_i, q_dup_r, q_iadd, q_put_i, q_istore3, q_iload1, q_iload3, q_ic_ge, q_goto, q_ic_le, q_nop, L_0, L_1, L_60, L_62, k_some, k_none, pRm_i, pRm_r, pRm_0, pF_1, pF_2, inv_s, c62, bI_T, zb_1, h3.sh.k0, nN_le, nN_lt, nN_eq, nN_add, nN_mul, nN_lt0, nN_ge0, nN_gt0, nN_le0, nN_eq0, nN_eq1, nN_neN, pIn_n, pIx_n, eq_self, Nat.reduceLT, Bool.false_eq_true, Nat.add_zero, Nat.zero_add, Nat.reduceAdd, Nat.reduceMul, Nat.reduceSub, Nat.zero_le, Nat.reduceLeDiff, Nat.reduceEqDiff, Nat.le_refl, not_false_eq_true, not_true_eq_false, false_implies, true_implies, forall_const, true_and, and_true, if_true, if_false, implies_true, and_self, ne_eq, false_and, and_false, or_false, false_or, true_or, or_true]
        have g := two M3 (nN 0) 2062 (Or.inr ⟨rfl, rfl⟩) (t62.mpr c62) T3 A03
        have e : pThen (Sum.inr s) (fun s => if th tW n b s.1 = 2060 ∨ th tW n b s.1 = 2062 then pThen (pSum (th tW n b) (nx9 n b) 400 (nx9 n b s.1)) fun s2 => .inr (s2.1, s.2.1 ++ s2.2.1 ++ [th tW n b s.1], fun fv => sJoin (th tW n b s.1) (s.2.2 fv) (s2.2.2 fv)) else .inl s.1) = pThen (pSum (th tW n b) (nx9 n b) 400 (nx9 n b s.1)) fun s2 => .inr (s2.1, s.2.1 ++ s2.2.1 ++ [th tW n b s.1], fun fv => sJoin (th tW n b s.1) (s.2.2 fv) (s2.2.2 fv)) := if_pos (Or.inr (t62.mpr c62))
        rw [e]
        exact g
      · simp (disch := omega) only [q_aload0, q_aload0N, q_ldc_s, q_invv1, inv_1, q_if_eq, q_get_z, pTag_1, pRf_s, q_zret, q_invv0, q_istore1, q_get_i, q_iconst, q_ic_eq, q_bipush, q_istore2, q_iload2, q_if_ne, q_dup_i, q_dup_r, q_iadd, q_put_i, q_istore3, q_iload1, q_iload3, q_ic_ge, q_goto, q_ic_le, q_nop, L_0, L_1, L_60, L_62, k_some, k_none, pRm_i, pRm_r, pRm_0, pF_1, pF_2, inv_s, c62, bI_F, zb_0, h3.sh.k0, h3.aq, nN_le, nN_lt, nN_eq, nN_add, nN_mul, nN_lt0, nN_ge0, nN_gt0, nN_le0, nN_eq0, nN_eq1, nN_neN, pIn_n, pIx_n, eq_self, Nat.reduceLT, Bool.false_eq_true, Nat.add_zero, Nat.zero_add, Nat.reduceAdd, Nat.reduceMul, Nat.reduceSub, Nat.zero_le, Nat.reduceLeDiff, Nat.reduceEqDiff, Nat.le_refl, not_false_eq_true, not_true_eq_false, false_implies, true_implies, forall_const, true_and, and_true, if_true, if_false, implies_true, and_self, ne_eq, false_and, and_false, or_false, false_or, true_or, or_true]
        refine mw_mono (w_wrongM h3.sh h3.ft) ?_
        rintro _ M4 ⟨rfl, h4, A4⟩
        simp (disch := omega) only [q_aload0, q_aload0N, q_ldc_s, q_invv1, inv_1, q_if_eq, q_get_z, pTag_1, pRf_s, q_zret, q_invv0, q_istore1, q_get_i, q_iconst, q_ic_eq, q_bipush, q_istore2, q_iload2, q_if_ne, q_dup_i, q_dup_r, q_iadd, q_put_i, q_istore3, q_iload1, q_iload3, q_ic_ge, q_goto, q_ic_le, q_nop, L_0, L_1, L_60, L_62, k_some, k_none, pRm_i, pRm_r, pRm_0, pF_1, pF_2, inv_s, nN_le, nN_lt, nN_eq, nN_add, nN_mul, nN_lt0, nN_ge0, nN_gt0, nN_le0, nN_eq0, nN_eq1, nN_neN, pIn_n, pIx_n, eq_self, Nat.reduceLT, Bool.false_eq_true, Nat.add_zero, Nat.zero_add, Nat.reduceAdd, Nat.reduceMul, Nat.reduceSub, Nat.zero_le, Nat.reduceLeDiff, Nat.reduceEqDiff, Nat.le_refl, not_false_eq_true, not_true_eq_false, false_implies, true_implies, forall_const, true_and, and_true, if_true, if_false, implies_true, and_self, ne_eq, false_and, and_false, or_false, false_or, true_or, or_true]
        have e : pThen (Sum.inr s) (fun s => if th tW n b s.1 = 2060 ∨ th tW n b s.1 = 2062 then pThen (pSum (th tW n b) (nx9 n b) 400 (nx9 n b s.1)) fun s2 => .inr (s2.1, s.2.1 ++ s2.2.1 ++ [th tW n b s.1], fun fv => sJoin (th tW n b s.1) (s.2.2 fv) (s2.2.2 fv)) else .inl s.1) = .inl s.1 := if_neg (fun z => z.elim (fun z => c60 (t60.mp z)) (fun z => c62 (t62.mp z)))
        rw [e]
        exact ⟨⟨⟨⟨_, rfl⟩, h4, by omega, s.1, by omega, by rw [A4.I (by omega)]; exact h3.aq⟩, zq0⟩, A03.trans (A4.mono fun h k z => ⟨z.1, Or.inr (Or.inl z.2)⟩)⟩
end CM
