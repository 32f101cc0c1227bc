/-! CHAINS OF CONDITIONS, in the law's model -/
section EV
variable {d n u p q k m c sr i dp K : Nat} {b : Nat → Nat} {fv : Nat → Int32} {M M1 M' : pMem} {Q : pOut → pMem → Prop} {x y : Int32} {atm : Nat → pZ}
theorem pB_ch {T N : Nat → Nat} {sub : Nat → pZ} {sep : Nat} (hsep : sep = 1013 ∨ sep = 1014) (hs : ∀ q, pB fv (sub q)) : ∀ (j : Nat) (s : pY), (s.2.2 fv = nN 0 ∨ s.2.2 fv = nN 1) → pB fv (pCh T N sub sep j s) := by
  intro j
  induction j with
  | zero => intro s _; trivial
  | succ j ih =>
    intro s h
    unfold pCh
    split
    · have h2 := hs (N s.1)
      cases hc : sub (N s.1) with
      | inl e => trivial
      | inr s2 =>
        rw [hc] at h2
        have h2 : s2.2.2 fv = nN 0 ∨ s2.2.2 fv = nN 1 := h2
        refine ih _ ?_
        show sJoin sep (s.2.2 fv) (s2.2.2 fv) = _ ∨ sJoin sep (s.2.2 fv) (s2.2.2 fv) = _
        rcases hsep with rfl | rfl <;> rcases h with h | h <;> rcases h2 with h2 | h2 <;> rw [h, h2]
        · left; decide +kernel
        · left; decide +kernel
        · left; decide +kernel
        · right; decide +kernel
        · left; decide +kernel
        · right; decide +kernel
        · right; decide +kernel
        · right; decide +kernel
    · exact h
theorem pB_then {T N : Nat → Nat} {sub : Nat → pZ} {sep F : Nat} (hsep : sep = 1013 ∨ sep = 1014) (hs : ∀ q, pB fv (sub q)) : ∀ q, pB fv (pThen (sub q) fun s => pCh T N sub sep F s) := by
  intro q
  have h2 := hs q
  cases hc : sub q with
  | inl e => trivial
  | inr s =>
    rw [hc] at h2
    exact pB_ch hsep hs F s h2
theorem pB_ev {T N : Nat → Nat} {F : Nat} (hs : ∀ q, pB fv (atm q)) : ∀ q, pB fv (pEv T N F atm q) := pB_then (Or.inl rfl) hs
theorem pB_so {T N : Nat → Nat} {F : Nat} (hs : ∀ q, pB fv (atm q)) : ∀ q, pB fv (pSo T N F atm q) := pB_then (Or.inr rfl) (pB_ev hs)
theorem pB_not {x : pZ} {f : pY → Nat} {g : pY → List Nat} (h : pB fv x) : pB fv (pThen x fun s => .inr (f s, g s, fun fv => nN 1 - s.2.2 fv)) := by
  cases x with
  | inl e => trivial
  | inr s =>
    show nN 1 - s.2.2 fv = _ ∨ nN 1 - s.2.2 fv = _
    have h : s.2.2 fv = nN 0 ∨ s.2.2 fv = nN 1 := h
    rcases h with h | h <;> rw [h]
    · right; decide +kernel
    · left; decide +kernel
theorem pB_atom {T N : Nat → Nat} {F : Nat} (hb : Bl fv) : ∀ (r q : Nat), pB fv (pAtom T N F r q) := by
  intro r
  induction r with
  | zero =>
    intro q
    unfold pAtom
    split
    · trivial
    · exact pB_plain hb
  | succ r ih =>
    intro q
    unfold pAtom
    split
    · exact pB_not (ih _)
    · split
      · have h2 := pB_so (T := T) (N := N) (F := F) ih (N q)
        cases hc : pSo T N F (pAtom T N F r) (N q) with
        | inl e => trivial
        | inr s =>
          rw [hc] at h2
          show pB fv (if T s.1 = 2041 then .inr (N s.1, s.2.1, s.2.2) else .inl s.1)
          split
          · exact h2
          · trivial
      · exact pB_plain hb
theorem w_evLoop (ha : ∀ (M : pMem) (q p : Nat), MdT M u n b dp fv q p → mw (d + 10) 74 [.ref u] M (fun o M' => MdQ M' u n b dp fv (atm p) o ∧ Ag (MdY u) M M'))
    (hg : ∀ q, q ≤ n → (q = n ∨ (q < n ∧ isB b q = true)) → Gd n b K q (atm q)) (hB : ∀ q, pB fv (atm q)) :
    ∀ (j : Nat) (s : pY) (M2 : pMem) (q : Nat) (l2 : Option Value), n < j + s.1 → MdT M2 u n b dp fv q s.1 → (s.2.2 fv = nN 0 ∨ s.2.2 fv = nN 1) → Ag (MdY u) M M2 → bw (d + 10) 75 1 ([some (.ref u), some (.int (s.2.2 fv)), l2], [], M2) (fun o M' => MdQ M' u n b dp fv (pCh (th tW n b) (nx9 n b) atm 1013 j s) o ∧ Ag (MdY u) M M') := by
  intro j
  induction j with
  | zero =>
    intro s M2 q l2 hj h
    have := h.sd.ple
    omega
  | succ j ih =>
    intro s M2 q l2 hj h hv A
    have hpn := h.sd.ple.2
    have hn := h.sd.n9
    have f2 := h.sd.ft
    rw [e_75_1]
    simp (disch := omega) only [q_aload0, q_aload0N, q_invv0, inv_1, q_istore1, q_nop, q_get_i, pTag_1, pRf_s, q_iconst, q_ic_ne, q_ldc_s, q_invv1, q_if_eq, q_istore2, q_iload1, q_iload2, q_goto, q_zret, e_75_0, L_0, L_1, k_some, k_none, pRm_i, pRm_r, pRm_0, pF_1, pF_2, inv_s, h.sd.sh.k0, f2, nN_le, nN_lt, nN_eq, nN_add, nN_mul, nN_lt0, nN_ge0, nN_gt0, nN_le0, nN_eq0, nN_eq1, nN_neN, pIn_n, pIx_n, eq_self, Nat.reduceLT, Bool.false_eq_true, Nat.add_zero, Nat.zero_add, Nat.reduceAdd, Nat.reduceMul, Nat.reduceSub, Nat.zero_le, Nat.reduceLeDiff, Nat.reduceEqDiff, Nat.le_refl, not_false_eq_true, not_true_eq_false, false_implies, true_implies, forall_const, true_and, and_true, if_true, if_false, implies_true, and_self, ne_eq, false_and, and_false, or_false, false_or, true_or, or_true]
    refine mw_mono (w_hasT (i := 13) h.sd (by omega) rfl) ?_
    rintro o3 M3 ⟨h3, A3⟩
    have A03 := A.trans (A3.mono MdY_9)
    unfold pCh
    by_cases c : th tW n b s.1 = 1013
    · rw [if_pos (show th tW n b s.1 = 1000 + 13 from c)] at h3
      rw [if_pos c]
      obtain ⟨rfl, h3⟩ := h3
      have T3 := h.st A3 X9_10 h3
      have hp : s.1 < n := by
        by_cases e : s.1 < n
        · exact e
        · rw [th_3000 (by omega)] at c; omega
      have g8 := At_nx (b := b) hp
      simp (disch := omega) only [q_aload0, q_aload0N, q_invv0, inv_1, q_istore1, q_nop, q_get_i, pTag_1, pRf_s, q_iconst, q_ic_ne, q_ldc_s, q_invv1, q_if_eq, q_istore2, q_iload1, q_iload2, q_goto, q_zret, e_75_0, L_0, L_1, k_some, k_none, pRm_i, pRm_r, pRm_0, pF_1, pF_2, inv_s, zb_1, T3.sd.sh.k0, nN_le, nN_lt, nN_eq, nN_add, nN_mul, nN_lt0, nN_ge0, nN_gt0, nN_le0, nN_eq0, nN_eq1, nN_neN, pIn_n, pIx_n, eq_self, Nat.reduceLT, Bool.false_eq_true, Nat.add_zero, Nat.zero_add, Nat.reduceAdd, Nat.reduceMul, Nat.reduceSub, Nat.zero_le, Nat.reduceLeDiff, Nat.reduceEqDiff, Nat.le_refl, not_false_eq_true, not_true_eq_false, false_implies, true_implies, forall_const, true_and, and_true, if_true, if_false, implies_true, and_self, ne_eq, false_and, and_false, or_false, false_or, true_or, or_true]
      refine mw_mono (ha M3 _ _ T3) ?_
      rintro o M5 ⟨h5, A5⟩
      have A05 := A03.trans A5
      have s5 : ShM (gS M5) (gP M5) u := by rw [A5.S, A5.P]; exact T3.sd.sh
      have hgg := hg _ g8.2.1 g8.2.2
      have hBB := hB (nx9 n b s.1)
      cases hc : atm (nx9 n b s.1) with
      | inl e =>
        rw [hc] at h5
        obtain ⟨⟨-, f5, e5, z5⟩, v5, rfl, hv5⟩ := h5
        have f6 := nN_ft e5
        have fin : ∀ (x : Int32) (l2 : Option Value), (x = nN 0 ∨ x = nN 1) → bw (d + 10) 75 1 ([some (.ref u), some (.int x), l2], [], M5) (fun o M' => MdQ M' u n b dp fv (.inl e) o ∧ Ag (MdY u) M M') := by
          intro x l2 hx
          rw [e_75_1]
          rcases hx with rfl | rfl
          · simp (disch := omega) only [q_aload0, q_aload0N, q_invv0, inv_1, q_istore1, q_nop, q_get_i, pTag_1, pRf_s, q_iconst, q_ic_ne, q_ldc_s, q_invv1, q_if_eq, q_istore2, q_iload1, q_iload2, q_goto, q_zret, e_75_0, e_75_2, e_75_3, e_75_4, L_0, L_1, k_some, k_none, pRm_i, pRm_r, pRm_0, pF_1, pF_2, inv_s, s5.k0, f5, f6, zb_0, nN_le, nN_lt, nN_eq, nN_add, nN_mul, nN_lt0, nN_ge0, nN_gt0, nN_le0, nN_eq0, nN_eq1, nN_neN, pIn_n, pIx_n, eq_self, Nat.reduceLT, Bool.false_eq_true, Nat.add_zero, Nat.zero_add, Nat.reduceAdd, Nat.reduceMul, Nat.reduceSub, Nat.zero_le, Nat.reduceLeDiff, Nat.reduceEqDiff, Nat.le_refl, not_false_eq_true, not_true_eq_false, false_implies, true_implies, forall_const, true_and, and_true, if_true, if_false, implies_true, and_self, ne_eq, false_and, and_false, or_false, false_or, true_or, or_true]
            exact ⟨⟨⟨⟨_, rfl⟩, f5, e5, z5⟩, zq0⟩, A05⟩
          · simp (disch := omega) only [q_aload0, q_aload0N, q_invv0, inv_1, q_istore1, q_nop, q_get_i, pTag_1, pRf_s, q_iconst, q_ic_ne, q_ldc_s, q_invv1, q_if_eq, q_istore2, q_iload1, q_iload2, q_goto, q_zret, e_75_0, e_75_2, e_75_3, e_75_4, L_0, L_1, k_some, k_none, pRm_i, pRm_r, pRm_0, pF_1, pF_2, inv_s, s5.k0, f5, f6, zb_1, nN_le, nN_lt, nN_eq, nN_add, nN_mul, nN_lt0, nN_ge0, nN_gt0, nN_le0, nN_eq0, nN_eq1, nN_neN, pIn_n, pIx_n, eq_self, Nat.reduceLT, Bool.false_eq_true, Nat.add_zero, Nat.zero_add, Nat.reduceAdd, Nat.reduceMul, Nat.reduceSub, Nat.zero_le, Nat.reduceLeDiff, Nat.reduceEqDiff, Nat.le_refl, not_false_eq_true, not_true_eq_false, false_implies, true_implies, forall_const, true_and, and_true, if_true, if_false, implies_true, and_self, ne_eq, false_and, and_false, or_false, false_or, true_or, or_true]
            exact ⟨⟨⟨⟨_, rfl⟩, f5, e5, z5⟩, zq1⟩, A05⟩
        rcases hv with hv | hv <;> rcases hv5 with rfl | rfl
        · simp (disch := omega) only [q_aload0, q_aload0N, q_invv0, inv_1, q_istore1, q_nop, q_get_i, pTag_1, pRf_s, q_iconst, q_ic_ne, q_ldc_s, q_invv1, q_if_eq, q_istore2, q_iload1, q_iload2, q_goto, q_zret, e_75_0, e_75_2, e_75_3, e_75_4, L_0, L_1, k_some, k_none, pRm_i, pRm_r, pRm_0, pF_1, pF_2, inv_s, hv, nN_le, nN_lt, nN_eq, nN_add, nN_mul, nN_lt0, nN_ge0, nN_gt0, nN_le0, nN_eq0, nN_eq1, nN_neN, pIn_n, pIx_n, eq_self, Nat.reduceLT, Bool.false_eq_true, Nat.add_zero, Nat.zero_add, Nat.reduceAdd, Nat.reduceMul, Nat.reduceSub, Nat.zero_le, Nat.reduceLeDiff, Nat.reduceEqDiff, Nat.le_refl, not_false_eq_true, not_true_eq_false, false_implies, true_implies, forall_const, true_and, and_true, if_true, if_false, implies_true, and_self, ne_eq, false_and, and_false, or_false, false_or, true_or, or_true]
          exact fin _ _ (Or.inl rfl)
        · simp (disch := omega) only [q_aload0, q_aload0N, q_invv0, inv_1, q_istore1, q_nop, q_get_i, pTag_1, pRf_s, q_iconst, q_ic_ne, q_ldc_s, q_invv1, q_if_eq, q_istore2, q_iload1, q_iload2, q_goto, q_zret, e_75_0, e_75_2, e_75_3, e_75_4, L_0, L_1, k_some, k_none, pRm_i, pRm_r, pRm_0, pF_1, pF_2, inv_s, hv, nN_le, nN_lt, nN_eq, nN_add, nN_mul, nN_lt0, nN_ge0, nN_gt0, nN_le0, nN_eq0, nN_eq1, nN_neN, pIn_n, pIx_n, eq_self, Nat.reduceLT, Bool.false_eq_true, Nat.add_zero, Nat.zero_add, Nat.reduceAdd, Nat.reduceMul, Nat.reduceSub, Nat.zero_le, Nat.reduceLeDiff, Nat.reduceEqDiff, Nat.le_refl, not_false_eq_true, not_true_eq_false, false_implies, true_implies, forall_const, true_and, and_true, if_true, if_false, implies_true, and_self, ne_eq, false_and, and_false, or_false, false_or, true_or, or_true]
          exact fin _ _ (Or.inl rfl)
        · simp (disch := omega) only [q_aload0, q_aload0N, q_invv0, inv_1, q_istore1, q_nop, q_get_i, pTag_1, pRf_s, q_iconst, q_ic_ne, q_ldc_s, q_invv1, q_if_eq, q_istore2, q_iload1, q_iload2, q_goto, q_zret, e_75_0, e_75_2, e_75_3, e_75_4, L_0, L_1, k_some, k_none, pRm_i, pRm_r, pRm_0, pF_1, pF_2, inv_s, hv, nN_le, nN_lt, nN_eq, nN_add, nN_mul, nN_lt0, nN_ge0, nN_gt0, nN_le0, nN_eq0, nN_eq1, nN_neN, pIn_n, pIx_n, eq_self, Nat.reduceLT, Bool.false_eq_true, Nat.add_zero, Nat.zero_add, Nat.reduceAdd, Nat.reduceMul, Nat.reduceSub, Nat.zero_le, Nat.reduceLeDiff, Nat.reduceEqDiff, Nat.le_refl, not_false_eq_true, not_true_eq_false, false_implies, true_implies, forall_const, true_and, and_true, if_true, if_false, implies_true, and_self, ne_eq, false_and, and_false, or_false, false_or, true_or, or_true]
          exact fin _ _ (Or.inl rfl)
        · simp (disch := omega) only [q_aload0, q_aload0N, q_invv0, inv_1, q_istore1, q_nop, q_get_i, pTag_1, pRf_s, q_iconst, q_ic_ne, q_ldc_s, q_invv1, q_if_eq, q_istore2, q_iload1, q_iload2, q_goto, q_zret, e_75_0, e_75_2, e_75_3, e_75_4, L_0, L_1, k_some, k_none, pRm_i, pRm_r, pRm_0, pF_1, pF_2, inv_s, hv, nN_le, nN_lt, nN_eq, nN_add, nN_mul, nN_lt0, nN_ge0, nN_gt0, nN_le0, nN_eq0, nN_eq1, nN_neN, pIn_n, pIx_n, eq_self, Nat.reduceLT, Bool.false_eq_true, Nat.add_zero, Nat.zero_add, Nat.reduceAdd, Nat.reduceMul, Nat.reduceSub, Nat.zero_le, Nat.reduceLeDiff, Nat.reduceEqDiff, Nat.le_refl, not_false_eq_true, not_true_eq_false, false_implies, true_implies, forall_const, true_and, and_true, if_true, if_false, implies_true, and_self, ne_eq, false_and, and_false, or_false, false_or, true_or, or_true]
          exact fin _ _ (Or.inr rfl)
      | inr s2 =>
        rw [hc] at h5 hgg hBB
        obtain ⟨⟨rfl, q5, T5⟩, -⟩ := h5
        have h9 := hgg.1.1
        have hv5 : s2.2.2 fv = nN 0 ∨ s2.2.2 fv = nN 1 := hBB
        have g : ∀ x l2, x = sJoin 1013 (s.2.2 fv) (s2.2.2 fv) → (x = nN 0 ∨ x = nN 1) → bw (d + 10) 75 1 ([some (.ref u), some (.int x), l2], [], M5) (fun o M' => MdQ M' u n b dp fv (pCh (th tW n b) (nx9 n b) atm 1013 j (s2.1, s.2.1 ++ s2.2.1 ++ [1013], fun fv => sJoin 1013 (s.2.2 fv) (s2.2.2 fv))) o ∧ Ag (MdY u) M M') := by
          intro x l2 hx hx2
          have g := ih (s2.1, s.2.1 ++ s2.2.1 ++ [1013], fun fv => sJoin 1013 (s.2.2 fv) (s2.2.2 fv)) M5 q5 l2 (by show n < j + s2.1; omega) T5 (by show sJoin 1013 (s.2.2 fv) (s2.2.2 fv) = _ ∨ sJoin 1013 (s.2.2 fv) (s2.2.2 fv) = _; rw [← hx]; exact hx2) A05
          rw [hx]
          exact g
        rcases hv with hv | hv <;> rcases hv5 with hv5 | hv5
        · simp (disch := omega) only [q_aload0, q_aload0N, q_invv0, inv_1, q_istore1, q_nop, q_get_i, pTag_1, pRf_s, q_iconst, q_ic_ne, q_ldc_s, q_invv1, q_if_eq, q_istore2, q_iload1, q_iload2, q_goto, q_zret, e_75_0, e_75_2, e_75_3, e_75_4, L_0, L_1, k_some, k_none, pRm_i, pRm_r, pRm_0, pF_1, pF_2, inv_s, hv, hv5, nN_le, nN_lt, nN_eq, nN_add, nN_mul, nN_lt0, nN_ge0, nN_gt0, nN_le0, nN_eq0, nN_eq1, nN_neN, pIn_n, pIx_n, eq_self, Nat.reduceLT, Bool.false_eq_true, Nat.add_zero, Nat.zero_add, Nat.reduceAdd, Nat.reduceMul, Nat.reduceSub, Nat.zero_le, Nat.reduceLeDiff, Nat.reduceEqDiff, Nat.le_refl, not_false_eq_true, not_true_eq_false, false_implies, true_implies, forall_const, true_and, and_true, if_true, if_false, implies_true, and_self, ne_eq, false_and, and_false, or_false, false_or, true_or, or_true]
          exact g _ _ (by rw [hv, hv5]; decide +kernel) (Or.inl rfl)
        · simp (disch := omega) only [q_aload0, q_aload0N, q_invv0, inv_1, q_istore1, q_nop, q_get_i, pTag_1, pRf_s, q_iconst, q_ic_ne, q_ldc_s, q_invv1, q_if_eq, q_istore2, q_iload1, q_iload2, q_goto, q_zret, e_75_0, e_75_2, e_75_3, e_75_4, L_0, L_1, k_some, k_none, pRm_i, pRm_r, pRm_0, pF_1, pF_2, inv_s, hv, hv5, nN_le, nN_lt, nN_eq, nN_add, nN_mul, nN_lt0, nN_ge0, nN_gt0, nN_le0, nN_eq0, nN_eq1, nN_neN, pIn_n, pIx_n, eq_self, Nat.reduceLT, Bool.false_eq_true, Nat.add_zero, Nat.zero_add, Nat.reduceAdd, Nat.reduceMul, Nat.reduceSub, Nat.zero_le, Nat.reduceLeDiff, Nat.reduceEqDiff, Nat.le_refl, not_false_eq_true, not_true_eq_false, false_implies, true_implies, forall_const, true_and, and_true, if_true, if_false, implies_true, and_self, ne_eq, false_and, and_false, or_false, false_or, true_or, or_true]
          exact g _ _ (by rw [hv, hv5]; decide +kernel) (Or.inl rfl)
        · simp (disch := omega) only [q_aload0, q_aload0N, q_invv0, inv_1, q_istore1, q_nop, q_get_i, pTag_1, pRf_s, q_iconst, q_ic_ne, q_ldc_s, q_invv1, q_if_eq, q_istore2, q_iload1, q_iload2, q_goto, q_zret, e_75_0, e_75_2, e_75_3, e_75_4, L_0, L_1, k_some, k_none, pRm_i, pRm_r, pRm_0, pF_1, pF_2, inv_s, hv, hv5, nN_le, nN_lt, nN_eq, nN_add, nN_mul, nN_lt0, nN_ge0, nN_gt0, nN_le0, nN_eq0, nN_eq1, nN_neN, pIn_n, pIx_n, eq_self, Nat.reduceLT, Bool.false_eq_true, Nat.add_zero, Nat.zero_add, Nat.reduceAdd, Nat.reduceMul, Nat.reduceSub, Nat.zero_le, Nat.reduceLeDiff, Nat.reduceEqDiff, Nat.le_refl, not_false_eq_true, not_true_eq_false, false_implies, true_implies, forall_const, true_and, and_true, if_true, if_false, implies_true, and_self, ne_eq, false_and, and_false, or_false, false_or, true_or, or_true]
          exact g _ _ (by rw [hv, hv5]; decide +kernel) (Or.inl rfl)
        · simp (disch := omega) only [q_aload0, q_aload0N, q_invv0, inv_1, q_istore1, q_nop, q_get_i, pTag_1, pRf_s, q_iconst, q_ic_ne, q_ldc_s, q_invv1, q_if_eq, q_istore2, q_iload1, q_iload2, q_goto, q_zret, e_75_0, e_75_2, e_75_3, e_75_4, L_0, L_1, k_some, k_none, pRm_i, pRm_r, pRm_0, pF_1, pF_2, inv_s, hv, hv5, nN_le, nN_lt, nN_eq, nN_add, nN_mul, nN_lt0, nN_ge0, nN_gt0, nN_le0, nN_eq0, nN_eq1, nN_neN, pIn_n, pIx_n, eq_self, Nat.reduceLT, Bool.false_eq_true, Nat.add_zero, Nat.zero_add, Nat.reduceAdd, Nat.reduceMul, Nat.reduceSub, Nat.zero_le, Nat.reduceLeDiff, Nat.reduceEqDiff, Nat.le_refl, not_false_eq_true, not_true_eq_false, false_implies, true_implies, forall_const, true_and, and_true, if_true, if_false, implies_true, and_self, ne_eq, false_and, and_false, or_false, false_or, true_or, or_true]
          exact g _ _ (by rw [hv, hv5]; decide +kernel) (Or.inr rfl)
    · rw [if_neg (show ¬ th tW n b s.1 = 1000 + 13 from c)] at h3
      rw [if_neg c]
      obtain ⟨rfl, h3⟩ := h3
      have T3 := h.st A3 X9_10 h3
      have hq : MdQ M3 u n b dp fv (.inr s) (.inl (some (.int (s.2.2 fv)))) := ⟨⟨rfl, s.1, T3⟩, _, rfl, hv⟩
      have hz : (s.2.2 fv = 0 ∨ s.2.2 fv = 1) = True := by
        rcases hv with hv | hv
        · rw [hv]; exact zb_0
        · rw [hv]; exact zb_1
      simp (disch := omega) only [q_aload0, q_aload0N, q_invv0, inv_1, q_istore1, q_nop, q_get_i, pTag_1, pRf_s, q_iconst, q_ic_ne, q_ldc_s, q_invv1, q_if_eq, q_istore2, q_iload1, q_iload2, q_goto, q_zret, e_75_0, e_75_2, e_75_3, e_75_4, L_0, L_1, k_some, k_none, pRm_i, pRm_r, pRm_0, pF_1, pF_2, inv_s, zb_0, hz, T3.sd.sh.k0, nN_le, nN_lt, nN_eq, nN_add, nN_mul, nN_lt0, nN_ge0, nN_gt0, nN_le0, nN_eq0, nN_eq1, nN_neN, pIn_n, pIx_n, eq_self, Nat.reduceLT, Bool.false_eq_true, Nat.add_zero, Nat.zero_add, Nat.reduceAdd, Nat.reduceMul, Nat.reduceSub, Nat.zero_le, Nat.reduceLeDiff, Nat.reduceEqDiff, Nat.le_refl, not_false_eq_true, not_true_eq_false, false_implies, true_implies, forall_const, true_and, and_true, if_true, if_false, implies_true, and_self, ne_eq, false_and, and_false, or_false, false_or, true_or, or_true]
      exact ⟨hq, A03⟩
theorem w_everyM (ha : ∀ (M : pMem) (q p : Nat), MdT M u n b dp fv q p → mw (d + 10) 74 [.ref u] M (fun o M' => MdQ M' u n b dp fv (atm p) o ∧ Ag (MdY u) M M'))
    (hg : ∀ q, q ≤ n → (q = n ∨ (q < n ∧ isB b q = true)) → Gd n b K q (atm q)) (hB : ∀ q, pB fv (atm q)) (h : MdT M u n b dp fv q p) :
    mw (d + 11) 75 [.ref u] M (fun o M' => MdQ M' u n b dp fv (pThen (atm p) fun s => pCh (th tW n b) (nx9 n b) atm 1013 400 s) o ∧ Ag (MdY u) M M') := by
  have hpn := h.sd.ple.2
  have hn := h.sd.n9
  simp (disch := omega) only [m_75, q_aload0, q_aload0N, q_invv0, inv_1, q_istore1, q_nop, q_get_i, pTag_1, pRf_s, q_iconst, q_ic_ne, q_ldc_s, q_invv1, q_if_eq, q_istore2, q_iload1, q_iload2, q_goto, q_zret, e_75_0, L_0, L_1, k_some, k_none, pRm_i, pRm_r, pRm_0, pF_1, pF_2, inv_s, h.sd.sh.k0, nN_le, nN_lt, nN_eq, nN_add, nN_mul, nN_lt0, nN_ge0, nN_gt0, nN_le0, nN_eq0, nN_eq1, nN_neN, pIn_n, pIx_n, eq_self, Nat.reduceLT, Bool.false_eq_true, Nat.add_zero, Nat.zero_add, Nat.reduceAdd, Nat.reduceMul, Nat.reduceSub, Nat.zero_le, Nat.reduceLeDiff, Nat.reduceEqDiff, Nat.le_refl, not_false_eq_true, not_true_eq_false, false_implies, true_implies, forall_const, true_and, and_true, if_true, if_false, implies_true, and_self, ne_eq, false_and, and_false, or_false, false_or, true_or, or_true]
  refine mw_mono (ha M q p h) ?_
  rintro o M1 ⟨h1, A1⟩
  have s1 : ShM (gS M1) (gP M1) u := by rw [A1.S, A1.P]; exact h.sd.sh
  have hgg := hg p hpn h.sd.at9
  have hBB := hB p
  cases hc : atm p with
  | inl e =>
    rw [hc] at h1
    obtain ⟨⟨-, f5, e5, z5⟩, v5, rfl, hv5⟩ := h1
    have f6 := nN_ft e5
    simp (disch := omega) only [q_aload0, q_aload0N, q_invv0, inv_1, q_istore1, q_nop, q_get_i, pTag_1, pRf_s, q_iconst, q_ic_ne, q_ldc_s, q_invv1, q_if_eq, q_istore2, q_iload1, q_iload2, q_goto, q_zret, e_75_0, L_0, L_1, k_some, k_none, pRm_i, pRm_r, pRm_0, pF_1, pF_2, inv_s, nN_le, nN_lt, nN_eq, nN_add, nN_mul, nN_lt0, nN_ge0, nN_gt0, nN_le0, nN_eq0, nN_eq1, nN_neN, pIn_n, pIx_n, eq_self, Nat.reduceLT, Bool.false_eq_true, Nat.add_zero, Nat.zero_add, Nat.reduceAdd, Nat.reduceMul, Nat.reduceSub, Nat.zero_le, Nat.reduceLeDiff, Nat.reduceEqDiff, Nat.le_refl, not_false_eq_true, not_true_eq_false, false_implies, true_implies, forall_const, true_and, and_true, if_true, if_false, implies_true, and_self, ne_eq, false_and, and_false, or_false, false_or, true_or, or_true]
    rw [e_75_1]
    rcases hv5 with rfl | rfl
    · simp (disch := omega) only [q_aload0, q_aload0N, q_invv0, inv_1, q_istore1, q_nop, q_get_i, pTag_1, pRf_s, q_iconst, q_ic_ne, q_ldc_s, q_invv1, q_if_eq, q_istore2, q_iload1, q_iload2, q_goto, q_zret, e_75_0, e_75_2, e_75_3, e_75_4, L_0, L_1, k_some, k_none, pRm_i, pRm_r, pRm_0, pF_1, pF_2, inv_s, s1.k0, f5, f6, zb_0, nN_le, nN_lt, nN_eq, nN_add, nN_mul, nN_lt0, nN_ge0, nN_gt0, nN_le0, nN_eq0, nN_eq1, nN_neN, pIn_n, pIx_n, eq_self, Nat.reduceLT, Bool.false_eq_true, Nat.add_zero, Nat.zero_add, Nat.reduceAdd, Nat.reduceMul, Nat.reduceSub, Nat.zero_le, Nat.reduceLeDiff, Nat.reduceEqDiff, Nat.le_refl, not_false_eq_true, not_true_eq_false, false_implies, true_implies, forall_const, true_and, and_true, if_true, if_false, implies_true, and_self, ne_eq, false_and, and_false, or_false, false_or, true_or, or_true]
      exact ⟨⟨⟨⟨_, rfl⟩, f5, e5, z5⟩, zq0⟩, A1⟩
    · simp (disch := omega) only [q_aload0, q_aload0N, q_invv0, inv_1, q_istore1, q_nop, q_get_i, pTag_1, pRf_s, q_iconst, q_ic_ne, q_ldc_s, q_invv1, q_if_eq, q_istore2, q_iload1, q_iload2, q_goto, q_zret, e_75_0, e_75_2, e_75_3, e_75_4, L_0, L_1, k_some, k_none, pRm_i, pRm_r, pRm_0, pF_1, pF_2, inv_s, s1.k0, f5, f6, zb_1, nN_le, nN_lt, nN_eq, nN_add, nN_mul, nN_lt0, nN_ge0, nN_gt0, nN_le0, nN_eq0, nN_eq1, nN_neN, pIn_n, pIx_n, eq_self, Nat.reduceLT, Bool.false_eq_true, Nat.add_zero, Nat.zero_add, Nat.reduceAdd, Nat.reduceMul, Nat.reduceSub, Nat.zero_le, Nat.reduceLeDiff, Nat.reduceEqDiff, Nat.le_refl, not_false_eq_true, not_true_eq_false, false_implies, true_implies, forall_const, true_and, and_true, if_true, if_false, implies_true, and_self, ne_eq, false_and, and_false, or_false, false_or, true_or, or_true]
      exact ⟨⟨⟨⟨_, rfl⟩, f5, e5, z5⟩, zq1⟩, A1⟩
  | inr s =>
    rw [hc] at h1 hgg hBB
    obtain ⟨⟨rfl, q5, T5⟩, -⟩ := h1
    have h9 := hgg.1.1
    simp (disch := omega) only [q_aload0, q_aload0N, q_invv0, inv_1, q_istore1, q_nop, q_get_i, pTag_1, pRf_s, q_iconst, q_ic_ne, q_ldc_s, q_invv1, q_if_eq, q_istore2, q_iload1, q_iload2, q_goto, q_zret, e_75_0, L_0, L_1, k_some, k_none, pRm_i, pRm_r, pRm_0, pF_1, pF_2, inv_s, nN_le, nN_lt, nN_eq, nN_add, nN_mul, nN_lt0, nN_ge0, nN_gt0, nN_le0, nN_eq0, nN_eq1, nN_neN, pIn_n, pIx_n, eq_self, Nat.reduceLT, Bool.false_eq_true, Nat.add_zero, Nat.zero_add, Nat.reduceAdd, Nat.reduceMul, Nat.reduceSub, Nat.zero_le, Nat.reduceLeDiff, Nat.reduceEqDiff, Nat.le_refl, not_false_eq_true, not_true_eq_false, false_implies, true_implies, forall_const, true_and, and_true, if_true, if_false, implies_true, and_self, ne_eq, false_and, and_false, or_false, false_or, true_or, or_true]
    exact w_evLoop ha hg hB 400 s M1 q5 _ (by omega) T5 hBB A1
theorem w_soLoop (ha : ∀ (M : pMem) (q p : Nat), MdT M u n b dp fv q p → mw (d + 11) 75 [.ref u] M (fun o M' => MdQ M' u n b dp fv (atm p) o ∧ Ag (MdY u) M M'))
    (hg : ∀ q, q ≤ n → (q = n ∨ (q < n ∧ isB b q = true)) → Gd n b K q (atm q)) (hB : ∀ q, pB fv (atm q)) :
    ∀ (j : Nat) (s : pY) (M2 : pMem) (q : Nat) (l2 : Option Value), n < j + s.1 → MdT M2 u n b dp fv q s.1 → (s.2.2 fv = nN 0 ∨ s.2.2 fv = nN 1) → Ag (MdY u) M M2 → bw (d + 11) 76 1 ([some (.ref u), some (.int (s.2.2 fv)), l2], [], M2) (fun o M' => MdQ M' u n b dp fv (pCh (th tW n b) (nx9 n b) atm 1014 j s) o ∧ Ag (MdY u) M M') := by
  intro j
  induction j with
  | zero =>
    intro s M2 q l2 hj h
    have := h.sd.ple
    omega
  | succ j ih =>
    intro s M2 q l2 hj h hv A
    have hpn := h.sd.ple.2
    have hn := h.sd.n9
    have f2 := h.sd.ft
    rw [e_76_1]
    simp (disch := omega) only [q_aload0, q_aload0N, q_invv0, inv_1, q_istore1, q_nop, q_get_i, pTag_1, pRf_s, q_iconst, q_ic_ne, q_ldc_s, q_invv1, q_if_eq, q_istore2, q_iload1, q_if_ne, q_iload2, q_goto, q_zret, e_76_0, L_0, L_1, k_some, k_none, pRm_i, pRm_r, pRm_0, pF_1, pF_2, inv_s, h.sd.sh.k0, f2, nN_le, nN_lt, nN_eq, nN_add, nN_mul, nN_lt0, nN_ge0, nN_gt0, nN_le0, nN_eq0, nN_eq1, nN_neN, pIn_n, pIx_n, eq_self, Nat.reduceLT, Bool.false_eq_true, Nat.add_zero, Nat.zero_add, Nat.reduceAdd, Nat.reduceMul, Nat.reduceSub, Nat.zero_le, Nat.reduceLeDiff, Nat.reduceEqDiff, Nat.le_refl, not_false_eq_true, not_true_eq_false, false_implies, true_implies, forall_const, true_and, and_true, if_true, if_false, implies_true, and_self, ne_eq, false_and, and_false, or_false, false_or, true_or, or_true]
    refine mw_mono (w_hasT (i := 14) h.sd (by omega) rfl) ?_
    rintro o3 M3 ⟨h3, A3⟩
    have A03 := A.trans (A3.mono MdY_9)
    unfold pCh
    by_cases c : th tW n b s.1 = 1014
    · rw [if_pos (show th tW n b s.1 = 1000 + 14 from c)] at h3
      rw [if_pos c]
      obtain ⟨rfl, h3⟩ := h3
      have T3 := h.st A3 X9_10 h3
      have hp : s.1 < n := by
        by_cases e : s.1 < n
        · exact e
        · rw [th_3000 (by omega)] at c; omega
      have g8 := At_nx (b := b) hp
      simp (disch := omega) only [q_aload0, q_aload0N, q_invv0, inv_1, q_istore1, q_nop, q_get_i, pTag_1, pRf_s, q_iconst, q_ic_ne, q_ldc_s, q_invv1, q_if_eq, q_istore2, q_iload1, q_if_ne, q_iload2, q_goto, q_zret, e_76_0, L_0, L_1, k_some, k_none, pRm_i, pRm_r, pRm_0, pF_1, pF_2, inv_s, zb_1, T3.sd.sh.k0, nN_le, nN_lt, nN_eq, nN_add, nN_mul, nN_lt0, nN_ge0, nN_gt0, nN_le0, nN_eq0, nN_eq1, nN_neN, pIn_n, pIx_n, eq_self, Nat.reduceLT, Bool.false_eq_true, Nat.add_zero, Nat.zero_add, Nat.reduceAdd, Nat.reduceMul, Nat.reduceSub, Nat.zero_le, Nat.reduceLeDiff, Nat.reduceEqDiff, Nat.le_refl, not_false_eq_true, not_true_eq_false, false_implies, true_implies, forall_const, true_and, and_true, if_true, if_false, implies_true, and_self, ne_eq, false_and, and_false, or_false, false_or, true_or, or_true]
      refine mw_mono (ha M3 _ _ T3) ?_
      rintro o M5 ⟨h5, A5⟩
      have A05 := A03.trans A5
      have s5 : ShM (gS M5) (gP M5) u := by rw [A5.S, A5.P]; exact T3.sd.sh
      have hgg := hg _ g8.2.1 g8.2.2
      have hBB := hB (nx9 n b s.1)
      cases hc : atm (nx9 n b s.1) with
      | inl e =>
        rw [hc] at h5
        obtain ⟨⟨-, f5, e5, z5⟩, v5, rfl, hv5⟩ := h5
        have f6 := nN_ft e5
        have fin : ∀ (x : Int32) (l2 : Option Value), (x = nN 0 ∨ x = nN 1) → bw (d + 11) 76 1 ([some (.ref u), some (.int x), l2], [], M5) (fun o M' => MdQ M' u n b dp fv (.inl e) o ∧ Ag (MdY u) M M') := by
          intro x l2 hx
          rw [e_76_1]
          rcases hx with rfl | rfl
          · simp (disch := omega) only [q_aload0, q_aload0N, q_invv0, inv_1, q_istore1, q_nop, q_get_i, pTag_1, pRf_s, q_iconst, q_ic_ne, q_ldc_s, q_invv1, q_if_eq, q_istore2, q_iload1, q_if_ne, q_iload2, q_goto, q_zret, e_76_0, e_76_2, e_76_3, e_76_4, e_76_5, L_0, L_1, k_some, k_none, pRm_i, pRm_r, pRm_0, pF_1, pF_2, inv_s, s5.k0, f5, f6, zb_0, nN_le, nN_lt, nN_eq, nN_add, nN_mul, nN_lt0, nN_ge0, nN_gt0, nN_le0, nN_eq0, nN_eq1, nN_neN, pIn_n, pIx_n, eq_self, Nat.reduceLT, Bool.false_eq_true, Nat.add_zero, Nat.zero_add, Nat.reduceAdd, Nat.reduceMul, Nat.reduceSub, Nat.zero_le, Nat.reduceLeDiff, Nat.reduceEqDiff, Nat.le_refl, not_false_eq_true, not_true_eq_false, false_implies, true_implies, forall_const, true_and, and_true, if_true, if_false, implies_true, and_self, ne_eq, false_and, and_false, or_false, false_or, true_or, or_true]
            exact ⟨⟨⟨⟨_, rfl⟩, f5, e5, z5⟩, zq0⟩, A05⟩
          · simp (disch := omega) only [q_aload0, q_aload0N, q_invv0, inv_1, q_istore1, q_nop, q_get_i, pTag_1, pRf_s, q_iconst, q_ic_ne, q_ldc_s, q_invv1, q_if_eq, q_istore2, q_iload1, q_if_ne, q_iload2, q_goto, q_zret, e_76_0, e_76_2, e_76_3, e_76_4, e_76_5, L_0, L_1, k_some, k_none, pRm_i, pRm_r, pRm_0, pF_1, pF_2, inv_s, s5.k0, f5, f6, zb_1, nN_le, nN_lt, nN_eq, nN_add, nN_mul, nN_lt0, nN_ge0, nN_gt0, nN_le0, nN_eq0, nN_eq1, nN_neN, pIn_n, pIx_n, eq_self, Nat.reduceLT, Bool.false_eq_true, Nat.add_zero, Nat.zero_add, Nat.reduceAdd, Nat.reduceMul, Nat.reduceSub, Nat.zero_le, Nat.reduceLeDiff, Nat.reduceEqDiff, Nat.le_refl, not_false_eq_true, not_true_eq_false, false_implies, true_implies, forall_const, true_and, and_true, if_true, if_false, implies_true, and_self, ne_eq, false_and, and_false, or_false, false_or, true_or, or_true]
            exact ⟨⟨⟨⟨_, rfl⟩, f5, e5, z5⟩, zq1⟩, A05⟩
        rcases hv with hv | hv <;> rcases hv5 with rfl | rfl
        · simp (disch := omega) only [q_aload0, q_aload0N, q_invv0, inv_1, q_istore1, q_nop, q_get_i, pTag_1, pRf_s, q_iconst, q_ic_ne, q_ldc_s, q_invv1, q_if_eq, q_istore2, q_iload1, q_if_ne, q_iload2, q_goto, q_zret, e_76_0, e_76_2, e_76_3, e_76_4, e_76_5, L_0, L_1, k_some, k_none, pRm_i, pRm_r, pRm_0, pF_1, pF_2, inv_s, hv, nN_le, nN_lt, nN_eq, nN_add, nN_mul, nN_lt0, nN_ge0, nN_gt0, nN_le0, nN_eq0, nN_eq1, nN_neN, pIn_n, pIx_n, eq_self, Nat.reduceLT, Bool.false_eq_true, Nat.add_zero, Nat.zero_add, Nat.reduceAdd, Nat.reduceMul, Nat.reduceSub, Nat.zero_le, Nat.reduceLeDiff, Nat.reduceEqDiff, Nat.le_refl, not_false_eq_true, not_true_eq_false, false_implies, true_implies, forall_const, true_and, and_true, if_true, if_false, implies_true, and_self, ne_eq, false_and, and_false, or_false, false_or, true_or, or_true]
          exact fin _ _ (Or.inl rfl)
        · simp (disch := omega) only [q_aload0, q_aload0N, q_invv0, inv_1, q_istore1, q_nop, q_get_i, pTag_1, pRf_s, q_iconst, q_ic_ne, q_ldc_s, q_invv1, q_if_eq, q_istore2, q_iload1, q_if_ne, q_iload2, q_goto, q_zret, e_76_0, e_76_2, e_76_3, e_76_4, e_76_5, L_0, L_1, k_some, k_none, pRm_i, pRm_r, pRm_0, pF_1, pF_2, inv_s, hv, nN_le, nN_lt, nN_eq, nN_add, nN_mul, nN_lt0, nN_ge0, nN_gt0, nN_le0, nN_eq0, nN_eq1, nN_neN, pIn_n, pIx_n, eq_self, Nat.reduceLT, Bool.false_eq_true, Nat.add_zero, Nat.zero_add, Nat.reduceAdd, Nat.reduceMul, Nat.reduceSub, Nat.zero_le, Nat.reduceLeDiff, Nat.reduceEqDiff, Nat.le_refl, not_false_eq_true, not_true_eq_false, false_implies, true_implies, forall_const, true_and, and_true, if_true, if_false, implies_true, and_self, ne_eq, false_and, and_false, or_false, false_or, true_or, or_true]
          exact fin _ _ (Or.inr rfl)
        · simp (disch := omega) only [q_aload0, q_aload0N, q_invv0, inv_1, q_istore1, q_nop, q_get_i, pTag_1, pRf_s, q_iconst, q_ic_ne, q_ldc_s, q_invv1, q_if_eq, q_istore2, q_iload1, q_if_ne, q_iload2, q_goto, q_zret, e_76_0, e_76_2, e_76_3, e_76_4, e_76_5, L_0, L_1, k_some, k_none, pRm_i, pRm_r, pRm_0, pF_1, pF_2, inv_s, hv, nN_le, nN_lt, nN_eq, nN_add, nN_mul, nN_lt0, nN_ge0, nN_gt0, nN_le0, nN_eq0, nN_eq1, nN_neN, pIn_n, pIx_n, eq_self, Nat.reduceLT, Bool.false_eq_true, Nat.add_zero, Nat.zero_add, Nat.reduceAdd, Nat.reduceMul, Nat.reduceSub, Nat.zero_le, Nat.reduceLeDiff, Nat.reduceEqDiff, Nat.le_refl, not_false_eq_true, not_true_eq_false, false_implies, true_implies, forall_const, true_and, and_true, if_true, if_false, implies_true, and_self, ne_eq, false_and, and_false, or_false, false_or, true_or, or_true]
          exact fin _ _ (Or.inr rfl)
        · simp (disch := omega) only [q_aload0, q_aload0N, q_invv0, inv_1, q_istore1, q_nop, q_get_i, pTag_1, pRf_s, q_iconst, q_ic_ne, q_ldc_s, q_invv1, q_if_eq, q_istore2, q_iload1, q_if_ne, q_iload2, q_goto, q_zret, e_76_0, e_76_2, e_76_3, e_76_4, e_76_5, L_0, L_1, k_some, k_none, pRm_i, pRm_r, pRm_0, pF_1, pF_2, inv_s, hv, nN_le, nN_lt, nN_eq, nN_add, nN_mul, nN_lt0, nN_ge0, nN_gt0, nN_le0, nN_eq0, nN_eq1, nN_neN, pIn_n, pIx_n, eq_self, Nat.reduceLT, Bool.false_eq_true, Nat.add_zero, Nat.zero_add, Nat.reduceAdd, Nat.reduceMul, Nat.reduceSub, Nat.zero_le, Nat.reduceLeDiff, Nat.reduceEqDiff, Nat.le_refl, not_false_eq_true, not_true_eq_false, false_implies, true_implies, forall_const, true_and, and_true, if_true, if_false, implies_true, and_self, ne_eq, false_and, and_false, or_false, false_or, true_or, or_true]
          exact fin _ _ (Or.inr rfl)
      | inr s2 =>
        rw [hc] at h5 hgg hBB
        obtain ⟨⟨rfl, q5, T5⟩, -⟩ := h5
        have h9 := hgg.1.1
        have hv5 : s2.2.2 fv = nN 0 ∨ s2.2.2 fv = nN 1 := hBB
        have g : ∀ x l2, x = sJoin 1014 (s.2.2 fv) (s2.2.2 fv) → (x = nN 0 ∨ x = nN 1) → bw (d + 11) 76 1 ([some (.ref u), some (.int x), l2], [], M5) (fun o M' => MdQ M' u n b dp fv (pCh (th tW n b) (nx9 n b) atm 1014 j (s2.1, s.2.1 ++ s2.2.1 ++ [1014], fun fv => sJoin 1014 (s.2.2 fv) (s2.2.2 fv))) o ∧ Ag (MdY u) M M') := by
          intro x l2 hx hx2
          have g := ih (s2.1, s.2.1 ++ s2.2.1 ++ [1014], fun fv => sJoin 1014 (s.2.2 fv) (s2.2.2 fv)) M5 q5 l2 (by show n < j + s2.1; omega) T5 (by show sJoin 1014 (s.2.2 fv) (s2.2.2 fv) = _ ∨ sJoin 1014 (s.2.2 fv) (s2.2.2 fv) = _; rw [← hx]; exact hx2) A05
          rw [hx]
          exact g
        rcases hv with hv | hv <;> rcases hv5 with hv5 | hv5
        · simp (disch := omega) only [q_aload0, q_aload0N, q_invv0, inv_1, q_istore1, q_nop, q_get_i, pTag_1, pRf_s, q_iconst, q_ic_ne, q_ldc_s, q_invv1, q_if_eq, q_istore2, q_iload1, q_if_ne, q_iload2, q_goto, q_zret, e_76_0, e_76_2, e_76_3, e_76_4, e_76_5, L_0, L_1, k_some, k_none, pRm_i, pRm_r, pRm_0, pF_1, pF_2, inv_s, hv, hv5, nN_le, nN_lt, nN_eq, nN_add, nN_mul, nN_lt0, nN_ge0, nN_gt0, nN_le0, nN_eq0, nN_eq1, nN_neN, pIn_n, pIx_n, eq_self, Nat.reduceLT, Bool.false_eq_true, Nat.add_zero, Nat.zero_add, Nat.reduceAdd, Nat.reduceMul, Nat.reduceSub, Nat.zero_le, Nat.reduceLeDiff, Nat.reduceEqDiff, Nat.le_refl, not_false_eq_true, not_true_eq_false, false_implies, true_implies, forall_const, true_and, and_true, if_true, if_false, implies_true, and_self, ne_eq, false_and, and_false, or_false, false_or, true_or, or_true]
          exact g _ _ (by rw [hv, hv5]; decide +kernel) (Or.inl rfl)
        · simp (disch := omega) only [q_aload0, q_aload0N, q_invv0, inv_1, q_istore1, q_nop, q_get_i, pTag_1, pRf_s, q_iconst, q_ic_ne, q_ldc_s, q_invv1, q_if_eq, q_istore2, q_iload1, q_if_ne, q_iload2, q_goto, q_zret, e_76_0, e_76_2, e_76_3, e_76_4, e_76_5, L_0, L_1, k_some, k_none, pRm_i, pRm_r, pRm_0, pF_1, pF_2, inv_s, hv, hv5, nN_le, nN_lt, nN_eq, nN_add, nN_mul, nN_lt0, nN_ge0, nN_gt0, nN_le0, nN_eq0, nN_eq1, nN_neN, pIn_n, pIx_n, eq_self, Nat.reduceLT, Bool.false_eq_true, Nat.add_zero, Nat.zero_add, Nat.reduceAdd, Nat.reduceMul, Nat.reduceSub, Nat.zero_le, Nat.reduceLeDiff, Nat.reduceEqDiff, Nat.le_refl, not_false_eq_true, not_true_eq_false, false_implies, true_implies, forall_const, true_and, and_true, if_true, if_false, implies_true, and_self, ne_eq, false_and, and_false, or_false, false_or, true_or, or_true]
          exact g _ _ (by rw [hv, hv5]; decide +kernel) (Or.inr rfl)
        · simp (disch := omega) only [q_aload0, q_aload0N, q_invv0, inv_1, q_istore1, q_nop, q_get_i, pTag_1, pRf_s, q_iconst, q_ic_ne, q_ldc_s, q_invv1, q_if_eq, q_istore2, q_iload1, q_if_ne, q_iload2, q_goto, q_zret, e_76_0, e_76_2, e_76_3, e_76_4, e_76_5, L_0, L_1, k_some, k_none, pRm_i, pRm_r, pRm_0, pF_1, pF_2, inv_s, hv, hv5, nN_le, nN_lt, nN_eq, nN_add, nN_mul, nN_lt0, nN_ge0, nN_gt0, nN_le0, nN_eq0, nN_eq1, nN_neN, pIn_n, pIx_n, eq_self, Nat.reduceLT, Bool.false_eq_true, Nat.add_zero, Nat.zero_add, Nat.reduceAdd, Nat.reduceMul, Nat.reduceSub, Nat.zero_le, Nat.reduceLeDiff, Nat.reduceEqDiff, Nat.le_refl, not_false_eq_true, not_true_eq_false, false_implies, true_implies, forall_const, true_and, and_true, if_true, if_false, implies_true, and_self, ne_eq, false_and, and_false, or_false, false_or, true_or, or_true]
          exact g _ _ (by rw [hv, hv5]; decide +kernel) (Or.inr rfl)
        · simp (disch := omega) only [q_aload0, q_aload0N, q_invv0, inv_1, q_istore1, q_nop, q_get_i, pTag_1, pRf_s, q_iconst, q_ic_ne, q_ldc_s, q_invv1, q_if_eq, q_istore2, q_iload1, q_if_ne, q_iload2, q_goto, q_zret, e_76_0, e_76_2, e_76_3, e_76_4, e_76_5, L_0, L_1, k_some, k_none, pRm_i, pRm_r, pRm_0, pF_1, pF_2, inv_s, hv, hv5, nN_le, nN_lt, nN_eq, nN_add, nN_mul, nN_lt0, nN_ge0, nN_gt0, nN_le0, nN_eq0, nN_eq1, nN_neN, pIn_n, pIx_n, eq_self, Nat.reduceLT, Bool.false_eq_true, Nat.add_zero, Nat.zero_add, Nat.reduceAdd, Nat.reduceMul, Nat.reduceSub, Nat.zero_le, Nat.reduceLeDiff, Nat.reduceEqDiff, Nat.le_refl, not_false_eq_true, not_true_eq_false, false_implies, true_implies, forall_const, true_and, and_true, if_true, if_false, implies_true, and_self, ne_eq, false_and, and_false, or_false, false_or, true_or, or_true]
          exact g _ _ (by rw [hv, hv5]; decide +kernel) (Or.inr rfl)
    · rw [if_neg (show ¬ th tW n b s.1 = 1000 + 14 from c)] at h3
      rw [if_neg c]
      obtain ⟨rfl, h3⟩ := h3
      have T3 := h.st A3 X9_10 h3
      have hq : MdQ M3 u n b dp fv (.inr s) (.inl (some (.int (s.2.2 fv)))) := ⟨⟨rfl, s.1, T3⟩, _, rfl, hv⟩
      have hz : (s.2.2 fv = 0 ∨ s.2.2 fv = 1) = True := by
        rcases hv with hv | hv
        · rw [hv]; exact zb_0
        · rw [hv]; exact zb_1
      simp (disch := omega) only [q_aload0, q_aload0N, q_invv0, inv_1, q_istore1, q_nop, q_get_i, pTag_1, pRf_s, q_iconst, q_ic_ne, q_ldc_s, q_invv1, q_if_eq, q_istore2, q_iload1, q_if_ne, q_iload2, q_goto, q_zret, e_76_0, e_76_2, e_76_3, e_76_4, e_76_5, L_0, L_1, k_some, k_none, pRm_i, pRm_r, pRm_0, pF_1, pF_2, inv_s, zb_0, hz, T3.sd.sh.k0, nN_le, nN_lt, nN_eq, nN_add, nN_mul, nN_lt0, nN_ge0, nN_gt0, nN_le0, nN_eq0, nN_eq1, nN_neN, pIn_n, pIx_n, eq_self, Nat.reduceLT, Bool.false_eq_true, Nat.add_zero, Nat.zero_add, Nat.reduceAdd, Nat.reduceMul, Nat.reduceSub, Nat.zero_le, Nat.reduceLeDiff, Nat.reduceEqDiff, Nat.le_refl, not_false_eq_true, not_true_eq_false, false_implies, true_implies, forall_const, true_and, and_true, if_true, if_false, implies_true, and_self, ne_eq, false_and, and_false, or_false, false_or, true_or, or_true]
      exact ⟨hq, A03⟩
theorem w_someM0 (ha : ∀ (M : pMem) (q p : Nat), MdT M u n b dp fv q p → mw (d + 11) 75 [.ref u] M (fun o M' => MdQ M' u n b dp fv (atm p) o ∧ Ag (MdY u) M M'))
    (hg : ∀ q, q ≤ n → (q = n ∨ (q < n ∧ isB b q = true)) → Gd n b K q (atm q)) (hB : ∀ q, pB fv (atm q)) (h : MdT M u n b dp fv q p) :
    mw (d + 12) 76 [.ref u] M (fun o M' => MdQ M' u n b dp fv (pThen (atm p) fun s => pCh (th tW n b) (nx9 n b) atm 1014 400 s) o ∧ Ag (MdY u) M M') := by
  have hpn := h.sd.ple.2
  have hn := h.sd.n9
  simp (disch := omega) only [m_76, q_aload0, q_aload0N, q_invv0, inv_1, q_istore1, q_nop, q_get_i, pTag_1, pRf_s, q_iconst, q_ic_ne, q_ldc_s, q_invv1, q_if_eq, q_istore2, q_iload1, q_if_ne, q_iload2, q_goto, q_zret, e_76_0, L_0, L_1, k_some, k_none, pRm_i, pRm_r, pRm_0, pF_1, pF_2, inv_s, h.sd.sh.k0, nN_le, nN_lt, nN_eq, nN_add, nN_mul, nN_lt0, nN_ge0, nN_gt0, nN_le0, nN_eq0, nN_eq1, nN_neN, pIn_n, pIx_n, eq_self, Nat.reduceLT, Bool.false_eq_true, Nat.add_zero, Nat.zero_add, Nat.reduceAdd, Nat.reduceMul, Nat.reduceSub, Nat.zero_le, Nat.reduceLeDiff, Nat.reduceEqDiff, Nat.le_refl, not_false_eq_true, not_true_eq_false, false_implies, true_implies, forall_const, true_and, and_true, if_true, if_false, implies_true, and_self, ne_eq, false_and, and_false, or_false, false_or, true_or, or_true]
  refine mw_mono (ha M q p h) ?_
  rintro o M1 ⟨h1, A1⟩
  have s1 : ShM (gS M1) (gP M1) u := by rw [A1.S, A1.P]; exact h.sd.sh
  have hgg := hg p hpn h.sd.at9
  have hBB := hB p
  cases hc : atm p with
  | inl e =>
    rw [hc] at h1
    obtain ⟨⟨-, f5, e5, z5⟩, v5, rfl, hv5⟩ := h1
    have f6 := nN_ft e5
    simp (disch := omega) only [q_aload0, q_aload0N, q_invv0, inv_1, q_istore1, q_nop, q_get_i, pTag_1, pRf_s, q_iconst, q_ic_ne, q_ldc_s, q_invv1, q_if_eq, q_istore2, q_iload1, q_if_ne, q_iload2, q_goto, q_zret, e_76_0, L_0, L_1, k_some, k_none, pRm_i, pRm_r, pRm_0, pF_1, pF_2, inv_s, nN_le, nN_lt, nN_eq, nN_add, nN_mul, nN_lt0, nN_ge0, nN_gt0, nN_le0, nN_eq0, nN_eq1, nN_neN, pIn_n, pIx_n, eq_self, Nat.reduceLT, Bool.false_eq_true, Nat.add_zero, Nat.zero_add, Nat.reduceAdd, Nat.reduceMul, Nat.reduceSub, Nat.zero_le, Nat.reduceLeDiff, Nat.reduceEqDiff, Nat.le_refl, not_false_eq_true, not_true_eq_false, false_implies, true_implies, forall_const, true_and, and_true, if_true, if_false, implies_true, and_self, ne_eq, false_and, and_false, or_false, false_or, true_or, or_true]
    rw [e_76_1]
    rcases hv5 with rfl | rfl
    · simp (disch := omega) only [q_aload0, q_aload0N, q_invv0, inv_1, q_istore1, q_nop, q_get_i, pTag_1, pRf_s, q_iconst, q_ic_ne, q_ldc_s, q_invv1, q_if_eq, q_istore2, q_iload1, q_if_ne, q_iload2, q_goto, q_zret, e_76_0, e_76_2, e_76_3, e_76_4, e_76_5, L_0, L_1, k_some, k_none, pRm_i, pRm_r, pRm_0, pF_1, pF_2, inv_s, s1.k0, f5, f6, zb_0, nN_le, nN_lt, nN_eq, nN_add, nN_mul, nN_lt0, nN_ge0, nN_gt0, nN_le0, nN_eq0, nN_eq1, nN_neN, pIn_n, pIx_n, eq_self, Nat.reduceLT, Bool.false_eq_true, Nat.add_zero, Nat.zero_add, Nat.reduceAdd, Nat.reduceMul, Nat.reduceSub, Nat.zero_le, Nat.reduceLeDiff, Nat.reduceEqDiff, Nat.le_refl, not_false_eq_true, not_true_eq_false, false_implies, true_implies, forall_const, true_and, and_true, if_true, if_false, implies_true, and_self, ne_eq, false_and, and_false, or_false, false_or, true_or, or_true]
      exact ⟨⟨⟨⟨_, rfl⟩, f5, e5, z5⟩, zq0⟩, A1⟩
    · simp (disch := omega) only [q_aload0, q_aload0N, q_invv0, inv_1, q_istore1, q_nop, q_get_i, pTag_1, pRf_s, q_iconst, q_ic_ne, q_ldc_s, q_invv1, q_if_eq, q_istore2, q_iload1, q_if_ne, q_iload2, q_goto, q_zret, e_76_0, e_76_2, e_76_3, e_76_4, e_76_5, L_0, L_1, k_some, k_none, pRm_i, pRm_r, pRm_0, pF_1, pF_2, inv_s, s1.k0, f5, f6, zb_1, nN_le, nN_lt, nN_eq, nN_add, nN_mul, nN_lt0, nN_ge0, nN_gt0, nN_le0, nN_eq0, nN_eq1, nN_neN, pIn_n, pIx_n, eq_self, Nat.reduceLT, Bool.false_eq_true, Nat.add_zero, Nat.zero_add, Nat.reduceAdd, Nat.reduceMul, Nat.reduceSub, Nat.zero_le, Nat.reduceLeDiff, Nat.reduceEqDiff, Nat.le_refl, not_false_eq_true, not_true_eq_false, false_implies, true_implies, forall_const, true_and, and_true, if_true, if_false, implies_true, and_self, ne_eq, false_and, and_false, or_false, false_or, true_or, or_true]
      exact ⟨⟨⟨⟨_, rfl⟩, f5, e5, z5⟩, zq1⟩, A1⟩
  | inr s =>
    rw [hc] at h1 hgg hBB
    obtain ⟨⟨rfl, q5, T5⟩, -⟩ := h1
    have h9 := hgg.1.1
    simp (disch := omega) only [q_aload0, q_aload0N, q_invv0, inv_1, q_istore1, q_nop, q_get_i, pTag_1, pRf_s, q_iconst, q_ic_ne, q_ldc_s, q_invv1, q_if_eq, q_istore2, q_iload1, q_if_ne, q_iload2, q_goto, q_zret, e_76_0, L_0, L_1, k_some, k_none, pRm_i, pRm_r, pRm_0, pF_1, pF_2, inv_s, nN_le, nN_lt, nN_eq, nN_add, nN_mul, nN_lt0, nN_ge0, nN_gt0, nN_le0, nN_eq0, nN_eq1, nN_neN, pIn_n, pIx_n, eq_self, Nat.reduceLT, Bool.false_eq_true, Nat.add_zero, Nat.zero_add, Nat.reduceAdd, Nat.reduceMul, Nat.reduceSub, Nat.zero_le, Nat.reduceLeDiff, Nat.reduceEqDiff, Nat.le_refl, not_false_eq_true, not_true_eq_false, false_implies, true_implies, forall_const, true_and, and_true, if_true, if_false, implies_true, and_self, ne_eq, false_and, and_false, or_false, false_or, true_or, or_true]
    exact w_soLoop ha hg hB 400 s M1 q5 _ (by omega) T5 hBB A1
theorem w_someM (ha : ∀ (M : pMem) (q p : Nat), MdT M u n b dp fv q p → mw (d + 10) 74 [.ref u] M (fun o M' => MdQ M' u n b dp fv (atm p) o ∧ Ag (MdY u) M M'))
    (hg : ∀ q, q ≤ n → (q = n ∨ (q < n ∧ isB b q = true)) → Gd n b K q (atm q)) (hB : ∀ q, pB fv (atm q)) (h : MdT M u n b dp fv q p) :
    mw (d + 12) 76 [.ref u] M (fun o M' => MdQ M' u n b dp fv (pSo (th tW n b) (nx9 n b) 400 atm p) o ∧ Ag (MdY u) M M') :=
  w_someM0 (K := K + 1) (fun M q p h => w_everyM ha hg hB h) (fun q h1 h2 => Gd_ev hg h1 h2) (pB_ev hB) h
end EV
