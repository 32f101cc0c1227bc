/-! LINES AND TEXTS OF TEMPERS, in the law's model -/
def MdV (u h k : Nat) : Prop := MdY u h k ∨ h = u ∧ k = 17
def MdL (M M' : pMem) (u n : Nat) (b : Nat → Nat) (fv : Nat → Int32) (t : Nat) (r : pZ) (o : pOut) : Prop := o = .inl none ∧ match r with
  | .inl e => gI M' u 10 = nN e ∧ e < 1000 ∧ AtB M' u (n + 7)
  | .inr s => (∃ q, MdT M' u n b 0 fv q s.1) ∧ gI M' u 17 = if gI M u 17 = iN (-1) ∧ s.2.2 fv = nN 1 then (if t = 1009 then nN 1 else nN 0) else gI M u 17
section LM
variable {d n u p q k m c sr i dp K : Nat} {b : Nat → Nat} {fv : Nat → Int32} {M M1 M' : pMem} {Q : pOut → pMem → Prop} {x y : Int32} {atm : Nat → pZ}
theorem MdV_Y : ∀ h k, MdY u h k → MdV u h k := fun _ _ z => Or.inl z
theorem MdV_9 : ∀ h k, (h = u ∧ k = 9) → MdV u h k := fun _ _ z => Or.inl (MdY_9 _ _ z)
theorem MdT.says (h : MdT M u n b dp fv q p) : MdT (sI M u 17 x) u n b dp fv q p := by
  have A : Ag (fun h k => h = u ∧ k = 17) M (sI M u 17 x) := Ag.one ⟨rfl, rfl⟩
  exact MdT.mk (h.sd.keep A (fun k _ _ => by omega) (fun k => by omega) (fun k => by omega)) (by rw [gI_sI, if_neg (by omega)]; exact h.de) ⟨fun i hi => by rw [gI_sI, if_neg (by omega)]; exact h.fs.1 i hi, by rw [gI_sI, if_neg (by omega)]; exact h.fs.2.1, by rw [gI_sI, if_neg (by omega)]; exact h.fs.2.2.1, by rw [gI_sI, if_neg (by omega)]; exact h.fs.2.2.2⟩
theorem w_lineM (hb : Bl fv) (h : MdT M u n b 0 fv q p) : mw (d + 32) 77 [.ref u] M (fun o M' => MdL M M' u n b fv (th tW n b p) (pLine (th tW n b) (nx9 n b) 400 p) o ∧ Ag (MdV u) M M') := by
  have hn := h.sd.n9
  have hpn := h.sd.ple.2
  have n17 : ∀ k, k = 17 → ¬ (k = 9 ∨ k = 10 ∨ k = 11) := by omega
  -- how it ends
  have fin : ∀ (M3 : pMem) (s : pY) (q3 : Nat) (l1 : Int32), MdT M3 u n b 0 fv q3 s.1 → Ag (MdY u) M M3 → (s.2.2 fv = nN 0 ∨ s.2.2 fv = nN 1) → (l1 = nN 1 ∧ th tW n b p = 1009 ∨ l1 = nN 0 ∧ ¬ th tW n b p = 1009) → bw (d + 31) 77 4 ([some (.ref u), some (.int l1), none], [.int (s.2.2 fv)], M3) (fun o M' => MdL M M' u n b fv (th tW n b p) (.inr s) o ∧ Ag (MdV u) M M') := by
    intro M3 s q3 l1 T3 A3 hv hl
    have f3 := T3.sd.ft
    have s17 : gI M3 u 17 = gI M u 17 := A3.I (by rintro ⟨-, z⟩; omega)
    have A9 : Ag (MdV u) M M3 := A3.mono MdV_Y
    rw [e_77_4]
    rcases hv with hv | hv
    · have e0 : ¬ nN 0 = nN 1 := by decide +kernel
      simp (disch := omega) only [q_aload0, q_aload0N, q_ldc_s, q_invv1, inv_1, q_istore1, q_iload1, q_if_ne, q_get_i, pTag_1, pRf_s, q_vret, q_if_eq, q_invv0, q_nop, q_iconst, q_goto, q_istore2, q_ic_ne, q_iload2, q_put_i, e_77_7, L_0, L_1, k_some, k_none, pRm_i, pRm_r, pRm_0, pF_1, pF_2, inv_s, T3.sd.sh.k0, f3, hv, nN_le, nN_lt, nN_eq, nN_add, nN_mul, nN_lt0, nN_ge0, nN_gt0, nN_le0, nN_eq0, nN_eq1, nN_neN, pIn_n, pIx_n, eq_self, Nat.reduceLT, Bool.false_eq_true, Nat.add_zero, Nat.zero_add, Nat.reduceAdd, Nat.reduceMul, Nat.reduceSub, Nat.zero_le, Nat.reduceLeDiff, Nat.reduceEqDiff, Nat.le_refl, not_false_eq_true, not_true_eq_false, false_implies, true_implies, forall_const, true_and, and_true, if_true, if_false, implies_true, and_self, ne_eq, false_and, and_false, or_false, false_or, true_or, or_true]
      refine ⟨⟨rfl, ⟨q3, T3⟩, ?_⟩, A9⟩
      rw [if_neg (fun z => e0 (hv.symm.trans z.2)), s17]
    · by_cases c : gI M3 u 17 = iN (-1)
      · have go : ∀ (x : Int32), x = (if th tW n b p = 1009 then nN 1 else nN 0) → bw (d + 31) 77 6 ([some (.ref u), some (.int l1), some (.int (nN 1))], [.int x, .ref u], M3) (fun o M' => MdL M M' u n b fv (th tW n b p) (.inr s) o ∧ Ag (MdV u) M M') := by
          intro x hx
          rw [e_77_6]
          simp (disch := omega) only [q_aload0, q_aload0N, q_ldc_s, q_invv1, inv_1, q_istore1, q_iload1, q_if_ne, q_get_i, pTag_1, pRf_s, q_vret, q_if_eq, q_invv0, q_nop, q_iconst, q_goto, q_istore2, q_ic_ne, q_iload2, q_put_i, e_77_7, L_0, L_1, k_some, k_none, pRm_i, pRm_r, pRm_0, pF_1, pF_2, inv_s, T3.sd.sh.k0, nN_le, nN_lt, nN_eq, nN_add, nN_mul, nN_lt0, nN_ge0, nN_gt0, nN_le0, nN_eq0, nN_eq1, nN_neN, pIn_n, pIx_n, eq_self, Nat.reduceLT, Bool.false_eq_true, Nat.add_zero, Nat.zero_add, Nat.reduceAdd, Nat.reduceMul, Nat.reduceSub, Nat.zero_le, Nat.reduceLeDiff, Nat.reduceEqDiff, Nat.le_refl, not_false_eq_true, not_true_eq_false, false_implies, true_implies, forall_const, true_and, and_true, if_true, if_false, implies_true, and_self, ne_eq, false_and, and_false, or_false, false_or, true_or, or_true]
          refine ⟨⟨rfl, ⟨q3, T3.says⟩, ?_⟩, A9.put (Or.inr ⟨rfl, rfl⟩)⟩
          rw [if_pos ⟨s17.symm.trans c, hv⟩, gI_sI, if_pos ⟨rfl, rfl⟩, hx]
        rcases hl with ⟨rfl, hl⟩ | ⟨rfl, hl⟩
        · simp (disch := omega) only [q_aload0, q_aload0N, q_ldc_s, q_invv1, inv_1, q_istore1, q_iload1, q_if_ne, q_get_i, pTag_1, pRf_s, q_vret, q_if_eq, q_invv0, q_nop, q_iconst, q_goto, q_istore2, q_ic_ne, q_iload2, q_put_i, e_77_5, e_77_7, L_0, L_1, k_some, k_none, pRm_i, pRm_r, pRm_0, pF_1, pF_2, inv_s, T3.sd.sh.k0, f3, hv, c, nN_le, nN_lt, nN_eq, nN_add, nN_mul, nN_lt0, nN_ge0, nN_gt0, nN_le0, nN_eq0, nN_eq1, nN_neN, pIn_n, pIx_n, eq_self, Nat.reduceLT, Bool.false_eq_true, Nat.add_zero, Nat.zero_add, Nat.reduceAdd, Nat.reduceMul, Nat.reduceSub, Nat.zero_le, Nat.reduceLeDiff, Nat.reduceEqDiff, Nat.le_refl, not_false_eq_true, not_true_eq_false, false_implies, true_implies, forall_const, true_and, and_true, if_true, if_false, implies_true, and_self, ne_eq, false_and, and_false, or_false, false_or, true_or, or_true]
          exact go _ (by rw [if_pos hl])
        · simp (disch := omega) only [q_aload0, q_aload0N, q_ldc_s, q_invv1, inv_1, q_istore1, q_iload1, q_if_ne, q_get_i, pTag_1, pRf_s, q_vret, q_if_eq, q_invv0, q_nop, q_iconst, q_goto, q_istore2, q_ic_ne, q_iload2, q_put_i, e_77_5, e_77_7, L_0, L_1, k_some, k_none, pRm_i, pRm_r, pRm_0, pF_1, pF_2, inv_s, T3.sd.sh.k0, f3, hv, c, nN_le, nN_lt, nN_eq, nN_add, nN_mul, nN_lt0, nN_ge0, nN_gt0, nN_le0, nN_eq0, nN_eq1, nN_neN, pIn_n, pIx_n, eq_self, Nat.reduceLT, Bool.false_eq_true, Nat.add_zero, Nat.zero_add, Nat.reduceAdd, Nat.reduceMul, Nat.reduceSub, Nat.zero_le, Nat.reduceLeDiff, Nat.reduceEqDiff, Nat.le_refl, not_false_eq_true, not_true_eq_false, false_implies, true_implies, forall_const, true_and, and_true, if_true, if_false, implies_true, and_self, ne_eq, false_and, and_false, or_false, false_or, true_or, or_true]
          exact go _ (by rw [if_neg hl])
      · simp (disch := omega) only [q_aload0, q_aload0N, q_ldc_s, q_invv1, inv_1, q_istore1, q_iload1, q_if_ne, q_get_i, pTag_1, pRf_s, q_vret, q_if_eq, q_invv0, q_nop, q_iconst, q_goto, q_istore2, q_ic_ne, q_iload2, q_put_i, e_77_7, L_0, L_1, k_some, k_none, pRm_i, pRm_r, pRm_0, pF_1, pF_2, inv_s, T3.sd.sh.k0, f3, hv, c, nN_le, nN_lt, nN_eq, nN_add, nN_mul, nN_lt0, nN_ge0, nN_gt0, nN_le0, nN_eq0, nN_eq1, nN_neN, pIn_n, pIx_n, eq_self, Nat.reduceLT, Bool.false_eq_true, Nat.add_zero, Nat.zero_add, Nat.reduceAdd, Nat.reduceMul, Nat.reduceSub, Nat.zero_le, Nat.reduceLeDiff, Nat.reduceEqDiff, Nat.le_refl, not_false_eq_true, not_true_eq_false, false_implies, true_implies, forall_const, true_and, and_true, if_true, if_false, implies_true, and_self, ne_eq, false_and, and_false, or_false, false_or, true_or, or_true]
        refine ⟨⟨rfl, ⟨q3, T3⟩, ?_⟩, A9⟩
        rw [if_neg (fun z => c (s17.trans z.1)), s17]
  -- behind the verdict
  have go1 : ∀ (M2 : pMem) (q2 : Nat) (l1 : Int32), (th tW n b p = 1009 ∨ th tW n b p = 1010) → MdT M2 u n b 0 fv q2 (nx9 n b p) → Ag (MdY u) M M2 → (l1 = nN 1 ∧ th tW n b p = 1009 ∨ l1 = nN 0 ∧ ¬ th tW n b p = 1009) → bw (d + 31) 77 1 ([some (.ref u), some (.int l1), none], [], M2) (fun o M' => MdL M M' u n b fv (th tW n b p) (if th tW n b (nx9 n b p) = 1011 then pThen (pSo (th tW n b) (nx9 n b) 400 (pAtom (th tW n b) (nx9 n b) 400 6) (nx9 n b (nx9 n b p))) (fun s => .inr (s.1, s.2.1 ++ [th tW n b p], s.2.2)) else .inr (nx9 n b p, [1, th tW n b p], fun _ => nN 1)) o ∧ Ag (MdV u) M M') := by
    intro M2 q2 l1 ht T2 A2 hl
    rw [e_77_1]
    simp (disch := omega) only [q_aload0, q_aload0N, q_ldc_s, q_invv1, inv_1, q_istore1, q_iload1, q_if_ne, q_get_i, pTag_1, pRf_s, q_vret, q_if_eq, q_invv0, q_nop, q_iconst, q_goto, q_istore2, q_ic_ne, q_iload2, q_put_i, e_77_7, L_0, L_1, k_some, k_none, pRm_i, pRm_r, pRm_0, pF_1, pF_2, inv_s, T2.sd.sh.k0, nN_le, nN_lt, nN_eq, nN_add, nN_mul, nN_lt0, nN_ge0, nN_gt0, nN_le0, nN_eq0, nN_eq1, nN_neN, pIn_n, pIx_n, eq_self, Nat.reduceLT, Bool.false_eq_true, Nat.add_zero, Nat.zero_add, Nat.reduceAdd, Nat.reduceMul, Nat.reduceSub, Nat.zero_le, Nat.reduceLeDiff, Nat.reduceEqDiff, Nat.le_refl, not_false_eq_true, not_true_eq_false, false_implies, true_implies, forall_const, true_and, and_true, if_true, if_false, implies_true, and_self, ne_eq, false_and, and_false, or_false, false_or, true_or, or_true]
    refine mw_mono (w_hasT (i := 11) T2.sd (by omega) rfl) ?_
    rintro o3 M3 ⟨h3, A3⟩
    have A03 := A2.trans (A3.mono MdY_9)
    by_cases c : th tW n b (nx9 n b p) = 1011
    · rw [if_pos (show th tW n b (nx9 n b p) = 1000 + 11 from c)] at h3
      obtain ⟨rfl, h3⟩ := h3
      have T3 := T2.st A3 X9_10 h3
      rw [if_pos c]
      simp (disch := omega) only [q_aload0, q_aload0N, q_ldc_s, q_invv1, inv_1, q_istore1, q_iload1, q_if_ne, q_get_i, pTag_1, pRf_s, q_vret, q_if_eq, q_invv0, q_nop, q_iconst, q_goto, q_istore2, q_ic_ne, q_iload2, q_put_i, e_77_7, L_0, L_1, k_some, k_none, pRm_i, pRm_r, pRm_0, pF_1, pF_2, inv_s, zb_1, T3.sd.sh.k0, nN_le, nN_lt, nN_eq, nN_add, nN_mul, nN_lt0, nN_ge0, nN_gt0, nN_le0, nN_eq0, nN_eq1, nN_neN, pIn_n, pIx_n, eq_self, Nat.reduceLT, Bool.false_eq_true, Nat.add_zero, Nat.zero_add, Nat.reduceAdd, Nat.reduceMul, Nat.reduceSub, Nat.zero_le, Nat.reduceLeDiff, Nat.reduceEqDiff, Nat.le_refl, not_false_eq_true, not_true_eq_false, false_implies, true_implies, forall_const, true_and, and_true, if_true, if_false, implies_true, and_self, ne_eq, false_and, and_false, or_false, false_or, true_or, or_true]
      refine mw_mono (w_someM (d := d + 19) (K := 3 + 2 * 6) (atm := pAtom (th tW n b) (nx9 n b) 400 6) (dp := 0) (fun M q p h => w_atomM hb 6 (d + 1) q p M (by omega) h) (fun q h1 h2 => Gd_atom 6 q h1 h2) (pB_atom hb 6) T3) ?_
      rintro o M4 ⟨⟨h4, v, rfl, hv⟩, A4⟩
      have s4 : ShM (gS M4) (gP M4) u := by rw [A4.S, A4.P]; exact T3.sd.sh
      have A04 := A03.trans A4
      cases hc : pSo (th tW n b) (nx9 n b) 400 (pAtom (th tW n b) (nx9 n b) 400 6) (nx9 n b (nx9 n b p)) with
      | inl e =>
        rw [hc] at h4
        obtain ⟨-, f4, e4, z4⟩ := h4
        have f5 := nN_ft e4
        rcases hv with rfl | rfl
        · simp (disch := omega) only [q_aload0, q_aload0N, q_ldc_s, q_invv1, inv_1, q_istore1, q_iload1, q_if_ne, q_get_i, pTag_1, pRf_s, q_vret, q_if_eq, q_invv0, q_nop, q_iconst, q_goto, q_istore2, q_ic_ne, q_iload2, q_put_i, e_77_3, e_77_4, e_77_7, L_0, L_1, k_some, k_none, pRm_i, pRm_r, pRm_0, pF_1, pF_2, inv_s, s4.k0, f4, f5, nN_le, nN_lt, nN_eq, nN_add, nN_mul, nN_lt0, nN_ge0, nN_gt0, nN_le0, nN_eq0, nN_eq1, nN_neN, pIn_n, pIx_n, eq_self, Nat.reduceLT, Bool.false_eq_true, Nat.add_zero, Nat.zero_add, Nat.reduceAdd, Nat.reduceMul, Nat.reduceSub, Nat.zero_le, Nat.reduceLeDiff, Nat.reduceEqDiff, Nat.le_refl, not_false_eq_true, not_true_eq_false, false_implies, true_implies, forall_const, true_and, and_true, if_true, if_false, implies_true, and_self, ne_eq, false_and, and_false, or_false, false_or, true_or, or_true]
          exact ⟨⟨rfl, f4, e4, z4⟩, A04.mono MdV_Y⟩
        · simp (disch := omega) only [q_aload0, q_aload0N, q_ldc_s, q_invv1, inv_1, q_istore1, q_iload1, q_if_ne, q_get_i, pTag_1, pRf_s, q_vret, q_if_eq, q_invv0, q_nop, q_iconst, q_goto, q_istore2, q_ic_ne, q_iload2, q_put_i, e_77_2, e_77_4, e_77_7, L_0, L_1, k_some, k_none, pRm_i, pRm_r, pRm_0, pF_1, pF_2, inv_s, s4.k0, f4, f5, nN_le, nN_lt, nN_eq, nN_add, nN_mul, nN_lt0, nN_ge0, nN_gt0, nN_le0, nN_eq0, nN_eq1, nN_neN, pIn_n, pIx_n, eq_self, Nat.reduceLT, Bool.false_eq_true, Nat.add_zero, Nat.zero_add, Nat.reduceAdd, Nat.reduceMul, Nat.reduceSub, Nat.zero_le, Nat.reduceLeDiff, Nat.reduceEqDiff, Nat.le_refl, not_false_eq_true, not_true_eq_false, false_implies, true_implies, forall_const, true_and, and_true, if_true, if_false, implies_true, and_self, ne_eq, false_and, and_false, or_false, false_or, true_or, or_true]
          exact ⟨⟨rfl, f4, e4, z4⟩, A04.mono MdV_Y⟩
      | inr s =>
        rw [hc] at h4
        obtain ⟨h5, q4, T4⟩ := h4
        have h6 : v = s.2.2 fv := by injection h5 with h5; injection h5 with h5; injection h5
        have g := fin M4 (s.1, s.2.1 ++ [th tW n b p], s.2.2) q4 l1 T4 A04 (by show s.2.2 fv = _ ∨ s.2.2 fv = _; rw [← h6]; exact hv) hl
        dsimp only at g
        rw [← h6] at g
        rcases hv with rfl | rfl
        · simp (disch := omega) only [q_aload0, q_aload0N, q_ldc_s, q_invv1, inv_1, q_istore1, q_iload1, q_if_ne, q_get_i, pTag_1, pRf_s, q_vret, q_if_eq, q_invv0, q_nop, q_iconst, q_goto, q_istore2, q_ic_ne, q_iload2, q_put_i, e_77_3, e_77_7, L_0, L_1, k_some, k_none, pRm_i, pRm_r, pRm_0, pF_1, pF_2, inv_s, nN_le, nN_lt, nN_eq, nN_add, nN_mul, nN_lt0, nN_ge0, nN_gt0, nN_le0, nN_eq0, nN_eq1, nN_neN, pIn_n, pIx_n, eq_self, Nat.reduceLT, Bool.false_eq_true, Nat.add_zero, Nat.zero_add, Nat.reduceAdd, Nat.reduceMul, Nat.reduceSub, Nat.zero_le, Nat.reduceLeDiff, Nat.reduceEqDiff, Nat.le_refl, not_false_eq_true, not_true_eq_false, false_implies, true_implies, forall_const, true_and, and_true, if_true, if_false, implies_true, and_self, ne_eq, false_and, and_false, or_false, false_or, true_or, or_true]
          exact g
        · simp (disch := omega) only [q_aload0, q_aload0N, q_ldc_s, q_invv1, inv_1, q_istore1, q_iload1, q_if_ne, q_get_i, pTag_1, pRf_s, q_vret, q_if_eq, q_invv0, q_nop, q_iconst, q_goto, q_istore2, q_ic_ne, q_iload2, q_put_i, e_77_2, e_77_7, L_0, L_1, k_some, k_none, pRm_i, pRm_r, pRm_0, pF_1, pF_2, inv_s, nN_le, nN_lt, nN_eq, nN_add, nN_mul, nN_lt0, nN_ge0, nN_gt0, nN_le0, nN_eq0, nN_eq1, nN_neN, pIn_n, pIx_n, eq_self, Nat.reduceLT, Bool.false_eq_true, Nat.add_zero, Nat.zero_add, Nat.reduceAdd, Nat.reduceMul, Nat.reduceSub, Nat.zero_le, Nat.reduceLeDiff, Nat.reduceEqDiff, Nat.le_refl, not_false_eq_true, not_true_eq_false, false_implies, true_implies, forall_const, true_and, and_true, if_true, if_false, implies_true, and_self, ne_eq, false_and, and_false, or_false, false_or, true_or, or_true]
          exact g
    · rw [if_neg (show ¬ th tW n b (nx9 n b p) = 1000 + 11 from c)] at h3
      obtain ⟨rfl, h3⟩ := h3
      have T3 := T2.st A3 X9_10 h3
      rw [if_neg c]
      simp (disch := omega) only [q_aload0, q_aload0N, q_ldc_s, q_invv1, inv_1, q_istore1, q_iload1, q_if_ne, q_get_i, pTag_1, pRf_s, q_vret, q_if_eq, q_invv0, q_nop, q_iconst, q_goto, q_istore2, q_ic_ne, q_iload2, q_put_i, e_77_2, e_77_7, L_0, L_1, k_some, k_none, pRm_i, pRm_r, pRm_0, pF_1, pF_2, inv_s, zb_0, T3.sd.sh.k0, nN_le, nN_lt, nN_eq, nN_add, nN_mul, nN_lt0, nN_ge0, nN_gt0, nN_le0, nN_eq0, nN_eq1, nN_neN, pIn_n, pIx_n, eq_self, Nat.reduceLT, Bool.false_eq_true, Nat.add_zero, Nat.zero_add, Nat.reduceAdd, Nat.reduceMul, Nat.reduceSub, Nat.zero_le, Nat.reduceLeDiff, Nat.reduceEqDiff, Nat.le_refl, not_false_eq_true, not_true_eq_false, false_implies, true_implies, forall_const, true_and, and_true, if_true, if_false, implies_true, and_self, ne_eq, false_and, and_false, or_false, false_or, true_or, or_true]
      exact fin M3 (nx9 n b p, [1, th tW n b p], fun _ => nN 1) _ l1 T3 A03 (Or.inr rfl) hl
  unfold pLine
  simp (disch := omega) only [m_77, q_aload0, q_aload0N, q_ldc_s, q_invv1, inv_1, q_istore1, q_iload1, q_if_ne, q_get_i, pTag_1, pRf_s, q_vret, q_if_eq, q_invv0, q_nop, q_iconst, q_goto, q_istore2, q_ic_ne, q_iload2, q_put_i, e_77_0, e_77_7, L_0, L_1, k_some, k_none, pRm_i, pRm_r, pRm_0, pF_1, pF_2, inv_s, h.sd.sh.k0, nN_le, nN_lt, nN_eq, nN_add, nN_mul, nN_lt0, nN_ge0, nN_gt0, nN_le0, nN_eq0, nN_eq1, nN_neN, pIn_n, pIx_n, eq_self, Nat.reduceLT, Bool.false_eq_true, Nat.add_zero, Nat.zero_add, Nat.reduceAdd, Nat.reduceMul, Nat.reduceSub, Nat.zero_le, Nat.reduceLeDiff, Nat.reduceEqDiff, Nat.le_refl, not_false_eq_true, not_true_eq_false, false_implies, true_implies, forall_const, true_and, and_true, if_true, if_false, implies_true, and_self, ne_eq, false_and, and_false, or_false, false_or, true_or, or_true]
  refine mw_mono (w_hasT (i := 9) h.sd (by omega) rfl) ?_
  rintro o1 M1 ⟨h1, A1⟩
  have A01 : Ag (MdY u) M M1 := A1.mono MdY_9
  by_cases c : th tW n b p = 1009
  · rw [if_pos (show th tW n b p = 1000 + 9 from c)] at h1
    obtain ⟨rfl, h1⟩ := h1
    have T1 := h.st A1 X9_10 h1
    rw [if_pos (Or.inl c)]
    simp (disch := omega) only [q_aload0, q_aload0N, q_ldc_s, q_invv1, inv_1, q_istore1, q_iload1, q_if_ne, q_get_i, pTag_1, pRf_s, q_vret, q_if_eq, q_invv0, q_nop, q_iconst, q_goto, q_istore2, q_ic_ne, q_iload2, q_put_i, e_77_7, L_0, L_1, k_some, k_none, pRm_i, pRm_r, pRm_0, pF_1, pF_2, inv_s, T1.sd.sh.k0, nN_le, nN_lt, nN_eq, nN_add, nN_mul, nN_lt0, nN_ge0, nN_gt0, nN_le0, nN_eq0, nN_eq1, nN_neN, pIn_n, pIx_n, eq_self, Nat.reduceLT, Bool.false_eq_true, Nat.add_zero, Nat.zero_add, Nat.reduceAdd, Nat.reduceMul, Nat.reduceSub, Nat.zero_le, Nat.reduceLeDiff, Nat.reduceEqDiff, Nat.le_refl, not_false_eq_true, not_true_eq_false, false_implies, true_implies, forall_const, true_and, and_true, if_true, if_false, implies_true, and_self, ne_eq, false_and, and_false, or_false, false_or, true_or, or_true]
    exact go1 M1 _ _ (Or.inl c) T1 A01 (Or.inl ⟨rfl, c⟩)
  · rw [if_neg (show ¬ th tW n b p = 1000 + 9 from c)] at h1
    obtain ⟨rfl, h1⟩ := h1
    have T1 := h.st A1 X9_10 h1
    simp (disch := omega) only [q_aload0, q_aload0N, q_ldc_s, q_invv1, inv_1, q_istore1, q_iload1, q_if_ne, q_get_i, pTag_1, pRf_s, q_vret, q_if_eq, q_invv0, q_nop, q_iconst, q_goto, q_istore2, q_ic_ne, q_iload2, q_put_i, e_77_7, L_0, L_1, k_some, k_none, pRm_i, pRm_r, pRm_0, pF_1, pF_2, inv_s, T1.sd.sh.k0, nN_le, nN_lt, nN_eq, nN_add, nN_mul, nN_lt0, nN_ge0, nN_gt0, nN_le0, nN_eq0, nN_eq1, nN_neN, pIn_n, pIx_n, eq_self, Nat.reduceLT, Bool.false_eq_true, Nat.add_zero, Nat.zero_add, Nat.reduceAdd, Nat.reduceMul, Nat.reduceSub, Nat.zero_le, Nat.reduceLeDiff, Nat.reduceEqDiff, Nat.le_refl, not_false_eq_true, not_true_eq_false, false_implies, true_implies, forall_const, true_and, and_true, if_true, if_false, implies_true, and_self, ne_eq, false_and, and_false, or_false, false_or, true_or, or_true]
    refine mw_mono (w_hasT (i := 10) T1.sd (by omega) rfl) ?_
    rintro o2 M2 ⟨h2, A2⟩
    have A02 := A01.trans (A2.mono MdY_9)
    by_cases c2 : th tW n b p = 1010
    · rw [if_pos (show th tW n b p = 1000 + 10 from c2)] at h2
      obtain ⟨rfl, h2⟩ := h2
      have T2 := T1.st A2 X9_10 h2
      rw [if_pos (Or.inr c2)]
      simp (disch := omega) only [q_aload0, q_aload0N, q_ldc_s, q_invv1, inv_1, q_istore1, q_iload1, q_if_ne, q_get_i, pTag_1, pRf_s, q_vret, q_if_eq, q_invv0, q_nop, q_iconst, q_goto, q_istore2, q_ic_ne, q_iload2, q_put_i, e_77_7, L_0, L_1, k_some, k_none, pRm_i, pRm_r, pRm_0, pF_1, pF_2, inv_s, T2.sd.sh.k0, nN_le, nN_lt, nN_eq, nN_add, nN_mul, nN_lt0, nN_ge0, nN_gt0, nN_le0, nN_eq0, nN_eq1, nN_neN, pIn_n, pIx_n, eq_self, Nat.reduceLT, Bool.false_eq_true, Nat.add_zero, Nat.zero_add, Nat.reduceAdd, Nat.reduceMul, Nat.reduceSub, Nat.zero_le, Nat.reduceLeDiff, Nat.reduceEqDiff, Nat.le_refl, not_false_eq_true, not_true_eq_false, false_implies, true_implies, forall_const, true_and, and_true, if_true, if_false, implies_true, and_self, ne_eq, false_and, and_false, or_false, false_or, true_or, or_true]
      exact go1 M2 _ _ (Or.inr c2) T2 A02 (Or.inr ⟨rfl, c⟩)
    · rw [if_neg (show ¬ th tW n b p = 1000 + 10 from c2)] at h2
      obtain ⟨rfl, h2⟩ := h2
      have T2 := T1.st A2 X9_10 h2
      rw [if_neg (fun z => z.elim c c2)]
      simp (disch := omega) only [q_aload0, q_aload0N, q_ldc_s, q_invv1, inv_1, q_istore1, q_iload1, q_if_ne, q_get_i, pTag_1, pRf_s, q_vret, q_if_eq, q_invv0, q_nop, q_iconst, q_goto, q_istore2, q_ic_ne, q_iload2, q_put_i, e_77_7, L_0, L_1, k_some, k_none, pRm_i, pRm_r, pRm_0, pF_1, pF_2, inv_s, T2.sd.sh.k0, T2.sd.aq, nN_le, nN_lt, nN_eq, nN_add, nN_mul, nN_lt0, nN_ge0, nN_gt0, nN_le0, nN_eq0, nN_eq1, nN_neN, pIn_n, pIx_n, eq_self, Nat.reduceLT, Bool.false_eq_true, Nat.add_zero, Nat.zero_add, Nat.reduceAdd, Nat.reduceMul, Nat.reduceSub, Nat.zero_le, Nat.reduceLeDiff, Nat.reduceEqDiff, Nat.le_refl, not_false_eq_true, not_true_eq_false, false_implies, true_implies, forall_const, true_and, and_true, if_true, if_false, implies_true, and_self, ne_eq, false_and, and_false, or_false, false_or, true_or, or_true]
      refine mw_mono (w_wrongM T2.sd.sh T2.sd.ft) ?_
      rintro _ M3 ⟨rfl, h3, A3⟩
      simp (disch := omega) only [q_aload0, q_aload0N, q_ldc_s, q_invv1, inv_1, q_istore1, q_iload1, q_if_ne, q_get_i, pTag_1, pRf_s, q_vret, q_if_eq, q_invv0, q_nop, q_iconst, q_goto, q_istore2, q_ic_ne, q_iload2, q_put_i, e_77_7, L_0, L_1, k_some, k_none, pRm_i, pRm_r, pRm_0, pF_1, pF_2, inv_s, eq_self, Nat.reduceLT, Bool.false_eq_true, Nat.add_zero, Nat.zero_add, Nat.reduceAdd, Nat.reduceMul, Nat.reduceSub, Nat.zero_le, Nat.reduceLeDiff, Nat.reduceEqDiff, Nat.le_refl, not_false_eq_true, not_true_eq_false, false_implies, true_implies, forall_const, true_and, and_true, if_true, if_false, implies_true, and_self, ne_eq, false_and, and_false, or_false, false_or, true_or, or_true]
      exact ⟨⟨rfl, h3, by omega, p, by omega, by rw [A3.I (by omega)]; exact T2.sd.aq⟩, (A02.trans (A3.mono MdY_10)).mono MdV_Y⟩
end LM
