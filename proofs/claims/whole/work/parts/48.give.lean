/-! GIVE -/
def gRow (x n y en fc : Int32) : Nat → Int32
  | 0 => x
  | 1 => n
  | 2 => y
  | 4 => en
  | 5 => fc
  | 6 => nN 2
  | 7 => x
  | 8 => y
  | _ => nN 0
def sGiveA (a : Nat → Int32) (x n y en fc : Int32) : Nat → Int32 := fun j => if j = 3 then nN (nF a + 1) else if 140 + 20 * nF a ≤ j ∧ j < 160 + 20 * nF a then gRow x n y en fc (j - (140 + 20 * nF a)) else a j
section GV
variable {d t u q f p g n y x dd : Nat} {a a' : Nat → Int32} {M M' M0 : pMem} {Q : pOut → pMem → Prop} {X N Y EN FC : Int32}
theorem sGive_lo {j : Nat} (h : j < 140) (h3 : j ≠ 3) : sGiveA a X N Y EN FC j = a j := by
  unfold sGiveA
  rw [if_neg h3, if_neg (by omega)]
theorem sGive_hi {j : Nat} (h : 940 ≤ j) (hf : nF a < 40) : sGiveA a X N Y EN FC j = a j := by
  unfold sGiveA
  rw [if_neg (by omega), if_neg (by omega)]
theorem sGive_fa {k z : Nat} (hz : z < 20) : fa (sGiveA a X N Y EN FC) k z = if k = nF a then gRow X N Y EN FC z else fa a k z := by
  unfold fa sGiveA
  by_cases c : k = nF a
  · subst c
    rw [if_neg (by omega), if_pos (by omega), if_pos rfl, show 140 + 20 * nF a + z - (140 + 20 * nF a) = z from by omega]
  · rw [if_neg (by omega), if_neg (by omega), if_neg c]
theorem sGive_nF (hf : nF a < 40) : nF (sGiveA a X N Y EN FC) = nF a + 1 := by
  show (sGiveA a X N Y EN FC 3).toInt.toNat = _
  unfold sGiveA
  rw [if_pos rfl, nN_toInt (by omega)]
  omega
theorem sGive_fD {k : Nat} : fD (sGiveA a X N Y EN FC) k = if k = nF a then 0 else fD a k := by
  unfold fD
  rw [sGive_fa (by omega)]
  by_cases c : k = nF a
  · rw [if_pos c, if_pos c]
    show (nN 0).toInt.toNat = 0
    rw [nN_toInt (by omega)]
    rfl
  · rw [if_neg c, if_neg c]
theorem sGive_wf (hw : Wf a) (hf : nF a < 40) (hx : x < nP a) (hy : y < nP a) (hn : 1 ≤ n) (hn2 : n ≤ 99) (hfc : FC = nN 0 ∨ FC = nN 1) : Wf (sGiveA a (nN x) (nN n) (nN y) EN FC) := by
  have hp' := hw.p'
  have hn' := hw.n'
  have hr' := hw.r'
  have lo : ∀ j, j < 140 → j ≠ 3 → sGiveA a (nN x) (nN n) (nN y) EN FC j = a j := fun j h1 h2 => sGive_lo h1 h2
  have eF : nF (sGiveA a (nN x) (nN n) (nN y) EN FC) = nF a + 1 := sGive_nF hf
  have eP : nP (sGiveA a (nN x) (nN n) (nN y) EN FC) = nP a := by unfold nP; rw [lo 1 (by omega) (by omega)]
  have eT : nT (sGiveA a (nN x) (nN n) (nN y) EN FC) = nT a := by unfold nT; rw [lo 2 (by omega) (by omega)]
  have eE : nE (sGiveA a (nN x) (nN n) (nN y) EN FC) = nE a := by unfold nE; rw [lo 4 (by omega) (by omega)]
  have eR : nR (sGiveA a (nN x) (nN n) (nN y) EN FC) = nR a := by unfold nR; rw [lo 5 (by omega) (by omega)]
  have ep : ∀ q w, q < 12 → w < 3 → pa (sGiveA a (nN x) (nN n) (nN y) EN FC) q w = pa a q w := fun q w h1 h2 => lo _ (by omega) (by omega)
  have ee : ∀ q w, q < 12 → w < 3 → ea (sGiveA a (nN x) (nN n) (nN y) EN FC) q w = ea a q w := fun q w h1 h2 => lo _ (by omega) (by omega)
  have er : ∀ q w, q < 8 → w < 7 → ra (sGiveA a (nN x) (nN n) (nN y) EN FC) q w = ra a q w := fun q w h1 h2 => lo _ (by omega) (by omega)
  have sp : ∀ {P : Nat → Prop}, (∀ g, g < nF a → g ≠ nF a → P g) → P (nF a) → ∀ g, g < nF a + 1 → P g := fun {P} h1 h2 g hg => by
    by_cases c : g = nF a
    · subst c; exact h2
    · exact h1 g (by omega) c
  refine Wf.mk ?_ ?_ ?_ ?_ ?_ ?_ ?_ ?_ ?_ ?_ ?_ ?_ ?_ ?_ ?_ ?_ ?_ ?_ ?_ ?_ ?_ ?_
  · rw [lo 1 (by omega) (by omega), eP]; exact hw.p
  · rw [eP]; exact hp'
  · rw [lo 2 (by omega) (by omega), eT]; exact hw.t
  · rw [eT]; exact hw.t'
  · rw [eF]; exact if_pos rfl
  · rw [eF]; omega
  · rw [lo 4 (by omega) (by omega), eE]; exact hw.n
  · rw [eE]; exact hn'
  · rw [lo 5 (by omega) (by omega), eR]; exact hw.r
  · rw [eR]; exact hr'
  · rw [lo 7 (by omega) (by omega)]; exact hw.law
  · rw [lo 0 (by omega) (by omega)]; exact hw.texts
  · rw [eP]; intro q hq; rw [ep q 0 (by omega) (by omega)]; exact hw.lim q hq
  · rw [eP, eT]; intro q hq; rw [ep q 1 (by omega) (by omega)]; exact hw.tmp q hq
  · rw [eP]; intro q hq; rw [ep q 2 (by omega) (by omega)]; exact hw.near q hq
  · rw [eF, eP]; exact sp (fun g hg c => by rw [sGive_fa (by omega), if_neg c]; exact hw.fG g hg) ⟨x, hx, by rw [sGive_fa (by omega), if_pos rfl]; rfl⟩
  · rw [eF]; exact sp (fun g hg c => by rw [sGive_fa (by omega), if_neg c]; exact hw.fA g hg) ⟨n, hn, hn2, by rw [sGive_fa (by omega), if_pos rfl]; rfl⟩
  · rw [eF, eP]; exact sp (fun g hg c => by rw [sGive_fa (by omega), if_neg c]; exact hw.fH g hg) (Or.inr ⟨y, hy, by rw [sGive_fa (by omega), if_pos rfl]; rfl⟩)
  · rw [eF]; exact sp (fun g hg c => by rw [sGive_fD, if_neg c, sGive_fa (by omega), if_neg c, sGive_fa (by omega), if_neg c]; exact hw.fD g hg) (by rw [sGive_fD, if_pos rfl, sGive_fa (by omega), if_pos rfl, sGive_fa (by omega), if_pos rfl]; exact ⟨by omega, rfl, rfl⟩)
  · rw [eF]; exact sp (fun g hg c => by rw [sGive_fa (by omega), if_neg c]; exact hw.fC g hg) (by rw [sGive_fa (by omega), if_pos rfl]; exact hfc)
  · rw [eE, eP]; intro k hk; rw [ee k 0 (by omega) (by omega), ee k 1 (by omega) (by omega), ee k 2 (by omega) (by omega)]; exact hw.need k hk
  · rw [eR, eP]; intro k hk; rw [er k 0 (by omega) (by omega)]
    obtain ⟨n, h1, h2, h3, h4⟩ := hw.ring k hk
    exact ⟨n, h1, h2, h3, fun i hi => by rw [er k _ (by omega) (by omega)]; exact h4 i hi⟩
theorem sGive_rich {q : Int32} (hf : nF a < 40) : sRich (sGiveA a X N Y EN FC) q = sRich a q + (if Y = q then sWorth N (nN 0) else nN 0) := by
  rw [sRich_eq, sRich_eq, sGive_nF hf, sS_succ]
  congr 1
  · refine sS_congr _ (fun i hi => ?_)
    have c : ¬ i = nF a := by omega
    simp (disch := omega) only [sGive_fa, c, if_false]
  · simp (disch := omega) only [sGive_fa, if_true]; rfl
theorem sGive_debt {q : Int32} (hf : nF a < 40) (hY : ¬ Y = iN (-1)) : sDebt (sGiveA a X N Y EN FC) q = sDebt a q + (if X = q then N else nN 0) := by
  rw [sDebt_eq, sDebt_eq, sGive_nF hf, sS_succ]
  congr 1
  · refine sS_congr _ (fun i hi => ?_)
    have c : ¬ i = nF a := by omega
    simp (disch := omega) only [sGive_fa, c, if_false]
  · simp (disch := omega) only [sGive_fa, if_true]
    simp [gRow, hY]
theorem sWorth_0 {N : Int32} : sWorth N (nN 0) = N * nN 1024 := by
  unfold sWorth
  rw [nN_z]
  simp
def gTail (a : Nat → Int32) (x y n dd : Nat) (fc : Bool) : Nat → Int32 := sGiveA a (nN x) (nN n) (nN y) (sEnd a dd) (bI (fc = true))
/-- behind 'could give' -/
theorem w_giveGo {fc : Bool} (hr : Rep M t a) (hw : Wf a) (hf : nF a < 40) (hx : x < nP a) (hy : y < nP a) (hn : 1 ≤ n) (hn2 : n ≤ 99) (hdd : dd < 100) (hxy : x ≠ y) :
    bw (d + 8) 228 1 ([some (.ref t), some (.int (nN x)), some (.int (nN y)), some (.int (nN n)), some (.int (nN dd)), some (.int (bI (fc = true)))], [], M) (fun o M' => o = .inl (some (.int (nN (nF a)))) ∧ Rep M' t (gTail a x y n dd fc) ∧ Ag (XTw (gS M) (gP M) t) M M') := by
  have hp' := hw.p'
  have hn' := hw.n'
  have hr' := hw.r'
  have hs := hr.sh
  have e40 : nF a * 12 < 480 := by omega
  have e41 : nF a * 12 + 1 < 480 := by omega
  have hfc : (if bI (fc = true) = 0 then nN 0 else nN 1) = bI (fc = true) := by
    by_cases c : fc = true
    · simp [c, bI, z10]
    · simp [c, bI, z00]
  have go : ∀ en, en = sEnd a dd → bw (d + 8) 228 3 ([some (.ref t), some (.int (nN x)), some (.int (nN y)), some (.int (nN n)), some (.int (nN dd)), some (.int (bI (fc = true)))], [.int en, .int (nN n), .int (nN y), .int (nN x), .ref (t + 7)], sI (sI M (t + 6) x (gI M (t + 6) x + nN n)) (t + 5) y (gI M (t + 5) y + nN (n * 1024))) (fun o M' => o = .inl (some (.int (nN (nF a)))) ∧ Rep M' t (gTail a x y n dd fc) ∧ Ag (XTw (gS M) (gP M) t) M M') := by
    intro en hen
    rw [e_228_3]
    simp (disch := first | omega | rfl | (repeat' (first | exact gS_sI | exact gP_sI | refine Eq.trans gS_sI ?_ | refine Eq.trans gP_sI ?_))) only [q_aload0, q_aload0N, q_iload1, q_iload2, q_iload3, q_iload4, q_iload5, q_invv5, inv_1, q_if_ne, q_iconst, q_iret, q_get_r, pTag_1, pRf_s, q_invs3_21, q_sipush, q_imul, q_goto, q_get_i, q_iadd, q_nop, e_228_0, e_228_3, L_1024, k_some, k_none, pRm_i, pRm_r, pRm_0, pF_1, pF_2, inv_s, hs.k0, hs.k1, hs.k7, hs.p0, hs.p1, hs.p2, hs.p3, hs.p4, hs.p5, hs.p6, hs.p7, hs.p8, hs.q0, hs.q1, hs.q2, hs.q3, hs.q4, hs.r0, hs.r1, hs.r2, hs.r3, hs.r4, hs.r5, hs.r6, w_atS hs.k2, w_atS hs.k3, w_atS hs.k4, w_atS hs.k5, w_atS hs.k6, w_atS hs.k8, w_atS hs.k9, w_atS hs.k10, w_atS hs.k11, w_atS hs.k12, w_atS hs.k13, w_atS hs.k14, w_atS hs.k17, w_atS hs.k18, w_atS hs.k19, w_atS hs.k20, w_atS hs.k21, w_putS hs.k2, w_putS hs.k3, w_putS hs.k4, w_putS hs.k5, w_putS hs.k6, w_putS hs.k8, w_putS hs.k9, w_putS hs.k10, w_putS hs.k11, w_putS hs.k12, w_putS hs.k13, w_putS hs.k14, w_putS hs.k17, w_putS hs.k18, w_putS hs.k19, w_putS hs.k20, w_putS hs.k21, w_addS hs.k2, w_addS hs.k3, w_addS hs.k4, w_addS hs.k5, w_addS hs.k6, w_addS hs.k8, w_addS hs.k9, w_addS hs.k10, w_addS hs.k11, w_addS hs.k12, w_addS hs.k13, w_addS hs.k14, w_addS hs.k17, w_addS hs.k18, w_addS hs.k19, w_addS hs.k20, w_addS hs.k21, m_144, q_aload0, q_aload0N, q_get_i, pTag_1, pRf_s, q_istore6, q_get_r, q_iload6, q_iload1, q_invs3_21, q_iload2, q_iload3, q_iconst, q_iload4, q_iload5, q_invs1_21, q_bipush, q_imul, q_iadd, q_dup_i, q_dup_r, q_put_i, q_iret, e_144_0, L_0, L_1, L_12, k_some, k_none, pRm_i, pRm_r, pRm_0, pF_1, pF_2, inv_s, hr.nf, hw.f, w_oneIf, hfc, gS_sI, gP_sI, gI_sI, Nat.add_left_cancel_iff, Nat.add_eq_left, Nat.left_eq_add, nN_le, nN_lt, nN_eq, nN_add, nN_mul, nN_lt0, nN_ge0, nN_gt0, nN_le0, nN_eq0, nN_eq1, nN_neN, pIn_n, pIx_n, eq_self, Bool.false_eq_true, Nat.add_zero, Nat.zero_add, Nat.reduceAdd, Nat.reduceMul, Nat.reduceSub, Nat.zero_le, Nat.reduceLeDiff, Nat.reduceEqDiff, Nat.le_refl, not_false_eq_true, not_true_eq_false, false_implies, true_implies, forall_const, true_and, and_true, if_true, if_false, implies_true, and_self, ne_eq, false_and, and_false, or_false, false_or, true_or, or_true]
    generalize hM3 : sI (sI (sI (sI (sI (sI (sI (sI (sI _ _ _ _) _ _ _) _ _ _) _ _ _) _ _ _) _ _ _) _ _ _) _ _ _) _ _ _ = M3
    subst hen
    have A3 : Ag (XTw (gS M) (gP M) t) M M3 := by
      rw [← hM3]
      exact Ag.put (Ag.put (Ag.put (Ag.put (Ag.put (Ag.put (Ag.put (Ag.put (Ag.put (Ag.put (Ag.one (Or.inl (by omega))) (Or.inl (by omega))) (Or.inl (by omega))) (Or.inl (by omega))) (Or.inl (by omega))) (Or.inl (by omega))) (Or.inl (by omega))) (Or.inl (by omega))) (Or.inl (by omega))) (Or.inl (by omega))) (Or.inl (by omega))
    refine ⟨?_, A3⟩
    have lo : ∀ j, j < 140 → j ≠ 3 → gTail a x y n dd fc j = a j := fun j h1 h2 => sGive_lo h1 h2
    have eF : nF (gTail a x y n dd fc) = nF a + 1 := sGive_nF hf
    have eP : nP (gTail a x y n dd fc) = nP a := by unfold nP; rw [lo 1 (by omega) (by omega)]
    have eE : nE (gTail a x y n dd fc) = nE a := by unfold nE; rw [lo 4 (by omega) (by omega)]
    have eR : nR (gTail a x y n dd fc) = nR a := by unfold nR; rw [lo 5 (by omega) (by omega)]
    have ep : ∀ q w, q < 12 → w < 3 → pa (gTail a x y n dd fc) q w = pa a q w := fun q w h1 h2 => lo _ (by omega) (by omega)
    have ee : ∀ q w, q < 12 → w < 3 → ea (gTail a x y n dd fc) q w = ea a q w := fun q w h1 h2 => lo _ (by omega) (by omega)
    have er : ∀ q w, q < 8 → w < 7 → ra (gTail a x y n dd fc) q w = ra a q w := fun q w h1 h2 => lo _ (by omega) (by omega)
    have ef : ∀ k z, z < 20 → fa (gTail a x y n dd fc) k z = if k = nF a then gRow (nN x) (nN n) (nN y) (sEnd a dd) (bI (fc = true)) z else fa a k z := fun k z hz => sGive_fa hz
    have sp : ∀ {P : Nat → Prop}, (∀ g, g < nF a → ¬ g = nF a → P g) → P (nF a) → ∀ g, g < nF a + 1 → P g := fun {P} h1 h2 g hg => by
      by_cases c : g = nF a
      · subst c; exact h2
      · exact h1 g (by omega) c
    refine Rep.mk ?_ ?_ ?_ ?_ ?_ ?_ ?_ ?_ ?_ ?_ ?_ ?_ ?_ ?_ ?_ ?_ ?_ ?_ ?_ ?_ ?_ ?_ ?_ ?_ ?_ ?_
    · rw [A3.S, A3.P]; exact hs
    · rw [lo 1 (by omega) (by omega), ← hr.np]; simp [← hM3, gI_sI]
    · show _ = nN (nF a + 1)
      simp [← hM3, gI_sI]
    · rw [lo 2 (by omega) (by omega), ← hr.nt]; simp [← hM3, gI_sI]
    · rw [lo 4 (by omega) (by omega), ← hr.ne]; simp [← hM3, gI_sI]
    · rw [lo 5 (by omega) (by omega), ← hr.nr]; simp [← hM3, gI_sI]
    · rw [lo 0 (by omega) (by omega), ← hr.nx]; simp [← hM3, gI_sI]
    · rw [lo 6 (by omega) (by omega), ← hr.day]; simp [← hM3, gI_sI]
    · rw [lo 7 (by omega) (by omega), ← hr.law]; simp [← hM3, gI_sI]
    · rw [eP]; intro q hq; rw [ep q 0 (by omega) (by omega), ← hr.lim q hq]; simp [← hM3, gI_sI]
    · rw [eP]; intro q hq; rw [ep q 1 (by omega) (by omega), ← hr.tmp q hq]; simp [← hM3, gI_sI]
    · rw [eP]; intro q hq; rw [ep q 2 (by omega) (by omega), ← hr.near q hq]; simp [← hM3, gI_sI]
    · rw [eP]; intro q hq
      unfold gTail
      rw [sGive_rich hf, sWorth_0, nN_mul]
      by_cases c : q = y
      · subst c; simp [← hM3, gI_sI, hr.rich q hq]
      · have c2 : ¬ nN y = nN q := by rw [nN_eq (by omega) (by omega)]; exact fun z => c z.symm
        simp [← hM3, gI_sI, c, c2, hr.rich q hq, nN_z]
    · rw [eP]; intro q hq
      unfold gTail
      rw [sGive_debt hf (by rw [nN_neN (by omega)]; exact not_false)]
      by_cases c : q = x
      · subst c; simp [← hM3, gI_sI, hr.debt q hq]
      · have c2 : ¬ nN x = nN q := by rw [nN_eq (by omega) (by omega)]; exact fun z => c z.symm
        simp [← hM3, gI_sI, c, c2, hr.debt q hq, nN_z]
    · rw [eF]; exact sp (fun g hg c => by rw [ef g 0 (by omega), if_neg c, ← hr.g g hg]; simp [← hM3, gI_sI, c]) (by rw [ef _ 0 (by omega), if_pos rfl]; simp [← hM3, gI_sI]; rfl)
    · rw [eF]; exact sp (fun g hg c => by rw [ef g 2 (by omega), if_neg c, ← hr.h g hg]; simp [← hM3, gI_sI, c]) (by rw [ef _ 2 (by omega), if_pos rfl]; simp [← hM3, gI_sI]; rfl)
    · rw [eF]; exact sp (fun g hg c => by rw [ef g 1 (by omega), if_neg c, ← hr.am g hg]; simp [← hM3, gI_sI, c]) (by rw [ef _ 1 (by omega), if_pos rfl]; simp [← hM3, gI_sI]; rfl)
    · rw [eF]; exact sp (fun g hg c => by rw [ef g 3 (by omega), if_neg c, ← hr.hd g hg]; simp [← hM3, gI_sI, c]) (by rw [ef _ 3 (by omega), if_pos rfl]; simp [← hM3, gI_sI]; rfl)
    · rw [eF]; exact sp (fun g hg c => by rw [ef g 4 (by omega), if_neg c, ← hr.en g hg]; simp [← hM3, gI_sI, c]) (by rw [ef _ 4 (by omega), if_pos rfl]; simp [← hM3, gI_sI]; rfl)
    · rw [eF]; exact sp (fun g hg c => by rw [ef g 5 (by omega), if_neg c, ← hr.fc g hg]; simp [← hM3, gI_sI, c]) (by rw [ef _ 5 (by omega), if_pos rfl]; simp [← hM3, gI_sI]; rfl)
    · rw [eF]
      intro g k hg hk
      rw [show fD (gTail a x y n dd fc) g = if g = nF a then 0 else fD a g from sGive_fD] at hk
      by_cases c : g = nF a
      · subst c
        rw [if_pos rfl] at hk
        rw [ef _ _ (by omega), if_pos rfl]
        have : k = 0 ∨ k = 1 := by omega
        have e12 : 12 * nF a = nF a * 12 := Nat.mul_comm _ _
        rcases this with rfl | rfl
        · simp [← hM3, gI_sI, e12]; rfl
        · simp [← hM3, gI_sI, e12]; rfl
      · rw [if_neg c] at hk
        have hg' : g < nF a := by omega
        have := (hw.fD g hg').1
        have e1 : ¬ 12 * g + k = nF a * 12 := by omega
        have e2 : ¬ 12 * g + k = nF a * 12 + 1 := by omega
        rw [ef _ _ (by omega), if_neg c, ← hr.row g k hg' hk]
        simp [← hM3, gI_sI, e1, e2]
    · rw [eE]; intro q hq; rw [ee q 0 (by omega) (by omega), ← hr.nb q hq]; simp [← hM3, gI_sI]
    · rw [eE]; intro q hq; rw [ee q 1 (by omega) (by omega), ← hr.no q hq]; simp [← hM3, gI_sI]
    · rw [eE]; intro q hq; rw [ee q 2 (by omega) (by omega), ← hr.nw q hq]; simp [← hM3, gI_sI]
    · rw [eR]; intro q hq; rw [er q 0 (by omega) (by omega), ← hr.rs q hq]; simp [← hM3, gI_sI]
    · rw [eR]; intro q k hq h1 h2; rw [er q _ (by omega) (by omega)] at h1 ⊢; rw [← hr.rr q k hq h1 h2]; simp [← hM3, gI_sI]
  rw [e_228_1]
  by_cases c : dd = 0
  · have e : iN (-1) = sEnd a dd := (if_pos c).symm
    simp (disch := first | omega | rfl | (repeat' (first | exact gS_sI | exact gP_sI | refine Eq.trans gS_sI ?_ | refine Eq.trans gP_sI ?_))) only [q_aload0, q_aload0N, q_iload1, q_iload2, q_iload3, q_iload4, q_iload5, q_invv5, inv_1, q_if_ne, q_iconst, q_iret, q_get_r, pTag_1, pRf_s, q_invs3_21, q_sipush, q_imul, q_goto, q_get_i, q_iadd, q_nop, e_228_0, e_228_2, L_1024, k_some, k_none, pRm_i, pRm_r, pRm_0, pF_1, pF_2, inv_s, hs.k0, hs.k1, hs.k7, hs.p0, hs.p1, hs.p2, hs.p3, hs.p4, hs.p5, hs.p6, hs.p7, hs.p8, hs.q0, hs.q1, hs.q2, hs.q3, hs.q4, hs.r0, hs.r1, hs.r2, hs.r3, hs.r4, hs.r5, hs.r6, w_atS hs.k2, w_atS hs.k3, w_atS hs.k4, w_atS hs.k5, w_atS hs.k6, w_atS hs.k8, w_atS hs.k9, w_atS hs.k10, w_atS hs.k11, w_atS hs.k12, w_atS hs.k13, w_atS hs.k14, w_atS hs.k17, w_atS hs.k18, w_atS hs.k19, w_atS hs.k20, w_atS hs.k21, w_putS hs.k2, w_putS hs.k3, w_putS hs.k4, w_putS hs.k5, w_putS hs.k6, w_putS hs.k8, w_putS hs.k9, w_putS hs.k10, w_putS hs.k11, w_putS hs.k12, w_putS hs.k13, w_putS hs.k14, w_putS hs.k17, w_putS hs.k18, w_putS hs.k19, w_putS hs.k20, w_putS hs.k21, w_addS hs.k2, w_addS hs.k3, w_addS hs.k4, w_addS hs.k5, w_addS hs.k6, w_addS hs.k8, w_addS hs.k9, w_addS hs.k10, w_addS hs.k11, w_addS hs.k12, w_addS hs.k13, w_addS hs.k14, w_addS hs.k17, w_addS hs.k18, w_addS hs.k19, w_addS hs.k20, w_addS hs.k21, hr.day, gS_sI, gP_sI, gI_sI, Nat.add_left_cancel_iff, Nat.add_eq_left, Nat.left_eq_add, nN_le, nN_lt, nN_eq, nN_add, nN_mul, nN_lt0, nN_ge0, nN_gt0, nN_le0, nN_eq0, nN_eq1, nN_neN, pIn_n, pIx_n, eq_self, Bool.false_eq_true, Nat.add_zero, Nat.zero_add, Nat.reduceAdd, Nat.reduceMul, Nat.reduceSub, Nat.zero_le, Nat.reduceLeDiff, Nat.reduceEqDiff, Nat.le_refl, not_false_eq_true, not_true_eq_false, false_implies, true_implies, forall_const, true_and, and_true, if_true, if_false, implies_true, and_self, ne_eq, false_and, and_false, or_false, false_or, true_or, or_true, c]
    subst c
    exact go _ e
  · have e : a 6 + nN dd = sEnd a dd := (if_neg c).symm
    simp (disch := first | omega | rfl | (repeat' (first | exact gS_sI | exact gP_sI | refine Eq.trans gS_sI ?_ | refine Eq.trans gP_sI ?_))) only [q_aload0, q_aload0N, q_iload1, q_iload2, q_iload3, q_iload4, q_iload5, q_invv5, inv_1, q_if_ne, q_iconst, q_iret, q_get_r, pTag_1, pRf_s, q_invs3_21, q_sipush, q_imul, q_goto, q_get_i, q_iadd, q_nop, e_228_0, e_228_2, L_1024, k_some, k_none, pRm_i, pRm_r, pRm_0, pF_1, pF_2, inv_s, hs.k0, hs.k1, hs.k7, hs.p0, hs.p1, hs.p2, hs.p3, hs.p4, hs.p5, hs.p6, hs.p7, hs.p8, hs.q0, hs.q1, hs.q2, hs.q3, hs.q4, hs.r0, hs.r1, hs.r2, hs.r3, hs.r4, hs.r5, hs.r6, w_atS hs.k2, w_atS hs.k3, w_atS hs.k4, w_atS hs.k5, w_atS hs.k6, w_atS hs.k8, w_atS hs.k9, w_atS hs.k10, w_atS hs.k11, w_atS hs.k12, w_atS hs.k13, w_atS hs.k14, w_atS hs.k17, w_atS hs.k18, w_atS hs.k19, w_atS hs.k20, w_atS hs.k21, w_putS hs.k2, w_putS hs.k3, w_putS hs.k4, w_putS hs.k5, w_putS hs.k6, w_putS hs.k8, w_putS hs.k9, w_putS hs.k10, w_putS hs.k11, w_putS hs.k12, w_putS hs.k13, w_putS hs.k14, w_putS hs.k17, w_putS hs.k18, w_putS hs.k19, w_putS hs.k20, w_putS hs.k21, w_addS hs.k2, w_addS hs.k3, w_addS hs.k4, w_addS hs.k5, w_addS hs.k6, w_addS hs.k8, w_addS hs.k9, w_addS hs.k10, w_addS hs.k11, w_addS hs.k12, w_addS hs.k13, w_addS hs.k14, w_addS hs.k17, w_addS hs.k18, w_addS hs.k19, w_addS hs.k20, w_addS hs.k21, hr.day, gS_sI, gP_sI, gI_sI, Nat.add_left_cancel_iff, Nat.add_eq_left, Nat.left_eq_add, nN_le, nN_lt, nN_eq, nN_add, nN_mul, nN_lt0, nN_ge0, nN_gt0, nN_le0, nN_eq0, nN_eq1, nN_neN, pIn_n, pIx_n, eq_self, Bool.false_eq_true, Nat.add_zero, Nat.zero_add, Nat.reduceAdd, Nat.reduceMul, Nat.reduceSub, Nat.zero_le, Nat.reduceLeDiff, Nat.reduceEqDiff, Nat.le_refl, not_false_eq_true, not_true_eq_false, false_implies, true_implies, forall_const, true_and, and_true, if_true, if_false, implies_true, and_self, ne_eq, false_and, and_false, or_false, false_or, true_or, or_true, c]
    exact go _ e
theorem sCan_lt {fc : Bool} (h : sCanGive a x y n dd fc = true) : nF a < 40 := by
  simp only [sCanGive, Bool.and_eq_true, decide_eq_true_eq] at h
  exact h.1.2
theorem w_give {fc : Bool} (hr : Rep M t a) (hw : Wf a) (hT : TmR M t a) (hd : DyO a) (ht : t + 22 ≤ 101) (hx : x < nP a) (hy : y < nP a) (hn : 1 ≤ n) (hn2 : n ≤ 99) (hdd : dd < 100) (hxy : x ≠ y) :
    mw (d + 9) 228 [.ref t, .int (nN x), .int (nN y), .int (nN n), .int (nN dd), .int (bI (fc = true))] M (fun o M' => if sCanGive a x y n dd fc = true then o = .inl (some (.int (nN (nF a)))) ∧ Rep M' t (gTail a x y n dd fc) ∧ Ag (XTw (gS M) (gP M) t) M M' else o = .inl (some (.int (iN (-1)))) ∧ Rep M' t a ∧ Ag (XTw (gS M) (gP M) t) M M') := by
  simp (disch := omega) only [m_228, q_aload0, q_aload0N, q_iload1, q_iload2, q_iload3, q_iload4, q_iload5, q_invv5, inv_1, q_if_ne, q_iconst, q_iret, q_get_r, pTag_1, pRf_s, q_invs3_21, q_sipush, q_imul, q_goto, q_get_i, q_iadd, q_nop, e_228_0, L_1024, k_some, k_none, pRm_i, pRm_r, pRm_0, pF_1, pF_2, inv_s, hr.sh.k0, hr.nt, hr.ne, hr.nr, hr.nx, hr.day, hr.law, hr.sh.p0, hr.sh.p1, hr.sh.p2, hr.sh.p3, hr.sh.p4, hr.sh.p5, hr.sh.p6, hr.sh.p7, hr.sh.p8, nN_le, nN_lt, nN_eq, nN_add, nN_mul, nN_lt0, nN_ge0, nN_gt0, nN_le0, nN_eq0, nN_eq1, nN_neN, pIn_n, pIx_n, eq_self, Bool.false_eq_true, Nat.add_zero, Nat.zero_add, Nat.reduceAdd, Nat.reduceMul, Nat.reduceSub, Nat.zero_le, Nat.reduceLeDiff, Nat.reduceEqDiff, Nat.le_refl, not_false_eq_true, not_true_eq_false, false_implies, true_implies, forall_const, true_and, and_true, if_true, if_false, implies_true, and_self, ne_eq, false_and, and_false, or_false, false_or, true_or, or_true]
  refine mw_mono (w_couldGive hr hw hT hd (by omega) hx hy (by omega) hdd) ?_
  rintro _ M1 ⟨rfl, A1⟩
  have r1 := hr.ag A1 (fun h k h1 h2 h3 h4 => XC_low (by omega) h3 h4)
  by_cases c : sCanGive a x y n dd fc = true
  · simp (disch := omega) only [q_aload0, q_aload0N, q_iload1, q_iload2, q_iload3, q_iload4, q_iload5, q_invv5, inv_1, q_if_ne, q_iconst, q_iret, q_get_r, pTag_1, pRf_s, q_invs3_21, q_sipush, q_imul, q_goto, q_get_i, q_iadd, q_nop, e_228_0, L_1024, k_some, k_none, pRm_i, pRm_r, pRm_0, pF_1, pF_2, inv_s, c, nN_le, nN_lt, nN_eq, nN_add, nN_mul, nN_lt0, nN_ge0, nN_gt0, nN_le0, nN_eq0, nN_eq1, nN_neN, pIn_n, pIx_n, eq_self, Bool.false_eq_true, Nat.add_zero, Nat.zero_add, Nat.reduceAdd, Nat.reduceMul, Nat.reduceSub, Nat.zero_le, Nat.reduceLeDiff, Nat.reduceEqDiff, Nat.le_refl, not_false_eq_true, not_true_eq_false, false_implies, true_implies, forall_const, true_and, and_true, if_true, if_false, implies_true, and_self, ne_eq, false_and, and_false, or_false, false_or, true_or, or_true, bI_eq0]
    refine bw_mono (w_giveGo r1 hw (sCan_lt c) hx hy hn hn2 hdd hxy) ?_
    rintro _ M2 ⟨rfl, R2, A2⟩
    rw [A1.S, A1.P] at A2
    exact ⟨rfl, R2, (A1.mono XC_XTw).trans A2⟩
  · simp (disch := omega) only [q_aload0, q_aload0N, q_iload1, q_iload2, q_iload3, q_iload4, q_iload5, q_invv5, inv_1, q_if_ne, q_iconst, q_iret, q_get_r, pTag_1, pRf_s, q_invs3_21, q_sipush, q_imul, q_goto, q_get_i, q_iadd, q_nop, e_228_0, L_1024, k_some, k_none, pRm_i, pRm_r, pRm_0, pF_1, pF_2, inv_s, c, nN_le, nN_lt, nN_eq, nN_add, nN_mul, nN_lt0, nN_ge0, nN_gt0, nN_le0, nN_eq0, nN_eq1, nN_neN, pIn_n, pIx_n, eq_self, Bool.false_eq_true, Nat.add_zero, Nat.zero_add, Nat.reduceAdd, Nat.reduceMul, Nat.reduceSub, Nat.zero_le, Nat.reduceLeDiff, Nat.reduceEqDiff, Nat.le_refl, not_false_eq_true, not_true_eq_false, false_implies, true_implies, forall_const, true_and, and_true, if_true, if_false, implies_true, and_self, ne_eq, false_and, and_false, or_false, false_or, true_or, or_true, bI_eq0]
    exact ⟨r1, A1.mono XC_XTw⟩
end GV
