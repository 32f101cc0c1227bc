/-! THE CLASS'S temper() -/
def LoX (h k : Nat) : Prop := (h = 0 ∧ k = 10) ∨ (h = 1 ∧ k = 1) ∨ (70 ≤ h ∧ h ≤ 71) ∨ (73 ≤ h ∧ h ≤ 75) ∨ ((h = 69 ∨ h = 72) ∧ 5 ≤ k)
/-- the model's part stays as it was -/
def MF (M M' : pMem) : Prop := (∀ h k, (86 ≤ h ∧ h ≤ 100) ∨ h = 900000 → gI M' h k = gI M h k) ∧ (∀ h k, 86 ≤ h ∧ h ≤ 100 → gP M' h k = gP M h k) ∧ (∀ h, (86 ≤ h ∧ h ≤ 100) ∨ 900000 ≤ h → gS M' h = gS M h)
def CQ (M : pMem) (c s : Nat) (M' : pMem) : Prop := MF M M' ∧ Fr M' ∧ gN M' ≤ gN M + c ∧ gL M' ≤ gL M + s
section TP
variable {d t n u q m c s src R cr : Nat} {a a' ak : Nat → Int32} {img : Bool} {b : Nat → Nat} {fl fl' : Int32} {M M1 M2 M3 M' : pMem} {Q : pOut → pMem → Prop} {h k : Nat} {cs : List Nat}
theorem MF.rfl : MF M M := ⟨fun _ _ _ => Eq.refl _, fun _ _ _ => Eq.refl _, fun _ _ => Eq.refl _⟩
theorem MF.trans (A : MF M M1) (B : MF M1 M2) : MF M M2 := ⟨fun h k z => (B.1 h k z).trans (A.1 h k z), fun h k z => (B.2.1 h k z).trans (A.2.1 h k z), fun h z => (B.2.2 h z).trans (A.2.2 h z)⟩
theorem MF.ag {X : Nat → Nat → Prop} (A : Ag X M M') (hx : ∀ h k, (86 ≤ h ∧ h ≤ 100) ∨ h = 900000 → ¬ X h k) : MF M M' := ⟨fun h k z => A.I (hx h k z), fun h k _ => by rw [A.P], fun h _ => by rw [A.S]⟩
theorem CF.mf (A : CF M M') : MF M M' := ⟨fun h k z => A.2.1 h k z, fun h k z => A.2.2 h k z.1, fun h _ => by rw [A.1.1]⟩
theorem Gw.mf (G : Gw M M' c s) (hF : Fr M) (hN : gN M + c ≤ 900000) : MF M M' := by
  have := hF.1
  exact ⟨fun h k z => by rw [(G.2 h (by omega)).2.2.1], fun h k z => by rw [(G.2 h (by omega)).2.1], fun h z => by rw [(G.2 h (by omega)).1]⟩
theorem MF.nx (hF : Fr M) (hN : gN M < 900000) : MF M (nx M) := by
  have := hF.1
  refine ⟨fun _ _ _ => Eq.refl _, fun _ _ _ => Eq.refl _, fun h z => ?_⟩
  show (if h = gN M then ((0 : Nat), (0 : Nat)) else gS M h) = gS M h
  rw [if_neg (by omega)]
theorem CQ.of (hF : Fr M) (A : CF M M') : CQ M 0 0 M' := ⟨A.mf, by unfold Fr; rw [A.1.1, A.1.2.2.1]; exact hF, by rw [A.1.2.2.1]; omega, by rw [A.1.2.2.2]; omega⟩
theorem CQ.ofA {X : Nat → Nat → Prop} (hF : Fr M) (A : Ag X M M') (hx : ∀ h k, (86 ≤ h ∧ h ≤ 100) ∨ h = 900000 → ¬ X h k) : CQ M 0 0 M' := ⟨MF.ag A hx, hF.ag A, by rw [A.N]; omega, by rw [A.L]; omega⟩
theorem CQ.nx (A : CQ M c s M1) (hN : gN M1 < 900000) : CQ M (c + 1) (s + 6) (nx M1) := ⟨A.1.trans (MF.nx A.2.1 hN), A.2.1.nx, by show gN M1 + 1 ≤ _; have := A.2.2.1; omega, by show gL M1 + 6 ≤ _; have := A.2.2.2; omega⟩
/-- the table below the texts of tempers alone -/
theorem wf_low (hw : Wf a) (e : ∀ j, j < 940 → a' j = a j) : Wf a' := by
  have eP : nP a' = nP a := by unfold nP; rw [e 1 (by omega)]
  have eT : nT a' = nT a := by unfold nT; rw [e 2 (by omega)]
  have eF : nF a' = nF a := by unfold nF; rw [e 3 (by omega)]
  have eE : nE a' = nE a := by unfold nE; rw [e 4 (by omega)]
  have eR : nR a' = nR a := by unfold nR; rw [e 5 (by omega)]
  have hp' := hw.p'
  have hf' := hw.f'
  have hn' := hw.n'
  have hr' := hw.r'
  have ep : ∀ q w, q < nP a → w < 3 → pa a' q w = pa a q w := fun q w h1 h2 => e _ (by omega)
  have ef : ∀ f w, f < nF a → w < 20 → fa a' f w = fa a f w := fun q w h1 h2 => e _ (by omega)
  have ee : ∀ f w, f < nE a → w < 3 → ea a' f w = ea a f w := fun q w h1 h2 => e _ (by omega)
  have er : ∀ f w, f < nR a → w < 7 → ra a' f w = ra a f w := fun q w h1 h2 => e _ (by omega)
  have eD : ∀ f, f < nF a → fD a' f = fD a f := fun f h => by unfold fD; rw [ef f 3 h (by omega)]
  refine Wf.mk ?_ ?_ ?_ ?_ ?_ ?_ ?_ ?_ ?_ ?_ ?_ ?_ ?_ ?_ ?_ ?_ ?_ ?_ ?_ ?_ ?_ ?_
  · rw [e 1 (by omega), eP]; exact hw.p
  · rw [eP]; exact hw.p'
  · rw [e 2 (by omega), eT]; exact hw.t
  · rw [eT]; exact hw.t'
  · rw [e 3 (by omega), eF]; exact hw.f
  · rw [eF]; exact hw.f'
  · rw [e 4 (by omega), eE]; exact hw.n
  · rw [eE]; exact hw.n'
  · rw [e 5 (by omega), eR]; exact hw.r
  · rw [eR]; exact hw.r'
  · rw [e 7 (by omega)]; exact hw.law
  · rw [e 0 (by omega)]; exact hw.texts
  · rw [eP]; intro q hq; rw [ep q 0 hq (by omega)]; exact hw.lim q hq
  · rw [eP, eT]; intro q hq; rw [ep q 1 hq (by omega)]; exact hw.tmp q hq
  · rw [eP]; intro q hq; rw [ep q 2 hq (by omega)]; exact hw.near q hq
  · rw [eF, eP]; intro q hq; rw [ef q 0 hq (by omega)]; exact hw.fG q hq
  · rw [eF]; intro q hq; rw [ef q 1 hq (by omega)]; exact hw.fA q hq
  · rw [eF, eP]; intro q hq; rw [ef q 2 hq (by omega)]; exact hw.fH q hq
  · rw [eF]; intro q hq; rw [eD q hq, ef q 3 hq (by omega), ef q 6 hq (by omega)]; exact hw.fD q hq
  · rw [eF]; intro q hq; rw [ef q 5 hq (by omega)]; exact hw.fC q hq
  · rw [eE, eP]; intro q hq; rw [ee q 0 hq (by omega), ee q 1 hq (by omega), ee q 2 hq (by omega)]; exact hw.need q hq
  · rw [eR, eP]; intro q hq
    obtain ⟨n, h1, h2, h3, h4⟩ := hw.ring q hq
    exact ⟨n, h1, h2, by rw [er q 0 hq (by omega)]; exact h3, fun k hk => by
      obtain ⟨p, g1, g2⟩ := h4 k hk
      exact ⟨p, g1, by rw [er q (1 + k) hq (by omega)]; exact g2⟩⟩
theorem rep_low (r : Rep M t a) (hw : Wf a) (e : ∀ j, j < 940 → a' j = a j) : Rep M t a' := by
  have eP : nP a' = nP a := by unfold nP; rw [e 1 (by omega)]
  have eF : nF a' = nF a := by unfold nF; rw [e 3 (by omega)]
  have eE : nE a' = nE a := by unfold nE; rw [e 4 (by omega)]
  have eR : nR a' = nR a := by unfold nR; rw [e 5 (by omega)]
  have hp' := hw.p'
  have hf' := hw.f'
  have hn' := hw.n'
  have hr' := hw.r'
  have ep : ∀ q w, q < nP a → w < 3 → pa a' q w = pa a q w := fun q w h1 h2 => e _ (by omega)
  have ef : ∀ f w, f < nF a → w < 20 → fa a' f w = fa a f w := fun q w h1 h2 => e _ (by omega)
  have ee : ∀ f w, f < nE a → w < 3 → ea a' f w = ea a f w := fun q w h1 h2 => e _ (by omega)
  have er : ∀ f w, f < nR a → w < 7 → ra a' f w = ra a f w := fun q w h1 h2 => e _ (by omega)
  have eD : ∀ f, f < nF a → fD a' f = fD a f := fun f h => by unfold fD; rw [ef f 3 h (by omega)]
  have eRi : ∀ x, sRich a' x = sRich a x := by
    intro x
    unfold sRich
    rw [eF]
    exact lp_congr _ _ _ (fun i s h1 h2 => by rw [ef i 2 (by omega) (by omega), ef i 1 (by omega) (by omega), ef i 3 (by omega) (by omega)])
  have eDe : ∀ x, sDebt a' x = sDebt a x := by
    intro x
    unfold sDebt
    rw [eF]
    exact lp_congr _ _ _ (fun i s h1 h2 => by rw [ef i 2 (by omega) (by omega), ef i 1 (by omega) (by omega), ef i 0 (by omega) (by omega)])
  refine Rep.mk r.sh ?_ ?_ ?_ ?_ ?_ ?_ ?_ ?_ ?_ ?_ ?_ ?_ ?_ ?_ ?_ ?_ ?_ ?_ ?_ ?_ ?_ ?_ ?_ ?_ ?_
  · rw [e _ (by omega)]; exact r.np
  · rw [e _ (by omega)]; exact r.nf
  · rw [e _ (by omega)]; exact r.nt
  · rw [e _ (by omega)]; exact r.ne
  · rw [e _ (by omega)]; exact r.nr
  · rw [e _ (by omega)]; exact r.nx
  · rw [e _ (by omega)]; exact r.day
  · rw [e _ (by omega)]; exact r.law
  · rw [eP]; intro q hq; rw [ep q _ hq (by omega)]; exact r.lim q hq
  · rw [eP]; intro q hq; rw [ep q _ hq (by omega)]; exact r.tmp q hq
  · rw [eP]; intro q hq; rw [ep q _ hq (by omega)]; exact r.near q hq
  · rw [eP]; intro q hq; rw [eRi]; exact r.rich q hq
  · rw [eP]; intro q hq; rw [eDe]; exact r.debt q hq
  · rw [eF]; intro q hq; rw [ef q _ hq (by omega)]; exact r.g q hq
  · rw [eF]; intro q hq; rw [ef q _ hq (by omega)]; exact r.h q hq
  · rw [eF]; intro q hq; rw [ef q _ hq (by omega)]; exact r.am q hq
  · rw [eF]; intro q hq; rw [ef q _ hq (by omega)]; exact r.hd q hq
  · rw [eF]; intro q hq; rw [ef q _ hq (by omega)]; exact r.en q hq
  · rw [eF]; intro q hq; rw [ef q _ hq (by omega)]; exact r.fc q hq
  · rw [eF]; intro f k hf hk
    rw [eD f hf] at hk
    have := (hw.fD f hf).1
    rw [ef f _ hf (by omega)]; exact r.row f k hf hk
  · rw [eE]; intro q hq; rw [ee q _ hq (by omega)]; exact r.nb q hq
  · rw [eE]; intro q hq; rw [ee q _ hq (by omega)]; exact r.no q hq
  · rw [eE]; intro q hq; rw [ee q _ hq (by omega)]; exact r.nw q hq
  · rw [eR]; intro q hq; rw [er q _ hq (by omega)]; exact r.rs q hq
  · rw [eR]; intro q k hq h1 h2; rw [er q 0 hq (by omega)] at h1; rw [er q _ hq (by omega)]; exact r.rr q k hq h1 h2
theorem sTemper_wf (hw : Wf a) (h : nT a < 6) : Wf (sTemper a n b) := by
  have hp' := hw.p'
  have lo : ∀ j, j ≠ 2 → aU a 2 (nN (nT a + 1)) j = a j := fun j h => aU_ne h
  have eT : nT (aU a 2 (nN (nT a + 1))) = nT a + 1 := by unfold nT; rw [aU_eq, nN_toInt (by unfold nT at h; omega)]; omega
  have eP : nP (aU a 2 (nN (nT a + 1))) = nP a := by unfold nP; rw [lo 1 (by omega)]
  have eE : nE (aU a 2 (nN (nT a + 1))) = nE a := by unfold nE; rw [lo 4 (by omega)]
  have eR : nR (aU a 2 (nN (nT a + 1))) = nR a := by unfold nR; rw [lo 5 (by omega)]
  have w1 : Wf (aU a 2 (nN (nT a + 1))) := by
    refine wf_lo hw (fun j hj => lo j (by omega)) (lo 3 (by omega)) (by omega) (by rw [lo 1 (by omega), eP]; exact hw.p) (by omega) (by rw [aU_eq, eT]) (by omega) (by rw [lo 4 (by omega), eE]; exact hw.n) (by rw [eE]; exact hw.n') (by rw [lo 5 (by omega), eR]; exact hw.r) (by rw [eR]; exact hw.r') (by rw [lo 7 (by omega)]; exact hw.law) (by rw [lo 0 (by omega)]; exact hw.texts) ?_ ?_ ?_ ?_ ?_
    · rw [eP]; intro q hq; rw [show pa (aU a 2 (nN (nT a + 1))) q 0 = pa a q 0 from lo _ (by omega)]; exact hw.lim q hq
    · rw [eP, eT]; intro q hq; rw [show pa (aU a 2 (nN (nT a + 1))) q 1 = pa a q 1 from lo _ (by omega)]
      rcases hw.tmp q hq with h1 | ⟨k, h1, h2⟩
      · exact Or.inl h1
      · exact Or.inr ⟨k, by omega, h2⟩
    · rw [eP]; intro q hq; rw [show pa (aU a 2 (nN (nT a + 1))) q 2 = pa a q 2 from lo _ (by omega)]; exact hw.near q hq
    · rw [eE, eP]; intro k hk; rw [show ∀ w, ea (aU a 2 (nN (nT a + 1))) k w = ea a k w from fun w => lo _ (by omega), show ∀ w, ea (aU a 2 (nN (nT a + 1))) k w = ea a k w from fun w => lo _ (by omega), show ∀ w, ea (aU a 2 (nN (nT a + 1))) k w = ea a k w from fun w => lo _ (by omega)]; exact hw.need k hk
    · rw [eR, eP]; intro k hk
      have : ∀ w, ra (aU a 2 (nN (nT a + 1))) k w = ra a k w := fun w => lo _ (by omega)
      simp only [this]; exact hw.ring k hk
  refine wf_low w1 fun j hj => ?_
  unfold sTemper aU
  by_cases c : j = 2
  · rw [if_pos c, if_pos c]
  · rw [if_neg c, if_neg c, if_neg (by omega), if_neg (by omega)]
theorem sTemper_rep (hr : Rep M t a) (hw : Wf a) (h : nT a < 6) {o : Option Nat} : Rep (sI (sP M (t + 15) k o) t 9 (nN (nT a + 1))) t (sTemper a n b) := by
  have hp' := hw.p'
  have lo : ∀ j, j ≠ 2 → aU a 2 (nN (nT a + 1)) j = a j := fun j h => aU_ne h
  have eP : nP (aU a 2 (nN (nT a + 1))) = nP a := by unfold nP; rw [lo 1 (by omega)]
  have eE : nE (aU a 2 (nN (nT a + 1))) = nE a := by unfold nE; rw [lo 4 (by omega)]
  have eR : nR (aU a 2 (nN (nT a + 1))) = nR a := by unfold nR; rw [lo 5 (by omega)]
  have w1 : Wf (aU a 2 (nN (nT a + 1))) := by
    refine wf_low (sTemper_wf (n := 0) (b := fun _ => 0) hw h) fun j hj => ?_
    unfold sTemper aU
    by_cases c : j = 2
    · rw [if_pos c, if_pos c]
    · rw [if_neg c, if_neg c, if_neg (by omega), if_neg (by omega)]
  have g : ∀ i j, ¬ (i = t ∧ j = 9) → gI (sI (sP M (t + 15) k o) t 9 (nN (nT a + 1))) i j = gI M i j := fun i j hn => by rw [gI_sI, if_neg hn]; rfl
  have sh : ShT (gS (sI (sP M (t + 15) k o) t 9 (nN (nT a + 1)))) (gP (sI (sP M (t + 15) k o) t 9 (nN (nT a + 1)))) t := by
    have h := hr.sh
    have e0 : ∀ j, gP (sI (sP M (t + 15) k o) t 9 (nN (nT a + 1))) t j = gP M t j := fun j => by
      rw [gP_sI, gP_sP, if_neg (by omega)]
    have e1 : ∀ j, gP (sI (sP M (t + 15) k o) t 9 (nN (nT a + 1))) (t + 1) j = gP M (t + 1) j := fun j => by
      rw [gP_sI, gP_sP, if_neg (by omega)]
    have e7 : ∀ j, gP (sI (sP M (t + 15) k o) t 9 (nN (nT a + 1))) (t + 7) j = gP M (t + 7) j := fun j => by
      rw [gP_sI, gP_sP, if_neg (by omega)]
    show ShT (gS M) _ t
    unfold ShT at h ⊢
    simp only [e0, e1, e7]
    exact h
  have r1 : Rep (sI (sP M (t + 15) k o) t 9 (nN (nT a + 1))) t (aU a 2 (nN (nT a + 1))) := by
    refine rep_lo hr (fun j hj => lo j (by omega)) (lo 3 (by omega)) sh (g _ _ (by omega)) (fun i j h1 h2 => g _ _ (by omega)) ?_ ?_ ?_ ?_ ?_ ?_ ?_ ?_ ?_ ?_ ?_ ?_ ?_ ?_ ?_ ?_ ?_
    · rw [g _ _ (by omega), lo 1 (by omega)]; exact hr.np
    · rw [gI_sI, if_pos ⟨rfl, rfl⟩, aU_eq]
    · rw [g _ _ (by omega), lo 4 (by omega)]; exact hr.ne
    · rw [g _ _ (by omega), lo 5 (by omega)]; exact hr.nr
    · rw [g _ _ (by omega), lo 0 (by omega)]; exact hr.nx
    · rw [g _ _ (by omega), lo 6 (by omega)]; exact hr.day
    · rw [g _ _ (by omega), lo 7 (by omega)]; exact hr.law
    · rw [eP]; intro q hq; rw [g _ _ (by omega), show pa (aU a 2 (nN (nT a + 1))) q 0 = pa a q 0 from lo _ (by omega)]; exact hr.lim q hq
    · rw [eP]; intro q hq; rw [g _ _ (by omega), show pa (aU a 2 (nN (nT a + 1))) q 1 = pa a q 1 from lo _ (by omega)]; exact hr.tmp q hq
    · rw [eP]; intro q hq; rw [g _ _ (by omega), show pa (aU a 2 (nN (nT a + 1))) q 2 = pa a q 2 from lo _ (by omega)]; exact hr.near q hq
    · rw [eP]; intro q hq; rw [g _ _ (by omega)]; exact hr.rich q hq
    · rw [eP]; intro q hq; rw [g _ _ (by omega)]; exact hr.debt q hq
    · rw [eE]; intro q hq; rw [g _ _ (by omega), show ea (aU a 2 (nN (nT a + 1))) q 0 = ea a q 0 from lo _ (by omega)]; exact hr.nb q hq
    · rw [eE]; intro q hq; rw [g _ _ (by omega), show ea (aU a 2 (nN (nT a + 1))) q 1 = ea a q 1 from lo _ (by omega)]; exact hr.no q hq
    · rw [eE]; intro q hq; rw [g _ _ (by omega), show ea (aU a 2 (nN (nT a + 1))) q 2 = ea a q 2 from lo _ (by omega)]; exact hr.nw q hq
    · rw [eR]; intro q hq; rw [g _ _ (by omega), show ra (aU a 2 (nN (nT a + 1))) q 0 = ra a q 0 from lo _ (by omega)]; exact hr.rs q hq
    · rw [eR]; intro q k hq h1 h2; rw [show ra (aU a 2 (nN (nT a + 1))) q 0 = ra a q 0 from lo _ (by omega)] at h1; rw [g _ _ (by omega), show ra (aU a 2 (nN (nT a + 1))) q (1 + k) = ra a q (1 + k) from lo _ (by omega)]; exact hr.rr q k hq h1 h2
  refine rep_low r1 w1 fun j hj => ?_
  unfold sTemper aU
  by_cases c : j = 2
  · rw [if_pos c, if_pos c]
  · rw [if_neg c, if_neg c, if_neg (by omega), if_neg (by omega)]
theorem w_addTemper (hr : Rep M t a) (hw : Wf a) (h : nT a < 6) (hq : (gS M q).1 = 7) : mw (d + 1) 218 [.ref t, .ref q] M Q = Q (.inl (some (.int (nN (nT a))))) (sI (sP M (t + 15) (nT a) (some q)) t 9 (nN (nT a + 1))) := by
  have e6 : iN ((6 : Nat) : Int) = nN 6 := rfl
  have e1 : ¬ 6 ≤ nT a := by omega
  have e2 : gS (sP M (t + 15) (nT a) (some q)) = gS M := rfl
  have e3 : gI (sP M (t + 15) (nT a) (some q)) t 9 = nN (nT a) := by rw [gI_sP, hr.nt, hw.t]
  simp (disch := omega) only [m_218, q_aload0, q_aload0N, q_get_i, pTag_1, pRf_s, q_istore2, q_iload2, q_if_lt, q_get_r, q_alen, q_ic_ge, q_aload1, q_aload1N, q_aast_r, q_aast_n, q_nop, q_dup_i, q_dup_r, q_iconst, q_iadd, q_put_i, q_iret, e_218_0, e_218_1, L_1, hr.sh.k0, hr.sh.p2, hr.sh.k15, hr.nt, hw.t, e6, e1, e2, e3, hq, h, nN_le, nN_lt, nN_eq, nN_add, nN_mul, nN_lt0, nN_ge0, nN_gt0, nN_le0, nN_eq0, nN_eq1, nN_neN, pIn_n, pIx_n, eq_self, Nat.reduceLT, Bool.false_eq_true, Nat.add_zero, Nat.zero_add, Nat.reduceAdd, Nat.reduceMul, Nat.reduceSub, Nat.zero_le, Nat.reduceLeDiff, Nat.reduceEqDiff, Nat.le_refl, not_false_eq_true, not_true_eq_false, false_implies, true_implies, forall_const, true_and, and_true, if_true, if_false, implies_true, and_self, ne_eq, false_and, and_false, or_false, false_or, true_or, or_true]
end TP
