/-! clear: the class's rings -/
def RoS (M : pMem) (a : Nat → Int32) : Prop := (gS M 81 = (5, 0)) ∧ (gS M 82 = (100, 144)) ∧ (gS M 83 = (100, 8)) ∧ (gS M 84 = (100, 8)) ∧ (gP M 81 0 = some 82) ∧ (gP M 81 1 = some 83) ∧ (gP M 81 2 = some 84) ∧ (gP M 81 3 = some 3) ∧ (Rep M 3 a)
theorem RoS.mk {M : pMem} {a : Nat → Int32} (k81 : gS M 81 = (5, 0)) (k82 : gS M 82 = (100, 144)) (k83 : gS M 83 = (100, 8)) (k84 : gS M 84 = (100, 8)) (pa : gP M 81 0 = some 82) (pb : gP M 81 1 = some 83) (pc : gP M 81 2 = some 84) (pd : gP M 81 3 = some 3) (r : Rep M 3 a) : RoS M a := ⟨k81, k82, k83, k84, pa, pb, pc, pd, r⟩
theorem RoS.k81 {M : pMem} {a : Nat → Int32} (h : RoS M a) : gS M 81 = (5, 0) := And.left h
theorem RoS.k82 {M : pMem} {a : Nat → Int32} (h : RoS M a) : gS M 82 = (100, 144) := And.left (And.right h)
theorem RoS.k83 {M : pMem} {a : Nat → Int32} (h : RoS M a) : gS M 83 = (100, 8) := And.left (And.right (And.right h))
theorem RoS.k84 {M : pMem} {a : Nat → Int32} (h : RoS M a) : gS M 84 = (100, 8) := And.left (And.right (And.right (And.right h)))
theorem RoS.pa {M : pMem} {a : Nat → Int32} (h : RoS M a) : gP M 81 0 = some 82 := And.left (And.right (And.right (And.right (And.right h))))
theorem RoS.pb {M : pMem} {a : Nat → Int32} (h : RoS M a) : gP M 81 1 = some 83 := And.left (And.right (And.right (And.right (And.right (And.right h)))))
theorem RoS.pc {M : pMem} {a : Nat → Int32} (h : RoS M a) : gP M 81 2 = some 84 := And.left (And.right (And.right (And.right (And.right (And.right (And.right h))))))
theorem RoS.pd {M : pMem} {a : Nat → Int32} (h : RoS M a) : gP M 81 3 = some 3 := And.left (And.right (And.right (And.right (And.right (And.right (And.right (And.right h)))))))
theorem RoS.r {M : pMem} {a : Nat → Int32} (h : RoS M a) : Rep M 3 a := And.right (And.right (And.right (And.right (And.right (And.right (And.right (And.right h)))))))
def XR (h k : Nat) : Prop := (h = 81 ∧ k = 4) ∨ h = 82 ∨ h = 83 ∨ h = 84
def OwC (M : pMem) (h n : Nat) (c : Nat → Nat) : Prop := ∀ i j, i < n → j < n → gI M h (12 * i + j) = nN (c (12 * i + j))
section CR
variable {d t u n p q f g m e K k dd j bl x y i h L v r l used : Nat} {a a' ak : Nat → Int32} {c c2 : Nat → Nat} {img : Bool} {fl : Int32} {M M1 M' : pMem} {Q : pOut → pMem → Prop} {w z : Int32}
theorem RoS.ag (s : RoS M a) (A : Ag XR M M') : RoS M' a := by
  refine RoS.mk ?_ ?_ ?_ ?_ ?_ ?_ ?_ ?_ ?_
  · rw [A.S]; exact s.k81
  · rw [A.S]; exact s.k82
  · rw [A.S]; exact s.k83
  · rw [A.S]; exact s.k84
  · rw [A.P]; exact s.pa
  · rw [A.P]; exact s.pb
  · rw [A.P]; exact s.pc
  · rw [A.P]; exact s.pd
  · exact s.r.ag A (fun h k h1 h2 h3 => by rintro (z | z | z | z) <;> omega)
theorem OwC.le (o : OwC M h n c) (A : Ag XR M M') (hh : h ≠ 81 ∧ h ≠ 82 ∧ h ≠ 83 ∧ h ≠ 84) : OwC M' h n c := fun i j h1 h2 => by rw [A.I (by rintro (z | z | z | z) <;> omega)]; exact o i j h1 h2
theorem OwC.at (o : OwC M h (nP a) c) (hw : Wf a) (hr : r < nR a) (hk : k < rZ a r) : gI M h (rE a r k) = nN (c (rE a r k)) := by
  obtain ⟨x, y, h1, h2, h3, -⟩ := rE_in hw hr hk
  rw [h3]
  exact o x y h1 h2
theorem rE_144 (hw : Wf a) (hr : r < nR a) (hk : k < rZ a r) : rE a r k < 144 := by
  have hp' := hw.p'
  obtain ⟨x, y, h1, h2, h3, -⟩ := rE_in hw hr hk
  omega
theorem w_inRing (hr9 : Rep M 3 a) (hw : Wf a) (hr : r < nR a) (hk : k ≤ rZ a r) : mw (d + 2) 221 [.ref 3, .int (nN r), .int (nN k)] M Q = Q (.inl (some (.int (nN (rQ a r (k % rZ a r)))))) M := by
  obtain ⟨h1, h2, h3, h4⟩ := rg_ok hw hr
  have hR := hw.r'
  have e1 : gI M 23 r = nN (rZ a r) := by have := hr9.rs r hr; rw [h3] at this; exact this
  have k23 : gS M 23 = (100, 8) := hr9.sh.k20
  have k24 : gS M 24 = (100, 48) := hr9.sh.k21
  have p7 : gP M 3 7 = some 23 := hr9.sh.p7
  have p8 : gP M 3 8 = some 24 := hr9.sh.p8
  have k3 : gS M 3 = (9, 0) := hr9.sh.k0
  have g : ∀ i, i < rZ a r → gI M 24 (6 * r + i) = nN (rQ a r i) := fun i hi => by
    have := hr9.rr r i hr (by rw [h3, nN_lt (by omega) (by omega)]; exact hi) (by omega)
    rw [(h4 i hi).2] at this
    exact this
  by_cases c : k < rZ a r
  · have c2 : ¬ rZ a r ≤ k := by omega
    have i9 : r * 6 + k = 6 * r + k := by omega
    have gk := g k c
    simp (disch := omega) only [m_221, q_iload2, q_aload0, q_aload0N, q_get_r, pTag_1, pRf_s, q_iload1, q_invs2_21, q_ic_ge, q_goto, q_iconst, q_nop, q_istore3, q_bipush, q_imul, q_iload3, q_iadd, q_iret, e_221_0, e_221_1, e_221_2, L_0, L_6, k_some, k_none, pRm_i, pRm_r, pRm_0, pF_1, pF_2, inv_s, k3, p7, p8, w_atN k23, w_atN k24, e1, c2, i9, gk, Nat.mod_eq_of_lt c, gS_sI, gP_sI, gI_sI, Nat.add_left_cancel_iff, Nat.add_eq_left, Nat.left_eq_add, nN_le, nN_lt, nN_eq, nN_add, nN_mul, nN_lt0, nN_ge0, nN_gt0, nN_le0, nN_eq0, nN_eq1, nN_neN, pIn_n, pIx_n, eq_self, Nat.reduceLT, Bool.false_eq_true, Nat.add_zero, Nat.zero_add, Nat.reduceAdd, Nat.reduceMul, Nat.reduceSub, Nat.zero_le, Nat.reduceLeDiff, Nat.reduceEqDiff, Nat.le_refl, not_false_eq_true, not_true_eq_false, false_implies, true_implies, forall_const, true_and, and_true, if_true, if_false, implies_true, and_self, ne_eq, false_and, and_false, or_false, false_or, true_or, or_true]
  · have e9 : k = rZ a r := by omega
    subst e9
    have c2 : rZ a r ≤ rZ a r := Nat.le_refl _
    have i9 : r * 6 + 0 = 6 * r + 0 := by omega
    have g0 := g 0 (by omega)
    simp (disch := omega) only [m_221, q_iload2, q_aload0, q_aload0N, q_get_r, pTag_1, pRf_s, q_iload1, q_invs2_21, q_ic_ge, q_goto, q_iconst, q_nop, q_istore3, q_bipush, q_imul, q_iload3, q_iadd, q_iret, e_221_0, e_221_1, e_221_2, L_0, L_6, k_some, k_none, pRm_i, pRm_r, pRm_0, pF_1, pF_2, inv_s, k3, p7, p8, w_atN k23, w_atN k24, e1, c2, Nat.mod_self, gS_sI, gP_sI, gI_sI, Nat.add_left_cancel_iff, Nat.add_eq_left, Nat.left_eq_add, nN_le, nN_lt, nN_eq, nN_add, nN_mul, nN_lt0, nN_ge0, nN_gt0, nN_le0, nN_eq0, nN_eq1, nN_neN, pIn_n, pIx_n, eq_self, Nat.reduceLT, Bool.false_eq_true, Nat.add_zero, Nat.zero_add, Nat.reduceAdd, Nat.reduceMul, Nat.reduceSub, Nat.zero_le, Nat.reduceLeDiff, Nat.reduceEqDiff, Nat.le_refl, not_false_eq_true, not_true_eq_false, false_implies, true_implies, forall_const, true_and, and_true, if_true, if_false, implies_true, and_self, ne_eq, false_and, and_false, or_false, false_or, true_or, or_true]
    rw [show r * 6 = 6 * r + 0 from by omega, g0]
theorem w_debtPlace (s : RoS M a) (hw : Wf a) (hr : r < nR a) (hk : k < rZ a r) : mw (d + 3) 194 [.ref 81, .int (nN r), .int (nN k)] M Q = Q (.inl (some (.int (nN (rE a r k))))) M := by
  have k81 := s.k81
  have pd := s.pd
  have k3 : gS M 3 = (9, 0) := s.r.sh.k0
  have e : rQ a r k * 12 + rQ a r ((k + 1) % rZ a r) = rE a r k := by unfold rE; omega
  simp (disch := omega) only [m_194, q_aload0, q_aload0N, q_get_r, pTag_1, pRf_s, q_iload1, q_iload2, q_invv2, inv_1, q_bipush, q_imul, q_iconst, q_iadd, q_iret, e_194_0, L_1, L_12, k_some, k_none, pRm_i, pRm_r, pRm_0, pF_1, pF_2, inv_s, k81, k3, pd, w_inRing s.r hw hr, Nat.mod_eq_of_lt hk, e, gS_sI, gP_sI, gI_sI, Nat.add_left_cancel_iff, Nat.add_eq_left, Nat.left_eq_add, nN_le, nN_lt, nN_eq, nN_add, nN_mul, nN_lt0, nN_ge0, nN_gt0, nN_le0, nN_eq0, nN_eq1, nN_neN, pIn_n, pIx_n, eq_self, Nat.reduceLT, Bool.false_eq_true, Nat.add_zero, Nat.zero_add, Nat.reduceAdd, Nat.reduceMul, Nat.reduceSub, Nat.zero_le, Nat.reduceLeDiff, Nat.reduceEqDiff, Nat.le_refl, not_false_eq_true, not_true_eq_false, false_implies, true_implies, forall_const, true_and, and_true, if_true, if_false, implies_true, and_self, ne_eq, false_and, and_false, or_false, false_or, true_or, or_true]
theorem w_leastOwed (s : RoS M a) (hw : Wf a) (o : OwC M 82 (nP a) c) (hc : ∀ p, c p < 4000) (hr : r < nR a) : mw (d + 4) 195 [.ref 81, .int (nN r)] M Q = Q (.inl (some (.int (nN (rL a c r))))) M := by
  obtain ⟨h1, h2, h3, h4⟩ := rg_ok hw hr
  have hR := hw.r'
  have k81 := s.k81
  have k82 := s.k82
  have pa := s.pa
  have pd := s.pd
  have k3 : gS M 3 = (9, 0) := s.r.sh.k0
  have k23 : gS M 23 = (100, 8) := s.r.sh.k20
  have p7 : gP M 3 7 = some 23 := s.r.sh.p7
  have e1 : gI M 23 r = nN (rZ a r) := by have := s.r.rs r hr; rw [h3] at this; exact this
  simp (disch := omega) only [m_195, q_ldc_i, q_istore2, q_iconst, q_istore3, q_nop, q_iload3, q_aload0, q_aload0N, q_get_r, pTag_1, pRf_s, q_iload1, q_invs2_21, q_ic_ge, q_iload2, q_invv2, inv_1, q_min, q_iinc3, q_goto, q_iret, e_195_0, e_195_2, L_0, L_1, L_1000000, k_some, k_none, pRm_i, pRm_r, pRm_0, pF_1, pF_2, inv_s, eq_self, Nat.reduceLT, Bool.false_eq_true, Nat.add_zero, Nat.zero_add, Nat.reduceAdd, Nat.reduceMul, Nat.reduceSub, Nat.zero_le, Nat.reduceLeDiff, Nat.reduceEqDiff, Nat.le_refl, not_false_eq_true, not_true_eq_false, false_implies, true_implies, forall_const, true_and, and_true, if_true, if_false, implies_true, and_self, ne_eq, false_and, and_false, or_false, false_or, true_or, or_true]
  have key : ∀ (l k m : Nat), k + l = rZ a r → m ≤ 1000000 → bw (d + 3) 195 1 ([some (.ref 81), some (.int (nN r)), some (.int (nN m)), some (.int (nN k))], [], M) Q = Q (.inl (some (.int (nN (lp l k m (fun k m => min m (c (rE a r k)))))))) M := by
    intro l
    induction l with
    | zero =>
      intro k m hk hm
      have c2 : rZ a r ≤ k := by omega
      rw [e_195_1]
      simp (disch := omega) only [q_ldc_i, q_istore2, q_iconst, q_istore3, q_nop, q_iload3, q_aload0, q_aload0N, q_get_r, pTag_1, pRf_s, q_iload1, q_invs2_21, q_ic_ge, q_iload2, q_invv2, inv_1, q_min, q_iinc3, q_goto, q_iret, e_195_0, e_195_2, L_0, L_1, L_1000000, k_some, k_none, pRm_i, pRm_r, pRm_0, pF_1, pF_2, inv_s, k81, k3, pd, p7, w_atN k23, e1, c2, gS_sI, gP_sI, gI_sI, Nat.add_left_cancel_iff, Nat.add_eq_left, Nat.left_eq_add, nN_le, nN_lt, nN_eq, nN_add, nN_mul, nN_lt0, nN_ge0, nN_gt0, nN_le0, nN_eq0, nN_eq1, nN_neN, pIn_n, pIx_n, eq_self, Nat.reduceLT, Bool.false_eq_true, Nat.add_zero, Nat.zero_add, Nat.reduceAdd, Nat.reduceMul, Nat.reduceSub, Nat.zero_le, Nat.reduceLeDiff, Nat.reduceEqDiff, Nat.le_refl, not_false_eq_true, not_true_eq_false, false_implies, true_implies, forall_const, true_and, and_true, if_true, if_false, implies_true, and_self, ne_eq, false_and, and_false, or_false, false_or, true_or, or_true]
      rfl
    | succ l ih =>
      intro k m hk hm
      have c2 : ¬ rZ a r ≤ k := by omega
      have k9 : k < rZ a r := by omega
      have hE := rE_144 hw hr k9
      have ge := o.at hw hr k9
      have b1 := hc (rE a r k)
      have e2 : (if c (rE a r k) < m then nN (c (rE a r k)) else nN m) = nN (min m (c (rE a r k))) := by
        by_cases b : c (rE a r k) < m
        · rw [if_pos b, Nat.min_eq_right (by omega)]
        · rw [if_neg b, Nat.min_eq_left (by omega)]
      rw [e_195_1]
      simp (disch := omega) only [q_ldc_i, q_istore2, q_iconst, q_istore3, q_nop, q_iload3, q_aload0, q_aload0N, q_get_r, pTag_1, pRf_s, q_iload1, q_invs2_21, q_ic_ge, q_iload2, q_invv2, inv_1, q_min, q_iinc3, q_goto, q_iret, e_195_0, e_195_2, L_0, L_1, L_1000000, k_some, k_none, pRm_i, pRm_r, pRm_0, pF_1, pF_2, inv_s, k81, k3, pa, pd, p7, w_atN k23, w_atN k82, e1, c2, w_debtPlace s hw hr k9, ge, e2, gS_sI, gP_sI, gI_sI, Nat.add_left_cancel_iff, Nat.add_eq_left, Nat.left_eq_add, nN_le, nN_lt, nN_eq, nN_add, nN_mul, nN_lt0, nN_ge0, nN_gt0, nN_le0, nN_eq0, nN_eq1, nN_neN, pIn_n, pIx_n, eq_self, Nat.reduceLT, Bool.false_eq_true, Nat.add_zero, Nat.zero_add, Nat.reduceAdd, Nat.reduceMul, Nat.reduceSub, Nat.zero_le, Nat.reduceLeDiff, Nat.reduceEqDiff, Nat.le_refl, not_false_eq_true, not_true_eq_false, false_implies, true_implies, forall_const, true_and, and_true, if_true, if_false, implies_true, and_self, ne_eq, false_and, and_false, or_false, false_or, true_or, or_true]
      exact ih (k + 1) _ (by omega) (by omega)
  exact key (rZ a r) 0 1000000 (by omega) (by omega)
theorem w_takeFrom (s : RoS M a) (hw : Wf a) (hd : Rd a) (o : OwC M 82 (nP a) c) (hr : r < nR a) (hv : ∀ i, i < rZ a r → nN (c (rE a r i)) + -w = nN (c2 (rE a r i))) (h0 : ∀ p, ¬ isE a r p = true → c2 p = c p) : mw (d + 4) 196 [.ref 81, .int (nN r), .int w] M (fun o M' => o = .inl none ∧ OwC M' 82 (nP a) c2 ∧ Ag (fun h _ => h = 82) M M') := by
  obtain ⟨h1, h2, h3, h4⟩ := rg_ok hw hr
  have hR := hw.r'
  have hp' := hw.p'
  simp (disch := omega) only [m_196, q_iconst, q_istore3, q_nop, q_iload3, q_aload0, q_aload0N, q_get_r, pTag_1, pRf_s, q_iload1, q_invs2_21, q_ic_ge, q_invv2, inv_1, q_iload2, q_ineg, q_invs3_21, q_iinc3, q_goto, q_vret, e_196_0, e_196_2, L_0, L_1, k_some, k_none, pRm_i, pRm_r, pRm_0, pF_1, pF_2, inv_s, eq_self, Nat.reduceLT, Bool.false_eq_true, Nat.add_zero, Nat.zero_add, Nat.reduceAdd, Nat.reduceMul, Nat.reduceSub, Nat.zero_le, Nat.reduceLeDiff, Nat.reduceEqDiff, Nat.le_refl, not_false_eq_true, not_true_eq_false, false_implies, true_implies, forall_const, true_and, and_true, if_true, if_false, implies_true, and_self, ne_eq, false_and, and_false, or_false, false_or, true_or, or_true]
  refine loopR (n := rZ a r) (J := Unit) (C := fun k _ _ M => ([some (.ref 81), some (.int (nN r)), some (.int w), some (.int (nN k))], [], M)) (f := fun _ (_ : Unit) => ()) (R := fun k _ M1 => Ag (fun h _ => h = 82) M M1 ∧ (∀ i, i < k → gI M1 82 (rE a r i) = nN (c2 (rE a r i))) ∧ ∀ i j, i < nP a → j < nP a → (∀ q, q < k → 12 * i + j ≠ rE a r q) → gI M1 82 (12 * i + j) = nN (c (12 * i + j))) ?_ (rZ a r) 0 () () M (by omega) ⟨Ag.rfl, fun i hi => absurd hi (by omega), fun i j h1 h2 _ => o i j h1 h2⟩ ?_
  · rintro k _ _ M1 hk ⟨A1, e1, e2⟩ go
    have s1 := s.ag (A1.mono fun h k z => Or.inr (Or.inl z))
    have k81 := s1.k81
    have k82 := s1.k82
    have pa := s1.pa
    have pd := s1.pd
    have k3 : gS M1 3 = (9, 0) := s1.r.sh.k0
    have k23 : gS M1 23 = (100, 8) := s1.r.sh.k20
    have p7 : gP M1 3 7 = some 23 := s1.r.sh.p7
    have e3 : gI M1 23 r = nN (rZ a r) := by have := s1.r.rs r hr; rw [h3] at this; exact this
    have c9 : ¬ rZ a r ≤ k := by omega
    have hE := rE_144 hw hr hk
    have ge : gI M1 82 (rE a r k) = nN (c (rE a r k)) := by
      obtain ⟨x, y, g1, g2, g3, -⟩ := rE_in hw hr hk
      rw [g3]
      refine e2 x y g1 g2 fun q hq z => ?_
      rw [← g3] at z
      have := rE_ne hw hd hr hk (show q < rZ a r by omega) z
      omega
    have hv9 := hv k hk
    rw [e_196_1]
    simp (disch := omega) only [q_iconst, q_istore3, q_nop, q_iload3, q_aload0, q_aload0N, q_get_r, pTag_1, pRf_s, q_iload1, q_invs2_21, q_ic_ge, q_invv2, inv_1, q_iload2, q_ineg, q_invs3_21, q_iinc3, q_goto, q_vret, e_196_0, e_196_2, L_0, L_1, k_some, k_none, pRm_i, pRm_r, pRm_0, pF_1, pF_2, inv_s, k81, k3, pa, pd, p7, w_atN k23, w_addN k82, e3, c9, w_debtPlace s1 hw hr hk, ge, hv9, gS_sI, gP_sI, gI_sI, Nat.add_left_cancel_iff, Nat.add_eq_left, Nat.left_eq_add, nN_le, nN_lt, nN_eq, nN_add, nN_mul, nN_lt0, nN_ge0, nN_gt0, nN_le0, nN_eq0, nN_eq1, nN_neN, pIn_n, pIx_n, eq_self, Nat.reduceLT, Bool.false_eq_true, Nat.add_zero, Nat.zero_add, Nat.reduceAdd, Nat.reduceMul, Nat.reduceSub, Nat.zero_le, Nat.reduceLeDiff, Nat.reduceEqDiff, Nat.le_refl, not_false_eq_true, not_true_eq_false, false_implies, true_implies, forall_const, true_and, and_true, if_true, if_false, implies_true, and_self, ne_eq, false_and, and_false, or_false, false_or, true_or, or_true]
    refine go _ () ⟨Ag.put A1 rfl, fun i hi => ?_, fun i j g1 g2 g3 => ?_⟩
    · rw [gI_sI]
      by_cases b : rE a r i = rE a r k
      · rw [if_pos ⟨rfl, b⟩, b]
      · rw [if_neg (fun z => b z.2)]
        refine e1 i ?_
        refine Classical.byContradiction fun z => b ?_
        rw [show i = k from by omega]
    · rw [gI_sI, if_neg (fun z => g3 k (by omega) z.2)]
      exact e2 i j g1 g2 fun q hq => g3 q (by omega)
  · rintro M1 _ ⟨A1, e1, e2⟩
    have s1 := s.ag (A1.mono fun h k z => Or.inr (Or.inl z))
    have k81 := s1.k81
    have pd := s1.pd
    have k3 : gS M1 3 = (9, 0) := s1.r.sh.k0
    have k23 : gS M1 23 = (100, 8) := s1.r.sh.k20
    have p7 : gP M1 3 7 = some 23 := s1.r.sh.p7
    have e3 : gI M1 23 r = nN (rZ a r) := by have := s1.r.rs r hr; rw [h3] at this; exact this
    rw [e_196_1]
    simp (disch := omega) only [q_iconst, q_istore3, q_nop, q_iload3, q_aload0, q_aload0N, q_get_r, pTag_1, pRf_s, q_iload1, q_invs2_21, q_ic_ge, q_invv2, inv_1, q_iload2, q_ineg, q_invs3_21, q_iinc3, q_goto, q_vret, e_196_0, e_196_2, L_0, L_1, k_some, k_none, pRm_i, pRm_r, pRm_0, pF_1, pF_2, inv_s, k81, k3, pd, p7, w_atN k23, e3, gS_sI, gP_sI, gI_sI, Nat.add_left_cancel_iff, Nat.add_eq_left, Nat.left_eq_add, nN_le, nN_lt, nN_eq, nN_add, nN_mul, nN_lt0, nN_ge0, nN_gt0, nN_le0, nN_eq0, nN_eq1, nN_neN, pIn_n, pIx_n, eq_self, Nat.reduceLT, Bool.false_eq_true, Nat.add_zero, Nat.zero_add, Nat.reduceAdd, Nat.reduceMul, Nat.reduceSub, Nat.zero_le, Nat.reduceLeDiff, Nat.reduceEqDiff, Nat.le_refl, not_false_eq_true, not_true_eq_false, false_implies, true_implies, forall_const, true_and, and_true, if_true, if_false, implies_true, and_self, ne_eq, false_and, and_false, or_false, false_or, true_or, or_true]
    refine ⟨fun i j g1 g2 => ?_, A1⟩
    by_cases b : isE a r (12 * i + j) = true
    · obtain ⟨q, b1, b2⟩ := isE_iff.mp b
      rw [b2]
      exact e1 q b1
    · rw [h0 _ b]
      exact e2 i j g1 g2 fun q hq z => b (isE_iff.mpr ⟨q, hq, z⟩)
theorem w_mostToCome (s : RoS M a) (hw : Wf a) (o : OwC M 82 (nP a) c) (hc : ∀ p, c p < 4000) (hu : used < 256) : mw (d + 5) 193 [.ref 81, .int (nN used)] M Q = Q (.inl (some (.int (nN (rMo a c used))))) M := by
  have hR := hw.r'
  have hR5 := hw.r
  have k81 := s.k81
  have pd := s.pd
  have k3 : gS M 3 = (9, 0) := s.r.sh.k0
  have k23 : gS M 23 = (100, 8) := s.r.sh.k20
  have p7 : gP M 3 7 = some 23 := s.r.sh.p7
  have nr : gI M 3 11 = nN (nR a) := s.r.nr.trans hR5
  simp (disch := omega) only [m_193, q_iconst, q_istore2, q_istore3, q_nop, q_iload3, q_aload0, q_aload0N, q_get_r, pTag_1, pRf_s, q_get_i, q_ic_ge, q_iload1, q_invs2_21, q_if_ne, q_iload2, q_invv1, inv_1, q_imul, q_iadd, q_iinc3, q_goto, q_iret, e_193_0, e_193_3, L_0, L_1, k_some, k_none, pRm_i, pRm_r, pRm_0, pF_1, pF_2, inv_s, eq_self, Nat.reduceLT, Bool.false_eq_true, Nat.add_zero, Nat.zero_add, Nat.reduceAdd, Nat.reduceMul, Nat.reduceSub, Nat.zero_le, Nat.reduceLeDiff, Nat.reduceEqDiff, Nat.le_refl, not_false_eq_true, not_true_eq_false, false_implies, true_implies, forall_const, true_and, and_true, if_true, if_false, implies_true, and_self, ne_eq, false_and, and_false, or_false, false_or, true_or, or_true]
  rw [lp_rule (n := nR a) (C := fun r m => ([some (.ref 81), some (.int (nN used)), some (.int (nN m)), some (.int (nN r))], [], M)) (f := fun r s => s + if used.testBit r = true then 0 else rL a c r * rZ a r) ?_ (nR a) 0 0 (by omega)]
  · rw [e_193_1]
    simp (disch := omega) only [q_iconst, q_istore2, q_istore3, q_nop, q_iload3, q_aload0, q_aload0N, q_get_r, pTag_1, pRf_s, q_get_i, q_ic_ge, q_iload1, q_invs2_21, q_if_ne, q_iload2, q_invv1, inv_1, q_imul, q_iadd, q_iinc3, q_goto, q_iret, e_193_0, e_193_3, L_0, L_1, k_some, k_none, pRm_i, pRm_r, pRm_0, pF_1, pF_2, inv_s, k81, k3, pd, nr, gS_sI, gP_sI, gI_sI, Nat.add_left_cancel_iff, Nat.add_eq_left, Nat.left_eq_add, nN_le, nN_lt, nN_eq, nN_add, nN_mul, nN_lt0, nN_ge0, nN_gt0, nN_le0, nN_eq0, nN_eq1, nN_neN, pIn_n, pIx_n, eq_self, Nat.reduceLT, Bool.false_eq_true, Nat.add_zero, Nat.zero_add, Nat.reduceAdd, Nat.reduceMul, Nat.reduceSub, Nat.zero_le, Nat.reduceLeDiff, Nat.reduceEqDiff, Nat.le_refl, not_false_eq_true, not_true_eq_false, false_implies, true_implies, forall_const, true_and, and_true, if_true, if_false, implies_true, and_self, ne_eq, false_and, and_false, or_false, false_or, true_or, or_true]
    rfl
  · intro r m hr
    obtain ⟨h1, h2, h3, h4⟩ := rg_ok hw hr
    have e3 : gI M 23 r = nN (rZ a r) := by have := s.r.rs r hr; rw [h3] at this; exact this
    have c9 : ¬ nR a ≤ r := by omega
    have bt := bit_nN (s := used) (h := r) (by omega) (by omega)
    rw [e_193_1]
    by_cases b : used.testBit r = true
    · rw [b] at bt
      simp (disch := omega) only [q_iconst, q_istore2, q_istore3, q_nop, q_iload3, q_aload0, q_aload0N, q_get_r, pTag_1, pRf_s, q_get_i, q_ic_ge, q_iload1, q_invs2_21, q_if_ne, q_iload2, q_invv1, inv_1, q_imul, q_iadd, q_iinc3, q_goto, q_iret, e_193_0, e_193_2, e_193_3, L_0, L_1, k_some, k_none, pRm_i, pRm_r, pRm_0, pF_1, pF_2, inv_s, k81, k3, pd, nr, c9, w_hasBit, bt, bI_eq0, b, gS_sI, gP_sI, gI_sI, Nat.add_left_cancel_iff, Nat.add_eq_left, Nat.left_eq_add, nN_le, nN_lt, nN_eq, nN_add, nN_mul, nN_lt0, nN_ge0, nN_gt0, nN_le0, nN_eq0, nN_eq1, nN_neN, pIn_n, pIx_n, eq_self, Nat.reduceLT, Bool.false_eq_true, Nat.add_zero, Nat.zero_add, Nat.reduceAdd, Nat.reduceMul, Nat.reduceSub, Nat.zero_le, Nat.reduceLeDiff, Nat.reduceEqDiff, Nat.le_refl, not_false_eq_true, not_true_eq_false, false_implies, true_implies, forall_const, true_and, and_true, if_true, if_false, implies_true, and_self, ne_eq, false_and, and_false, or_false, false_or, true_or, or_true]
    · have bt2 : ((nN used >>> (nN r &&& 31)) &&& nN 1 = nN 1) = False := by rw [bt]; exact eq_false b
      simp (disch := omega) only [q_iconst, q_istore2, q_istore3, q_nop, q_iload3, q_aload0, q_aload0N, q_get_r, pTag_1, pRf_s, q_get_i, q_ic_ge, q_iload1, q_invs2_21, q_if_ne, q_iload2, q_invv1, inv_1, q_imul, q_iadd, q_iinc3, q_goto, q_iret, e_193_0, e_193_2, e_193_3, L_0, L_1, k_some, k_none, pRm_i, pRm_r, pRm_0, pF_1, pF_2, inv_s, k81, k3, pd, p7, nr, c9, w_hasBit, bt2, bI_eq0, b, w_leastOwed (d := d) s hw o hc hr, w_atN k23, e3, gS_sI, gP_sI, gI_sI, Nat.add_left_cancel_iff, Nat.add_eq_left, Nat.left_eq_add, nN_le, nN_lt, nN_eq, nN_add, nN_mul, nN_lt0, nN_ge0, nN_gt0, nN_le0, nN_eq0, nN_eq1, nN_neN, pIn_n, pIx_n, eq_self, Nat.reduceLT, Bool.false_eq_true, Nat.add_zero, Nat.zero_add, Nat.reduceAdd, Nat.reduceMul, Nat.reduceSub, Nat.zero_le, Nat.reduceLeDiff, Nat.reduceEqDiff, Nat.le_refl, not_false_eq_true, not_true_eq_false, false_implies, true_implies, forall_const, true_and, and_true, if_true, if_false, implies_true, and_self, ne_eq, false_and, and_false, or_false, false_or, true_or, or_true]
end CR
