/-! THE LIVE TOWN BECOMES another one -/
def CK (M : pMem) (ak : Nat → Int32) (img : Bool) (n : Nat) (b : Nat → Nat) (fl : Int32) : Prop := (ShF (gS M) (gP M)) ∧ (img = true → Rep M 25 ak) ∧ (img = true → TmR M 25 ak) ∧ (QO M 25) ∧ (gI M 69 2 = nN 14) ∧ (gI M 72 2 = nN 12) ∧ (gI M 1 1 = nN n) ∧ (∀ k, k < n → gI M 2 k = nN (b k)) ∧ (gI M 0 9 = bI (img = true)) ∧ (gI M 0 10 = fl)
theorem CK.mk {M : pMem} {ak : Nat → Int32} {img : Bool} {n : Nat} {b : Nat → Nat} {fl : Int32} (sh : ShF (gS M) (gP M)) (kr : img = true → Rep M 25 ak) (kt : img = true → TmR M 25 ak) (qk : QO M 25) (l69 : gI M 69 2 = nN 14) (l72 : gI M 72 2 = nN 12) (tn : gI M 1 1 = nN n) (tb : ∀ k, k < n → gI M 2 k = nN (b k)) (im : gI M 0 9 = bI (img = true)) (fo : gI M 0 10 = fl) : CK M ak img n b fl := ⟨sh, kr, kt, qk, l69, l72, tn, tb, im, fo⟩
theorem CK.sh {M : pMem} {ak : Nat → Int32} {img : Bool} {n : Nat} {b : Nat → Nat} {fl : Int32} (h : CK M ak img n b fl) : ShF (gS M) (gP M) := And.left h
theorem CK.kr {M : pMem} {ak : Nat → Int32} {img : Bool} {n : Nat} {b : Nat → Nat} {fl : Int32} (h : CK M ak img n b fl) : img = true → Rep M 25 ak := And.left (And.right h)
theorem CK.kt {M : pMem} {ak : Nat → Int32} {img : Bool} {n : Nat} {b : Nat → Nat} {fl : Int32} (h : CK M ak img n b fl) : img = true → TmR M 25 ak := And.left (And.right (And.right h))
theorem CK.qk {M : pMem} {ak : Nat → Int32} {img : Bool} {n : Nat} {b : Nat → Nat} {fl : Int32} (h : CK M ak img n b fl) : QO M 25 := And.left (And.right (And.right (And.right h)))
theorem CK.l69 {M : pMem} {ak : Nat → Int32} {img : Bool} {n : Nat} {b : Nat → Nat} {fl : Int32} (h : CK M ak img n b fl) : gI M 69 2 = nN 14 := And.left (And.right (And.right (And.right (And.right h))))
theorem CK.l72 {M : pMem} {ak : Nat → Int32} {img : Bool} {n : Nat} {b : Nat → Nat} {fl : Int32} (h : CK M ak img n b fl) : gI M 72 2 = nN 12 := And.left (And.right (And.right (And.right (And.right (And.right h)))))
theorem CK.tn {M : pMem} {ak : Nat → Int32} {img : Bool} {n : Nat} {b : Nat → Nat} {fl : Int32} (h : CK M ak img n b fl) : gI M 1 1 = nN n := And.left (And.right (And.right (And.right (And.right (And.right (And.right h))))))
theorem CK.tb {M : pMem} {ak : Nat → Int32} {img : Bool} {n : Nat} {b : Nat → Nat} {fl : Int32} (h : CK M ak img n b fl) : ∀ k, k < n → gI M 2 k = nN (b k) := And.left (And.right (And.right (And.right (And.right (And.right (And.right (And.right h)))))))
theorem CK.im {M : pMem} {ak : Nat → Int32} {img : Bool} {n : Nat} {b : Nat → Nat} {fl : Int32} (h : CK M ak img n b fl) : gI M 0 9 = bI (img = true) := And.left (And.right (And.right (And.right (And.right (And.right (And.right (And.right (And.right h))))))))
theorem CK.fo {M : pMem} {ak : Nat → Int32} {img : Bool} {n : Nat} {b : Nat → Nat} {fl : Int32} (h : CK M ak img n b fl) : gI M 0 10 = fl := And.right (And.right (And.right (And.right (And.right (And.right (And.right (And.right (And.right h))))))))
/-- what a call on the class may change, but what the image keeps -/
def XL (S : Nat → Nat × Nat) (P : Nat → Nat → Option Nat) (h k : Nat) : Prop := LoX h k ∨ XTw S P 3 h k
section LV
variable {d t n u q m c s p x y v k K lo f : Nat} {a a' ak : Nat → Int32} {img : Bool} {b b' : Nat → Nat} {fl fl' : Int32} {M M1 M2 M3 M' : pMem} {Q : pOut → pMem → Prop}
theorem CI.ck (c : CI M a ak img n b fl) : CK M ak img n b fl := CK.mk c.sh c.kr c.kt c.qk c.l69 c.l72 c.tn c.tb c.im c.fo
theorem CK.ci (c : CK M ak img n b fl) (hr : Rep M 3 a) (hT : TmR M 3 a) (hq : QO M 3) : CI M a ak img n b fl := CI.mk c.sh hr hT c.kr c.kt hq c.qk c.l69 c.l72 c.tn c.tb c.im c.fo
theorem XL_no {S : Nat → Nat × Nat} {P : Nat → Nat → Option Nat} {h k : Nat} (z : (h = 2) ∨ (25 ≤ h ∧ h ≤ 68) ∨ ((h = 69 ∨ h = 72) ∧ k < 5) ∨ (h = 0 ∧ k = 9) ∨ (76 ≤ h ∧ h ≤ 100)) : ¬ XL S P h k := by
  rintro (z2 | z2 | ⟨q, ⟨z2, -⟩, z3 | ⟨z3, -⟩⟩)
  · unfold LoX at z2; omega
  · omega
  · omega
  · omega
theorem XL_XA {S : Nat → Nat × Nat} {P : Nat → Nat → Option Nat} : ∀ h k, XL S P h k → XA S P h k := by
  rintro h k (z | z)
  · exact Or.inl (by unfold LoX at z; omega)
  · exact XTw_XA (by omega) h k z
theorem CK.xl (c : CK M ak img n b fl) (A : Ag (XL (gS M) (gP M)) M M') (tn : gI M' 1 1 = nN m) (hm : m ≤ n) (fo : gI M' 0 10 = fl') : CK M' ak img m b fl' := by
  refine CK.mk (by rw [A.S, A.P]; exact c.sh) (fun z => (c.kr z).ag A (fun h k h1 h2 h3 => XL_no (by omega))) (fun z => (c.kt z).agA (A.mono XL_XA)) ?_ ?_ ?_ tn ?_ ?_ fo
  · intro k hk q hq; rw [A.P] at hq; rw [A.S]; exact c.qk k hk q hq
  · rw [A.I (XL_no (by omega))]; exact c.l69
  · rw [A.I (XL_no (by omega))]; exact c.l72
  · intro k hk; rw [A.I (XL_no (by omega))]; exact c.tb k (by omega)
  · rw [A.I (XL_no (by omega))]; exact c.im
theorem XL_mf (sh : ShF (gS M) (gP M)) : ∀ h k, (86 ≤ h ∧ h ≤ 100) ∨ h = 900000 → ¬ XL (gS M) (gP M) h k := by
  rintro h k (z | rfl)
  · exact XL_no (by omega)
  · rintro (z2 | z2 | ⟨q, z2, z3⟩)
    · unfold LoX at z2; omega
    · omega
    · exact TSh_900 sh z2 z3
/-- as bk_sh for all of the class -/
theorem ShF.bk {L : List Nat} {F : List (Nat × Nat)} (h : ShF (gS M) (gP M)) (hb : Bk M M' 3 s L F) : ShF (gS M') (gP M') := by
  have q9 : ∀ h k, h ≠ 18 → gP M' h k = gP M h k := fun h k hh => hb.2.1 h k (by omega)
  have t3 := hb.sh h.t3 (by omega)
  have t25 := hb.sh h.t25 (by omega)
  have t47 := hb.sh h.t47 (by omega)
  have e0 : ∀ k, gP M' 0 k = gP M 0 k := fun k => q9 _ _ (by omega)
  have e1 : ∀ k, gP M' 1 k = gP M 1 k := fun k => q9 _ _ (by omega)
  have e69 : ∀ k, gP M' 69 k = gP M 69 k := fun k => q9 _ _ (by omega)
  have e72 : ∀ k, gP M' 72 k = gP M 72 k := fun k => q9 _ _ (by omega)
  have e76 : ∀ k, gP M' 76 k = gP M 76 k := fun k => q9 _ _ (by omega)
  have e81 : ∀ k, gP M' 81 k = gP M 81 k := fun k => q9 _ _ (by omega)
  rw [hb.1.1] at t3 t25 t47
  unfold ShF at h ⊢
  simp only [hb.1.1, e0, e1, e69, e72, e76, e81]
  exact ⟨h.1, h.2.1, h.2.2.1, h.2.2.2.1, h.2.2.2.2.1, h.2.2.2.2.2.1, h.2.2.2.2.2.2.1, h.2.2.2.2.2.2.2.1, h.2.2.2.2.2.2.2.2.1, h.2.2.2.2.2.2.2.2.2.1, h.2.2.2.2.2.2.2.2.2.2.1, h.2.2.2.2.2.2.2.2.2.2.2.1, h.2.2.2.2.2.2.2.2.2.2.2.2.1, t3, t25, t47, h.2.2.2.2.2.2.2.2.2.2.2.2.2.2.2.2⟩
theorem live_become (c : CK M ak img n b fl) (hk : img = true → Wf ak) (hs : s = 25 ∨ s = 47) (ht : t = 3) (hr : Rep M s a) (hw : Wf a) (hT : TmR M s a) (hq : QO M s) : mw (d + 8) 216 [.ref t, .ref s] M (fun o M' => o = .inl none ∧ CI M' a ak img n b fl ∧ CF M M') := by
  have ht3 : ShT (gS M) (gP M) t := by rw [ht]; exact c.sh.t3
  refine mw_mono (w_become (by omega) hr.sh ht3 hq) ?_
  rintro _ M1 ⟨rfl, B1, P1⟩
  subst ht
  have w9 : ∀ h k, ¬ (3 ≤ h ∧ h < 25) → gI M1 h k = gI M h k := fun h k hh => B1.2.2.1 h k (by omega)
  have q9 : ∀ h k, h ≠ 18 → gP M1 h k = gP M h k := fun h k hh => B1.2.1 h k (by omega)
  refine ⟨rfl, CI.mk (c.sh.bk B1) (rep_become hr hw ht3 B1) (TmR.become hT hw B1 (by omega) P1) (fun z => rep_other B1 (c.kr z) (hk z) (by omega)) (fun z => TmR.other (c.kt z) B1 (by omega) (by omega)) ?_ ?_ ?_ ?_ ?_ ?_ ?_ ?_, B1.low (by omega)⟩
  · intro k hk q hq'
    have hq' : gP M1 (3 + 15) k = some q := hq'
    rw [P1 k hk] at hq'
    show (gS M1 q).1 = 7
    rw [B1.1.1]
    exact hq k hk q hq'
  · intro k hk q hq'
    have hq' : gP M1 (25 + 15) k = some q := hq'
    rw [q9 _ _ (by omega)] at hq'
    show (gS M1 q).1 = 7
    rw [B1.1.1]
    exact c.qk k hk q hq'
  · rw [w9 _ _ (by omega)]; exact c.l69
  · rw [w9 _ _ (by omega)]; exact c.l72
  · rw [w9 _ _ (by omega)]; exact c.tn
  · intro k hk; rw [w9 _ _ (by omega)]; exact c.tb k hk
  · rw [w9 _ _ (by omega)]; exact c.im
  · rw [w9 _ _ (by omega)]; exact c.fo
/-- back() -/
theorem c_back (c : CI M a ak img n b fl) (hk : img = true → Wf ak) : mw (d + 9) 35 [.ref 0] M (fun o M' => o = .inl (some (.int (bI (img = true)))) ∧ CI M' (if img = true then ak else a) ak img n b fl ∧ CF M M') := by
  have k0 := c.sh.k0
  have im := c.im
  cases img with
  | false =>
    have im : gI M 0 9 = nN 0 := im
    simp (disch := omega) only [m_35, q_aload0, q_aload0N, q_get_z, pTag_1, pRf_s, q_if_ne, q_iconst, q_zret, q_get_r, q_invv1, inv_1, e_35_0, e_35_1, L_0, L_1, k_some, k_none, pRm_i, pRm_r, pRm_0, pF_1, pF_2, inv_s, k0, im, zb_0, nN_le, nN_lt, nN_eq, nN_add, nN_mul, nN_lt0, nN_ge0, nN_gt0, nN_le0, nN_eq0, nN_eq1, nN_neN, pIn_n, pIx_n, eq_self, Nat.reduceLT, Bool.false_eq_true, Nat.add_zero, Nat.zero_add, Nat.reduceAdd, Nat.reduceMul, Nat.reduceSub, Nat.zero_le, Nat.reduceLeDiff, Nat.reduceEqDiff, Nat.le_refl, not_false_eq_true, not_true_eq_false, false_implies, true_implies, forall_const, true_and, and_true, if_true, if_false, implies_true, and_self, ne_eq, false_and, and_false, or_false, false_or, true_or, or_true]
    exact ⟨rfl, c, CF.rfl⟩
  | true =>
    obtain ⟨t, ht⟩ : ∃ t : Nat, t = 3 := ⟨3, rfl⟩
    obtain ⟨s, hs⟩ : ∃ s : Nat, s = 25 := ⟨25, rfl⟩
    have p1 : gP M 0 1 = some t := by rw [ht]; exact c.sh.p1
    have p2 : gP M 0 2 = some s := by rw [hs]; exact c.sh.p2
    have hS : (gS M t).1 = 9 := by rw [ht]; rw [c.sh.t3.k0]
    have im : gI M 0 9 = nN 1 := im
    simp (disch := omega) only [m_35, q_aload0, q_aload0N, q_get_z, pTag_1, pRf_s, q_if_ne, q_iconst, q_zret, q_get_r, q_invv1, inv_1, e_35_0, e_35_1, L_0, L_1, k_some, k_none, pRm_i, pRm_r, pRm_0, pF_1, pF_2, inv_s, k0, im, p1, p2, hS, nN_le, nN_lt, nN_eq, nN_add, nN_mul, nN_lt0, nN_ge0, nN_gt0, nN_le0, nN_eq0, nN_eq1, nN_neN, pIn_n, pIx_n, eq_self, Nat.reduceLT, Bool.false_eq_true, Nat.add_zero, Nat.zero_add, Nat.reduceAdd, Nat.reduceMul, Nat.reduceSub, Nat.zero_le, Nat.reduceLeDiff, Nat.reduceEqDiff, Nat.le_refl, not_false_eq_true, not_true_eq_false, false_implies, true_implies, forall_const, true_and, and_true, if_true, if_false, implies_true, and_self, ne_eq, false_and, and_false, or_false, false_or, true_or, or_true]
    refine mw_mono (live_become c.ck hk (Or.inl hs) ht (by rw [hs]; exact c.kr rfl) (hk rfl) (by rw [hs]; exact c.kt rfl) (by rw [hs]; exact c.qk)) ?_
    rintro _ M1 ⟨rfl, c1, F1⟩
    simp (disch := omega) only [q_aload0, q_aload0N, q_get_z, pTag_1, pRf_s, q_if_ne, q_iconst, q_zret, q_get_r, q_invv1, inv_1, e_35_0, e_35_1, L_0, L_1, k_some, k_none, pRm_i, pRm_r, pRm_0, pF_1, pF_2, inv_s, zb_1, nN_le, nN_lt, nN_eq, nN_add, nN_mul, nN_lt0, nN_ge0, nN_gt0, nN_le0, nN_eq0, nN_eq1, nN_neN, pIn_n, pIx_n, eq_self, Nat.reduceLT, Bool.false_eq_true, Nat.add_zero, Nat.zero_add, Nat.reduceAdd, Nat.reduceMul, Nat.reduceSub, Nat.zero_le, Nat.reduceLeDiff, Nat.reduceEqDiff, Nat.le_refl, not_false_eq_true, not_true_eq_false, false_implies, true_implies, forall_const, true_and, and_true, if_true, if_false, implies_true, and_self, ne_eq, false_and, and_false, or_false, false_or, true_or, or_true]
    exact ⟨rfl, c1, F1⟩
end LV
