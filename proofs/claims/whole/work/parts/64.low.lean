/-! CHANGES BELOW THE FAVOURS; has, look, hand, enough, witness -/
def aU (a : Nat → Int32) (i : Nat) (v : Int32) : Nat → Int32 := fun j => if j = i then v else a j
theorem aU_ne {a : Nat → Int32} {i j : Nat} {v : Int32} (h : j ≠ i) : aU a i v j = a j := if_neg h
theorem aU_eq {a : Nat → Int32} {i : Nat} {v : Int32} : aU a i v i = v := if_pos rfl
section LO
variable {d t n : Nat} {a a' ak : Nat → Int32} {img : Bool} {b : Nat → Nat} {fl : Int32} {M M1 M2 M' : pMem} {Q : pOut → pMem → Prop} {x y z : Int32} {p q f g k : Nat}
theorem rich_hi (hi : ∀ j, 140 ≤ j → a' j = a j) (e3 : a' 3 = a 3) : sRich a' x = sRich a x := by
  have ef : ∀ f z, fa a' f z = fa a f z := fun f z => hi _ (by omega)
  have eF : nF a' = nF a := by unfold nF; rw [e3]
  simp only [sRich, eF, ef]
theorem debt_hi (hi : ∀ j, 140 ≤ j → a' j = a j) (e3 : a' 3 = a 3) : sDebt a' x = sDebt a x := by
  have ef : ∀ f z, fa a' f z = fa a f z := fun f z => hi _ (by omega)
  have eF : nF a' = nF a := by unfold nF; rw [e3]
  simp only [sDebt, eF, ef]
theorem wf_lo (hw : Wf a) (hi : ∀ j, 140 ≤ j → a' j = a j) (e3 : a' 3 = a 3) (hP : nP a ≤ nP a')
    (h1 : a' 1 = nN (nP a')) (h1' : nP a' ≤ 12) (h2 : a' 2 = nN (nT a')) (h2' : nT a' ≤ 6) (h4 : a' 4 = nN (nE a')) (h4' : nE a' ≤ 12) (h5 : a' 5 = nN (nR a')) (h5' : nR a' ≤ 8)
    (law : ∃ l, l ≤ 10 ∧ a' 7 = nN l) (texts : ∃ l, l ≤ 10 ∧ a' 0 = nN l) (lim : ∀ q, q < nP a' → ∃ l, l ≤ 999 ∧ pa a' q 0 = nN l) (tmp : ∀ q, q < nP a' → pa a' q 1 = iN (-1) ∨ ∃ k, k < nT a' ∧ pa a' q 1 = nN k) (near : ∀ q, q < nP a' → ∃ v, v < 4096 ∧ pa a' q 2 = nN v)
    (need : ∀ k, k < nE a' → ∃ x y n, x < nP a' ∧ y < nP a' ∧ x ≠ y ∧ 1 ≤ n ∧ n ≤ 99 ∧ ea a' k 0 = nN x ∧ ea a' k 1 = nN y ∧ ea a' k 2 = nN n) (ring : ∀ r, r < nR a' → ∃ n, 2 ≤ n ∧ n ≤ 6 ∧ ra a' r 0 = nN n ∧ ∀ k, k < n → ∃ q, q < nP a' ∧ ra a' r (1 + k) = nN q) : Wf a' := by
  have ef : ∀ f z, fa a' f z = fa a f z := fun f z => hi _ (by omega)
  have eF : nF a' = nF a := by unfold nF; rw [e3]
  have eD : ∀ f, fD a' f = fD a f := fun f => by unfold fD; rw [ef]
  refine Wf.mk h1 h1' h2 h2' (by rw [e3, eF]; exact hw.f) (by rw [eF]; exact hw.f') h4 h4' h5 h5' law texts lim tmp near ?_ ?_ ?_ ?_ ?_ need ring
  · rw [eF]; intro f hf; obtain ⟨g, g1, g2⟩ := hw.fG f hf; exact ⟨g, by omega, by rw [ef]; exact g2⟩
  · rw [eF]; intro f hf; rw [ef]; exact hw.fA f hf
  · rw [eF]; intro f hf; rw [ef]
    rcases hw.fH f hf with h | ⟨g, g1, g2⟩
    · exact Or.inl h
    · exact Or.inr ⟨g, by omega, g2⟩
  · rw [eF]; intro f hf; rw [eD, ef, ef]; exact hw.fD f hf
  · rw [eF]; intro f hf; rw [ef]; exact hw.fC f hf
theorem rep_lo (r : Rep M t a) (hi : ∀ j, 140 ≤ j → a' j = a j) (e3 : a' 3 = a 3) (sh : ShT (gS M') (gP M') t) (f7 : gI M' (t + 7) 7 = gI M (t + 7) 7) (fr : ∀ i k, 8 ≤ i → i ≤ 14 → gI M' (t + i) k = gI M (t + i) k)
    (np : gI M' (t + 1) 5 = a' 1) (nt : gI M' t 9 = a' 2) (ne : gI M' t 10 = a' 4) (nr : gI M' t 11 = a' 5) (nx : gI M' t 12 = a' 0) (day : gI M' t 13 = a' 6) (law : gI M' t 14 = a' 7)
    (lim : ∀ q, q < nP a' → gI M' (t + 2) q = pa a' q 0) (tmp : ∀ q, q < nP a' → gI M' (t + 3) q = pa a' q 1) (near : ∀ q, q < nP a' → gI M' (t + 4) q = pa a' q 2) (rich : ∀ q, q < nP a' → gI M' (t + 5) q = sRich a (nN q)) (debt : ∀ q, q < nP a' → gI M' (t + 6) q = sDebt a (nN q))
    (nb : ∀ k, k < nE a' → gI M' (t + 17) k = ea a' k 0) (no : ∀ k, k < nE a' → gI M' (t + 18) k = ea a' k 1) (nw : ∀ k, k < nE a' → gI M' (t + 19) k = ea a' k 2) (rs : ∀ r, r < nR a' → gI M' (t + 20) r = ra a' r 0) (rr : ∀ r k, r < nR a' → nN k < ra a' r 0 → k < 6 → gI M' (t + 21) (6 * r + k) = ra a' r (1 + k)) : Rep M' t a' := by
  have ef : ∀ f z, fa a' f z = fa a f z := fun f z => hi _ (by omega)
  have eF : nF a' = nF a := by unfold nF; rw [e3]
  have eD : ∀ f, fD a' f = fD a f := fun f => by unfold fD; rw [ef]
  refine Rep.mk sh np (by rw [f7, e3]; exact r.nf) nt ne nr nx day law lim tmp near (fun q hq => by rw [rich_hi hi e3]; exact rich q hq) (fun q hq => by rw [debt_hi hi e3]; exact debt q hq) ?_ ?_ ?_ ?_ ?_ ?_ ?_ nb no nw rs rr
  · rw [eF]; intro q hq; rw [fr _ _ (by omega) (by omega), ef]; exact r.g q hq
  · rw [eF]; intro q hq; rw [fr _ _ (by omega) (by omega), ef]; exact r.h q hq
  · rw [eF]; intro q hq; rw [fr _ _ (by omega) (by omega), ef]; exact r.am q hq
  · rw [eF]; intro q hq; rw [fr _ _ (by omega) (by omega), ef]; exact r.hd q hq
  · rw [eF]; intro q hq; rw [fr _ _ (by omega) (by omega), ef]; exact r.en q hq
  · rw [eF]; intro q hq; rw [fr _ _ (by omega) (by omega), ef]; exact r.fc q hq
  · rw [eF]; intro f k h1 h2; rw [eD] at h2; rw [fr _ _ (by omega) (by omega), ef]; exact r.row f k h1 h2
/-- a person has a temper -/
def sHas (a : Nat → Int32) (p : Nat) (v : Int32) : Nat → Int32 := aU a (10 + 3 * p + 1) v
theorem sHas_pa {w : Nat} {v : Int32} (hw : w < 3) : pa (sHas a p v) q w = if q = p ∧ w = 1 then v else pa a q w := by
  unfold pa sHas aU
  by_cases c : q = p ∧ w = 1
  · rw [if_pos c, if_pos (by omega)]
  · rw [if_neg c, if_neg (by omega)]
theorem sHas_lo {v : Int32} {j : Nat} (h : j < 10 ∨ 46 ≤ j) (hp : p < 12) : sHas a p v j = a j := aU_ne (by omega)
theorem sHas_wf {v : Int32} (hw : Wf a) (hp : p < nP a) (hv : v = iN (-1) ∨ ∃ k, k < nT a ∧ v = nN k) : Wf (sHas a p v) := by
  have hp' := hw.p'
  have hn' := hw.n'
  have hr' := hw.r'
  have lo : ∀ j, j < 10 ∨ 46 ≤ j → sHas a p v j = a j := fun j h => sHas_lo h (by omega)
  have eP : nP (sHas a p v) = nP a := by unfold nP; rw [lo 1 (by omega)]
  have eT : nT (sHas a p v) = nT a := by unfold nT; rw [lo 2 (by omega)]
  have eE : nE (sHas a p v) = nE a := by unfold nE; rw [lo 4 (by omega)]
  have eR : nR (sHas a p v) = nR a := by unfold nR; rw [lo 5 (by omega)]
  have ee : ∀ k w, ea (sHas a p v) k w = ea a k w := fun k w => lo _ (by omega)
  have er : ∀ k w, ra (sHas a p v) k w = ra a k w := fun k w => lo _ (by omega)
  refine wf_lo hw (fun j hj => lo j (by omega)) (lo 3 (by omega)) (by omega) (by rw [lo 1 (by omega), eP]; exact hw.p) (by omega) (by rw [lo 2 (by omega), eT]; exact hw.t) (by rw [eT]; exact hw.t') (by rw [lo 4 (by omega), eE]; exact hw.n) (by omega) (by rw [lo 5 (by omega), eR]; exact hw.r) (by omega) (by rw [lo 7 (by omega)]; exact hw.law) (by rw [lo 0 (by omega)]; exact hw.texts) ?_ ?_ ?_ ?_ ?_
  · rw [eP]; intro q hq; rw [sHas_pa (by omega), if_neg (by omega)]; exact hw.lim q hq
  · rw [eP, eT]; intro q hq; rw [sHas_pa (by omega)]
    split
    · exact hv
    · exact hw.tmp q hq
  · rw [eP]; intro q hq; rw [sHas_pa (by omega), if_neg (by omega)]; exact hw.near q hq
  · rw [eE, eP]; simp only [ee]; exact hw.need
  · rw [eR, eP]; simp only [er]; exact hw.ring
theorem c_has {v : Int32} (c : CI M a ak img n b fl) (hw : Wf a) (hp : p < nP a) (hv : v = iN (-1) ∨ ∃ k, k < nT a ∧ v = nN k) : mw (d + 6) 6 [.ref 0, .int (nN p), .int v] M (fun o M' => o = .inl (some (.int (pa a p 1))) ∧ Yc M (sHas a p v) M') := by
  obtain ⟨t, ht⟩ : ∃ t : Nat, t = 3 := ⟨3, rfl⟩
  have hr : Rep M t a := by rw [ht]; exact c.rep
  have hT : TmR M t a := by rw [ht]; exact c.tm
  have p1 : gP M 0 1 = some t := by rw [ht]; exact c.sh.p1
  have k0 := c.sh.k0
  have hp9 := hw.p'
  have hf9 := hw.f'
  have ht' := hw.t'
  have hn' := hw.n'
  have hr' := hw.r'
  have e1 : ¬ v < iN (-1) := by
    rcases hv with rfl | ⟨k, hk, rfl⟩
    · exact fun z => Int32.lt_irrefl z
    · intro z
      have := (iN_lt (sm_n (a := k) (by omega)) (b := -1) ⟨by decide, by decide⟩).mp z
      omega
  have e2 : v < nN (nT a) := by
    rcases hv with rfl | ⟨k, hk, rfl⟩
    · exact (iN_lt (a := -1) ⟨by decide, by decide⟩ (sm_n (by omega))).mpr (by omega)
    · rw [nN_lt (by omega) (by omega)]; exact hk
  have sh := hr.sh
  simp (disch := omega) only [m_6, q_aload0, q_aload0N, q_iload1, q_invv1, inv_1, q_iload2, q_iconst, q_ic_lt, q_get_r, pTag_1, pRf_s, q_get_i, q_nop, q_thr, q_invs2_20, q_istore3, q_invs3_20, q_iload3, q_iret, e_6_0, e_6_1, e_6_2, k_some, k_none, pRm_i, pRm_r, pRm_0, pF_1, pF_2, inv_s, k0, p1, w_needP c hw, hw.t, e1, e2, hr.sh.k1, hr.np, hr.sh.q0, hr.sh.q1, hr.sh.q2, hr.sh.q3, hr.sh.q4, w_atN hr.sh.k2, w_atN hr.sh.k3, w_atN hr.sh.k4, w_atN hr.sh.k5, w_atN hr.sh.k6, hr.lim, hr.tmp, hr.near, hr.rich, hr.debt, hr.sh.k0, hr.nt, hr.ne, hr.nr, hr.nx, hr.day, hr.law, hr.sh.p0, hr.sh.p1, hr.sh.p2, hr.sh.p3, hr.sh.p4, hr.sh.p5, hr.sh.p6, hr.sh.p7, hr.sh.p8, w_putN sh.k3, nN_le, nN_lt, nN_eq, nN_add, nN_mul, nN_lt0, nN_ge0, nN_gt0, nN_le0, nN_eq0, nN_eq1, nN_neN, pIn_n, pIx_n, eq_self, Nat.reduceLT, Bool.false_eq_true, Nat.add_zero, Nat.zero_add, Nat.reduceAdd, Nat.reduceMul, Nat.reduceSub, Nat.zero_le, Nat.reduceLeDiff, Nat.reduceEqDiff, Nat.le_refl, not_false_eq_true, not_true_eq_false, false_implies, true_implies, forall_const, true_and, and_true, if_true, if_false, implies_true, and_self, ne_eq, false_and, and_false, or_false, false_or, true_or, or_true]
  have A1 : Ag (XTw (gS M) (gP M) 3) M (sI M (t + 3) p v) := Ag.one (Or.inl (by omega))
  have lo : ∀ j, j < 10 ∨ 46 ≤ j → sHas a p v j = a j := fun j h => sHas_lo h (by omega)
  have eP : nP (sHas a p v) = nP a := by unfold nP; rw [lo 1 (by omega)]
  have eE : nE (sHas a p v) = nE a := by unfold nE; rw [lo 4 (by omega)]
  have eR : nR (sHas a p v) = nR a := by unfold nR; rw [lo 5 (by omega)]
  have ee : ∀ k w, ea (sHas a p v) k w = ea a k w := fun k w => lo _ (by omega)
  have er : ∀ k w, ra (sHas a p v) k w = ra a k w := fun k w => lo _ (by omega)
  have w : ∀ i k, i ≠ 3 → gI (sI M (t + 3) p v) (t + i) k = gI M (t + i) k := fun i k hi => by rw [gI_sI, if_neg (by omega)]
  have w0 : ∀ k, gI (sI M (t + 3) p v) t k = gI M t k := fun k => by rw [gI_sI, if_neg (by omega)]
  have R1 : Rep (sI M (t + 3) p v) t (sHas a p v) := by
    refine rep_lo hr (fun j hj => lo j (by omega)) (lo 3 (by omega)) sh (w _ _ (by omega)) (fun i k h1 h2 => w _ _ (by omega)) (by rw [w _ _ (by omega), lo 1 (by omega)]; exact hr.np) (by rw [w0, lo 2 (by omega)]; exact hr.nt) (by rw [w0, lo 4 (by omega)]; exact hr.ne) (by rw [w0, lo 5 (by omega)]; exact hr.nr) (by rw [w0, lo 0 (by omega)]; exact hr.nx) (by rw [w0, lo 6 (by omega)]; exact hr.day) (by rw [w0, lo 7 (by omega)]; exact hr.law) ?_ ?_ ?_ ?_ ?_ ?_ ?_ ?_ ?_ ?_
    · rw [eP]; intro q hq; rw [sHas_pa (by omega), if_neg (by omega), w _ _ (by omega)]; exact hr.lim q hq
    · rw [eP]; intro q hq; rw [sHas_pa (by omega), gI_sI]
      by_cases c9 : q = p
      · rw [if_pos ⟨rfl, c9⟩, if_pos ⟨c9, rfl⟩]
      · rw [if_neg (fun z => c9 z.2), if_neg (fun z => c9 z.1)]; exact hr.tmp q hq
    · rw [eP]; intro q hq; rw [sHas_pa (by omega), if_neg (by omega), w _ _ (by omega)]; exact hr.near q hq
    · rw [eP]; intro q hq; rw [w _ _ (by omega)]; exact hr.rich q hq
    · rw [eP]; intro q hq; rw [w _ _ (by omega)]; exact hr.debt q hq
    · rw [eE]; intro q hq; rw [w _ _ (by omega), ee]; exact hr.nb q hq
    · rw [eE]; intro q hq; rw [w _ _ (by omega), ee]; exact hr.no q hq
    · rw [eE]; intro q hq; rw [w _ _ (by omega), ee]; exact hr.nw q hq
    · rw [eR]; intro q hq; rw [w _ _ (by omega), er]; exact hr.rs q hq
    · rw [eR]; intro q k hq h1 h2; rw [er] at h1; rw [w _ _ (by omega), er]; exact hr.rr q k hq h1 h2
  rw [ht] at R1 A1 ⊢
  exact Yc.of c A1 R1 (lo 2 (by omega)) (fun j hj => lo j (by omega))
theorem c_has_n1 (c : CI M a ak img n b fl) (hw : Wf a) (hp : ¬ Ix (nP a) x) : mw (d + 6) 6 [.ref 0, .int x, .int y] M Q = Q (.inr 1) (nx M) := by
  have k0 := c.sh.k0
  simp (disch := omega) only [m_6, q_aload0, q_aload0N, q_iload1, q_invv1, inv_1, q_iload2, q_iconst, q_ic_lt, q_get_r, pTag_1, pRf_s, q_get_i, q_nop, q_thr, q_invs2_20, q_istore3, q_invs3_20, q_iload3, q_iret, e_6_0, e_6_1, e_6_2, k_some, k_none, pRm_i, pRm_r, pRm_0, pF_1, pF_2, inv_s, k0, w_needPn c hw hp, k_t10 hs_6, nN_le, nN_lt, nN_eq, nN_add, nN_mul, nN_lt0, nN_ge0, nN_gt0, nN_le0, nN_eq0, nN_eq1, nN_neN, pIn_n, pIx_n, eq_self, Nat.reduceLT, Bool.false_eq_true, Nat.add_zero, Nat.zero_add, Nat.reduceAdd, Nat.reduceMul, Nat.reduceSub, Nat.zero_le, Nat.reduceLeDiff, Nat.reduceEqDiff, Nat.le_refl, not_false_eq_true, not_true_eq_false, false_implies, true_implies, forall_const, true_and, and_true, if_true, if_false, implies_true, and_self, ne_eq, false_and, and_false, or_false, false_or, true_or, or_true]
theorem c_has_n2 (c : CI M a ak img n b fl) (hw : Wf a) (hp : p < nP a) (hv : ¬ (iN (-1) ≤ y ∧ y < nN (nT a))) : mw (d + 6) 6 [.ref 0, .int (nN p), .int y] M Q = Q (.inr 1) (nx M) := by
  obtain ⟨t, ht⟩ : ∃ t : Nat, t = 3 := ⟨3, rfl⟩
  have hr : Rep M t a := by rw [ht]; exact c.rep
  have hT : TmR M t a := by rw [ht]; exact c.tm
  have p1 : gP M 0 1 = some t := by rw [ht]; exact c.sh.p1
  have k0 := c.sh.k0
  have hp9 := hw.p'
  have hf9 := hw.f'
  have ht' := hw.t'
  by_cases h : y < iN (-1)
  · simp (disch := omega) only [m_6, q_aload0, q_aload0N, q_iload1, q_invv1, inv_1, q_iload2, q_iconst, q_ic_lt, q_get_r, pTag_1, pRf_s, q_get_i, q_nop, q_thr, q_invs2_20, q_istore3, q_invs3_20, q_iload3, q_iret, e_6_0, e_6_1, e_6_2, k_some, k_none, pRm_i, pRm_r, pRm_0, pF_1, pF_2, inv_s, k0, p1, w_needP c hw, hw.t, h, hr.sh.k0, hr.nt, hr.ne, hr.nr, hr.nx, hr.day, hr.law, hr.sh.p0, hr.sh.p1, hr.sh.p2, hr.sh.p3, hr.sh.p4, hr.sh.p5, hr.sh.p6, hr.sh.p7, hr.sh.p8, nN_le, nN_lt, nN_eq, nN_add, nN_mul, nN_lt0, nN_ge0, nN_gt0, nN_le0, nN_eq0, nN_eq1, nN_neN, pIn_n, pIx_n, eq_self, Nat.reduceLT, Bool.false_eq_true, Nat.add_zero, Nat.zero_add, Nat.reduceAdd, Nat.reduceMul, Nat.reduceSub, Nat.zero_le, Nat.reduceLeDiff, Nat.reduceEqDiff, Nat.le_refl, not_false_eq_true, not_true_eq_false, false_implies, true_implies, forall_const, true_and, and_true, if_true, if_false, implies_true, and_self, ne_eq, false_and, and_false, or_false, false_or, true_or, or_true]
  · have h2 : ¬ y < nN (nT a) := fun z => hv ⟨Int32.not_lt.mp h, z⟩
    simp (disch := omega) only [m_6, q_aload0, q_aload0N, q_iload1, q_invv1, inv_1, q_iload2, q_iconst, q_ic_lt, q_get_r, pTag_1, pRf_s, q_get_i, q_nop, q_thr, q_invs2_20, q_istore3, q_invs3_20, q_iload3, q_iret, e_6_0, e_6_1, e_6_2, k_some, k_none, pRm_i, pRm_r, pRm_0, pF_1, pF_2, inv_s, k0, p1, w_needP c hw, hw.t, h, h2, hr.sh.k0, hr.nt, hr.ne, hr.nr, hr.nx, hr.day, hr.law, hr.sh.p0, hr.sh.p1, hr.sh.p2, hr.sh.p3, hr.sh.p4, hr.sh.p5, hr.sh.p6, hr.sh.p7, hr.sh.p8, nN_le, nN_lt, nN_eq, nN_add, nN_mul, nN_lt0, nN_ge0, nN_gt0, nN_le0, nN_eq0, nN_eq1, nN_neN, pIn_n, pIx_n, eq_self, Nat.reduceLT, Bool.false_eq_true, Nat.add_zero, Nat.zero_add, Nat.reduceAdd, Nat.reduceMul, Nat.reduceSub, Nat.zero_le, Nat.reduceLeDiff, Nat.reduceEqDiff, Nat.le_refl, not_false_eq_true, not_true_eq_false, false_implies, true_implies, forall_const, true_and, and_true, if_true, if_false, implies_true, and_self, ne_eq, false_and, and_false, or_false, false_or, true_or, or_true]
end LO
