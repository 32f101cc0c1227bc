/-! A TOWN THAT BECAME ANOTHER STANDS FOR THE SAME; counting bits; holders -/
section SM
variable {d t s r u : Nat} {a b : Nat → Int32} {M M' : pMem} {L : List Nat} {F : List (Nat × Nat)} {Q : pOut → pMem → Prop}
/-- the block t of M' is the block s of M where it counts -/
theorem rep_same (hr : Rep M s a) (hw : Wf a) (ht : ShT (gS M') (gP M') t) (f0 : ∀ k, 9 ≤ k → k ≤ 14 → gI M' t k = gI M s k) (f1 : gI M' (t + 1) 5 = gI M (s + 1) 5) (f7 : gI M' (t + 7) 7 = gI M (s + 7) 7)
    (hp : ∀ i k, i = 2 ∨ i = 3 ∨ i = 4 ∨ i = 5 ∨ i = 6 → k < 12 → gI M' (t + i) k = gI M (s + i) k) (hf : ∀ i k, 8 ≤ i → i ≤ 13 → k < 40 → gI M' (t + i) k = gI M (s + i) k) (h14 : ∀ k, k < 480 → gI M' (t + 14) k = gI M (s + 14) k)
    (hn : ∀ i k, 17 ≤ i → i ≤ 19 → k < 12 → gI M' (t + i) k = gI M (s + i) k) (h20 : ∀ k, k < 8 → gI M' (t + 20) k = gI M (s + 20) k) (h21 : ∀ k, k < 48 → gI M' (t + 21) k = gI M (s + 21) k) : Rep M' t a := by
  have hp' := hw.p'
  have hf' := hw.f'
  have hn' := hw.n'
  have hr' := hw.r'
  refine Rep.mk ht ?_ ?_ ?_ ?_ ?_ ?_ ?_ ?_ ?_ ?_ ?_ ?_ ?_ ?_ ?_ ?_ ?_ ?_ ?_ ?_ ?_ ?_ ?_ ?_ ?_
  · rw [f1]; exact hr.np
  · rw [f7]; exact hr.nf
  · rw [f0 _ (by omega) (by omega)]; exact hr.nt
  · rw [f0 _ (by omega) (by omega)]; exact hr.ne
  · rw [f0 _ (by omega) (by omega)]; exact hr.nr
  · rw [f0 _ (by omega) (by omega)]; exact hr.nx
  · rw [f0 _ (by omega) (by omega)]; exact hr.day
  · rw [f0 _ (by omega) (by omega)]; exact hr.law
  · intro q hq; rw [hp _ _ (by omega) (by omega)]; exact hr.lim q hq
  · intro q hq; rw [hp _ _ (by omega) (by omega)]; exact hr.tmp q hq
  · intro q hq; rw [hp _ _ (by omega) (by omega)]; exact hr.near q hq
  · intro q hq; rw [hp _ _ (by omega) (by omega)]; exact hr.rich q hq
  · intro q hq; rw [hp _ _ (by omega) (by omega)]; exact hr.debt q hq
  · intro q hq; rw [hf _ _ (by omega) (by omega) (by omega)]; exact hr.g q hq
  · intro q hq; rw [hf _ _ (by omega) (by omega) (by omega)]; exact hr.h q hq
  · intro q hq; rw [hf _ _ (by omega) (by omega) (by omega)]; exact hr.am q hq
  · intro q hq; rw [hf _ _ (by omega) (by omega) (by omega)]; exact hr.hd q hq
  · intro q hq; rw [hf _ _ (by omega) (by omega) (by omega)]; exact hr.en q hq
  · intro q hq; rw [hf _ _ (by omega) (by omega) (by omega)]; exact hr.fc q hq
  · intro f k h1 h2
    have := (hw.fD f h1).1
    rw [h14 _ (by omega)]; exact hr.row f k h1 h2
  · intro q hq; rw [hn _ _ (by omega) (by omega) (by omega)]; exact hr.nb q hq
  · intro q hq; rw [hn _ _ (by omega) (by omega) (by omega)]; exact hr.no q hq
  · intro q hq; rw [hn _ _ (by omega) (by omega) (by omega)]; exact hr.nw q hq
  · intro q hq; rw [h20 _ (by omega)]; exact hr.rs q hq
  · intro q k h1 h2 h3; rw [h21 _ (by omega)]; exact hr.rr q k h1 h2 h3
theorem rep_become (hr : Rep M s a) (hw : Wf a) (ht : ShT (gS M) (gP M) t) (hb : Bk M M' t s [21, 20, 19, 18, 17, 9, 14, 13, 12, 11, 10, 8, 6, 5, 4, 3, 2] [(0, 14), (0, 13), (0, 12), (0, 11), (0, 10), (0, 9), (7, 7), (1, 5)]) : Rep M' t a := by
  have t1 := hb.sh ht (by omega)
  obtain ⟨-, -, -, b7, b8⟩ := hb
  have hs := hr.sh
  refine rep_same hr hw t1 ?_ ?_ ?_ ?_ ?_ ?_ ?_ ?_ ?_
  · intro k h1 h2
    have : k = 9 ∨ k = 10 ∨ k = 11 ∨ k = 12 ∨ k = 13 ∨ k = 14 := by omega
    rcases this with rfl | rfl | rfl | rfl | rfl | rfl
    · exact (b8 (0, 9) (by simp)).2
    · exact (b8 (0, 10) (by simp)).2
    · exact (b8 (0, 11) (by simp)).2
    · exact (b8 (0, 12) (by simp)).2
    · exact (b8 (0, 13) (by simp)).2
    · exact (b8 (0, 14) (by simp)).2
  · exact (b8 (1, 5) (by simp)).2
  · exact (b8 (7, 7) (by simp)).2
  · intro i k hi hk
    rcases hi with rfl | rfl | rfl | rfl | rfl
    · exact (b7 2 (by simp)).2 k (by rw [hs.k2]; exact hk)
    · exact (b7 3 (by simp)).2 k (by rw [hs.k3]; exact hk)
    · exact (b7 4 (by simp)).2 k (by rw [hs.k4]; exact hk)
    · exact (b7 5 (by simp)).2 k (by rw [hs.k5]; exact hk)
    · exact (b7 6 (by simp)).2 k (by rw [hs.k6]; exact hk)
  · intro i k h1 h2 hk
    have : i = 8 ∨ i = 9 ∨ i = 10 ∨ i = 11 ∨ i = 12 ∨ i = 13 := by omega
    rcases this with rfl | rfl | rfl | rfl | rfl | rfl
    · exact (b7 8 (by simp)).2 k (by rw [hs.k8]; exact hk)
    · exact (b7 9 (by simp)).2 k (by rw [hs.k9]; exact hk)
    · exact (b7 10 (by simp)).2 k (by rw [hs.k10]; exact hk)
    · exact (b7 11 (by simp)).2 k (by rw [hs.k11]; exact hk)
    · exact (b7 12 (by simp)).2 k (by rw [hs.k12]; exact hk)
    · exact (b7 13 (by simp)).2 k (by rw [hs.k13]; exact hk)
  · intro k hk
    exact (b7 14 (by simp)).2 k (by rw [hs.k14]; exact hk)
  · intro i k h1 h2 hk
    have : i = 17 ∨ i = 18 ∨ i = 19 := by omega
    rcases this with rfl | rfl | rfl
    · exact (b7 17 (by simp)).2 k (by rw [hs.k17]; exact hk)
    · exact (b7 18 (by simp)).2 k (by rw [hs.k18]; exact hk)
    · exact (b7 19 (by simp)).2 k (by rw [hs.k19]; exact hk)
  · intro k hk
    exact (b7 20 (by simp)).2 k (by rw [hs.k20]; exact hk)
  · intro k hk
    exact (b7 21 (by simp)).2 k (by rw [hs.k21]; exact hk)
/-- another town, when t changes -/
theorem rep_other (hb : Bk M M' t s L F) (hr : Rep M r a) (hw : Wf a) (hd : r + 22 ≤ t ∨ t + 22 ≤ r) : Rep M' r a := by
  have r1 := hb.sh hr.sh (by omega)
  obtain ⟨-, -, b6, -, -⟩ := hb
  have w : ∀ i k, i < 22 → gI M' (r + i) k = gI M (r + i) k := fun i k hi => b6 _ _ (by omega)
  exact rep_same hr hw r1 (fun k _ _ => w 0 k (by omega)) (w _ _ (by omega)) (w _ _ (by omega)) (fun i k h1 h2 => w _ _ (by omega)) (fun i k h1 h2 h3 => w _ _ (by omega)) (fun k h1 => w _ _ (by omega)) (fun i k h1 h2 h3 => w _ _ (by omega)) (fun k h1 => w _ _ (by omega)) (fun k h1 => w _ _ (by omega))
theorem TmO.bk {q : Nat} {cs : List Nat} (h : TmO M q cs) (hb : Bk M M' t s L F) (ht : t + 22 ≤ 101) : TmO M' q cs := by
  obtain ⟨⟨b1, b2, b3, b4⟩, b5, b6, -, -⟩ := hb
  obtain ⟨⟨g1, g2, g3, g4, g5, g6⟩, h2, h3, h4, h5⟩ := h
  refine ⟨⟨g1, by rw [b1]; exact g2, by rw [b1]; exact g3, by rw [b1]; exact g4, by rw [b5 _ _ (by omega)]; exact g5, by rw [b5 _ _ (by omega)]; exact g6⟩, by rw [b1]; exact h2, fun i hi => by rw [b6 _ _ (by omega)]; exact h3 i hi, h4, h5⟩
theorem TmR.become (h : TmR M s a) (hw : Wf a) (hb : Bk M M' t s L F) (ht : t + 22 ≤ 101) (hc : ∀ k, k < 6 → gP M' (t + 15) k = gP M (s + 15) k) : TmR M' t a := by
  intro k hk
  have := hw.t'
  obtain ⟨q, cs, h1, h2, h3⟩ := h k hk
  exact ⟨q, cs, by rw [hc k (by omega)]; exact h1, h2.bk hb ht, h3⟩
theorem TmR.other (h : TmR M r a) (hb : Bk M M' t s L F) (ht : t + 22 ≤ 101) (hd : r + 22 ≤ t ∨ t + 22 ≤ r) : TmR M' r a := by
  intro k hk
  obtain ⟨q, cs, h1, h2, h3⟩ := h k hk
  exact ⟨q, cs, by rw [hb.2.1 _ _ (by omega)]; exact h1, h2.bk hb ht, h3⟩
theorem TmR.bk2 (h : TmR M t a) (hb : Bk M M' t s L F) (ht : t + 22 ≤ 101) (hp : gP M' = gP M) : TmR M' t a := by
  intro k hk
  obtain ⟨q, cs, h1, h2, h3⟩ := h k hk
  exact ⟨q, cs, by rw [hp]; exact h1, h2.bk hb ht, h3⟩
/-- holders, RICH and DEBT of s laid over t, where nothing else differs -/
theorem rep_hold (hr : Rep M t b) (ha : Rep M s a) (hw : Wf a) (hw2 : Wf b) (G : Gn a b) (hd : Hd a b) (hb : Bk M M' t s [9, 6, 5] []) (hp : gP M' = gP M) (ot : ∀ i k, i < 22 → i ≠ 5 → i ≠ 6 → i ≠ 9 → gI M' (t + i) k = gI M (t + i) k) : Rep M' t a := by
  have hp' := hw.p'
  have hf' := hw.f'
  have hn' := hw.n'
  have hr' := hw.r'
  have eP := lo_nP G.1
  have eT := lo_nT G.1
  have eF := lo_nF G.1
  have eE := lo_nE G.1
  have eR := lo_nR G.1
  obtain ⟨⟨b1, -⟩, -, -, b7, -⟩ := hb
  have hs := ha.sh
  have w := fun i k h1 h2 h3 h4 => ot i k h1 h2 h3 h4
  have w0 : ∀ k, gI M' t k = gI M t k := fun k => ot 0 k (by omega) (by omega) (by omega) (by omega)
  have ef : ∀ f z, z < 20 → z ≠ 2 → f < nF a → fa b f z = fa a f z := fun f z hz h2 hf => hd _ (fun g hg => by omega)
  refine Rep.mk ?_ ?_ ?_ ?_ ?_ ?_ ?_ ?_ ?_ ?_ ?_ ?_ ?_ ?_ ?_ ?_ ?_ ?_ ?_ ?_ ?_ ?_ ?_ ?_ ?_ ?_
  · rw [b1, hp]; exact hr.sh
  · rw [w _ _ (by omega) (by omega) (by omega) (by omega), ← G.1 1 (by omega)]; exact hr.np
  · rw [w _ _ (by omega) (by omega) (by omega) (by omega), ← G.1 3 (by omega)]; exact hr.nf
  · rw [w0, ← G.1 2 (by omega)]; exact hr.nt
  · rw [w0, ← G.1 4 (by omega)]; exact hr.ne
  · rw [w0, ← G.1 5 (by omega)]; exact hr.nr
  · rw [w0, ← G.1 0 (by omega)]; exact hr.nx
  · rw [w0, ← G.1 6 (by omega)]; exact hr.day
  · rw [w0, ← G.1 7 (by omega)]; exact hr.law
  · intro q hq; rw [w _ _ (by omega) (by omega) (by omega) (by omega), ← lo_pa G.1 (by omega) (by omega)]; exact hr.lim q (by omega)
  · intro q hq; rw [w _ _ (by omega) (by omega) (by omega) (by omega), ← lo_pa G.1 (by omega) (by omega)]; exact hr.tmp q (by omega)
  · intro q hq; rw [w _ _ (by omega) (by omega) (by omega) (by omega), ← lo_pa G.1 (by omega) (by omega)]; exact hr.near q (by omega)
  · intro q hq; rw [(b7 5 (by simp)).2 q (by rw [hs.k5]; show q < 12; omega)]; exact ha.rich q hq
  · intro q hq; rw [(b7 6 (by simp)).2 q (by rw [hs.k6]; show q < 12; omega)]; exact ha.debt q hq
  · intro q hq; rw [w _ _ (by omega) (by omega) (by omega) (by omega), ← ef q 0 (by omega) (by omega) hq]; exact hr.g q (by omega)
  · intro q hq; rw [(b7 9 (by simp)).2 q (by rw [hs.k9]; show q < 40; omega)]; exact ha.h q hq
  · intro q hq; rw [w _ _ (by omega) (by omega) (by omega) (by omega), ← ef q 1 (by omega) (by omega) hq]; exact hr.am q (by omega)
  · intro q hq; rw [w _ _ (by omega) (by omega) (by omega) (by omega), ← ef q 3 (by omega) (by omega) hq]; exact hr.hd q (by omega)
  · intro q hq; rw [w _ _ (by omega) (by omega) (by omega) (by omega), ← ef q 4 (by omega) (by omega) hq]; exact hr.en q (by omega)
  · intro q hq; rw [w _ _ (by omega) (by omega) (by omega) (by omega), ← ef q 5 (by omega) (by omega) hq]; exact hr.fc q (by omega)
  · intro f k hf hk
    have e : fD b f = fD a f := by unfold fD; rw [ef f 3 (by omega) (by omega) hf]
    have := (hw.fD f hf).1
    rw [w _ _ (by omega) (by omega) (by omega) (by omega), ← ef f (7 + k) (by omega) (by omega) hf]
    exact hr.row f k (by omega) (by omega)
  · intro q hq; rw [w _ _ (by omega) (by omega) (by omega) (by omega), ← lo_ea G.1 (by omega) (by omega)]; exact hr.nb q (by omega)
  · intro q hq; rw [w _ _ (by omega) (by omega) (by omega) (by omega), ← lo_ea G.1 (by omega) (by omega)]; exact hr.no q (by omega)
  · intro q hq; rw [w _ _ (by omega) (by omega) (by omega) (by omega), ← lo_ea G.1 (by omega) (by omega)]; exact hr.nw q (by omega)
  · intro q hq; rw [w _ _ (by omega) (by omega) (by omega) (by omega), ← lo_ra G.1 (by omega) (by omega)]; exact hr.rs q (by omega)
  · intro q k h1 h2 h3; rw [w _ _ (by omega) (by omega) (by omega) (by omega), ← lo_ra G.1 (by omega) (by omega)]; exact hr.rr q k (by omega) (by rw [lo_ra G.1 (by omega) (by omega)]; exact h2) h3
end SM
/-! counting bits -/
def bN (s : Nat) : Nat := lp 12 0 0 (fun k c => c + (s >>> k &&& 1))
def bC (s : Nat) : Nat :=
  let x1 := s - (s >>> 1 &&& 1431655765)
  let x2 := (x1 &&& 858993459) + (x1 >>> 2 &&& 858993459)
  let x3 := (x2 + x2 >>> 4) &&& 252645135
  let x4 := x3 + x3 >>> 8
  let x5 := x4 + x4 >>> 16
  x5 &&& 63
theorem bC_bN0 : ∀ i j : Fin 64, bC (64 * i.val + j.val) = bN (64 * i.val + j.val) := by decide +kernel
theorem bC_bN {s : Nat} (h : s < 4096) : bC s = bN s := by
  have := bC_bN0 ⟨s / 64, by omega⟩ ⟨s % 64, by omega⟩
  dsimp only at this
  rwa [Nat.div_add_mod] at this
theorem iN_s0 {m : Nat} : iN ((m : Int) - ((0 : Nat) : Int)) = nN m := by
  unfold nN
  congr 1
theorem shr_le {a k : Nat} : a >>> k ≤ a := by
  rw [Nat.shiftRight_eq_div_pow]
  exact Nat.div_le_self _ _
section BT
variable {d s : Nat} {M : pMem} {Q : pOut → pMem → Prop}
theorem w_bits (hs : s < 4096) : mw (d + 1) 115 [.int (nN s)] M Q = Q (.inl (some (.int (nN (bN s))))) M := by
  simp only [m_115, q_iconst, q_istore1, q_istore2, q_nop, q_iload2, q_bipush, q_ic_ge, q_iload1, q_iload0, q_ishr, q_iand, q_iadd, q_iinc2, q_goto, q_iret, e_115_0, e_115_2, L_0, L_1, L_12]
  rw [lp_rule (n := 12) (C := fun k c => ([some (.int (nN s)), some (.int (nN c)), some (.int (nN k))], [], M)) (f := fun k c => c + (s >>> k &&& 1)) ?_ 12 0 0 (by omega)]
  · rw [e_115_1]
    simp (disch := omega) only [q_iconst, q_istore1, q_istore2, q_nop, q_iload2, q_bipush, q_ic_ge, q_iload1, q_iload0, q_ishr, q_iand, q_iadd, q_iinc2, q_goto, q_iret, e_115_0, e_115_2, L_0, L_1, L_12, nN_le, nN_lt, nN_eq, nN_add, nN_mul, nN_lt0, nN_ge0, nN_gt0, nN_le0, nN_eq0, nN_eq1, nN_neN, pIn_n, pIx_n, eq_self, Nat.reduceLT, Bool.false_eq_true, Nat.add_zero, Nat.zero_add, Nat.reduceAdd, Nat.reduceMul, Nat.reduceSub, Nat.zero_le, Nat.reduceLeDiff, Nat.reduceEqDiff, Nat.le_refl, not_false_eq_true, not_true_eq_false, false_implies, true_implies, forall_const, true_and, and_true, if_true, if_false, implies_true, and_self, ne_eq, false_and, and_false, or_false, false_or, true_or, or_true]
    rfl
  · intro k c hk
    have e1 : ¬ 12 ≤ k := by omega
    rw [e_115_1]
    simp (disch := omega) only [q_iconst, q_istore1, q_istore2, q_nop, q_iload2, q_bipush, q_ic_ge, q_iload1, q_iload0, q_ishr, q_iand, q_iadd, q_iinc2, q_goto, q_iret, e_115_0, e_115_2, L_0, L_1, L_12, nN_le, nN_lt, nN_eq, nN_add, nN_mul, nN_lt0, nN_ge0, nN_gt0, nN_le0, nN_eq0, nN_eq1, nN_neN, pIn_n, pIx_n, eq_self, Nat.reduceLT, Bool.false_eq_true, Nat.add_zero, Nat.zero_add, Nat.reduceAdd, Nat.reduceMul, Nat.reduceSub, Nat.zero_le, Nat.reduceLeDiff, Nat.reduceEqDiff, Nat.le_refl, not_false_eq_true, not_true_eq_false, false_implies, true_implies, forall_const, true_and, and_true, if_true, if_false, implies_true, and_self, ne_eq, false_and, and_false, or_false, false_or, true_or, or_true, e1, nN_shr, nN_and]
theorem w_bitCount (hs : s < 4096) : mw (d + 1) 276 [.int (nN s)] M Q = Q (.inl (some (.int (nN (bN s))))) M := by
  rw [← bC_bN hs]
  have l1 : (s >>> 1 &&& 1431655765) ≤ s := Nat.le_trans Nat.and_le_left shr_le
  simp (disch := omega) only [m_276, q_iload0, q_iconst, q_iushr, q_ldc_w_i, q_iand, q_isub, q_istore0, q_iadd, q_bipush, q_iret, e_276_0, L_1, L_2, L_4, L_8, L_16, L_63, L_252645135, L_858993459, L_1431655765, iN_s0, nN_ushr, nN_and, nN_add, nN_subN l1]
  unfold bC
  dsimp only
  have b1 : s - (s >>> 1 &&& 1431655765) < 4096 := by omega
  generalize s - (s >>> 1 &&& 1431655765) = x1 at b1 ⊢
  have l2 : (x1 &&& 858993459) ≤ x1 := Nat.and_le_left
  have l3 : (x1 >>> 2 &&& 858993459) ≤ x1 := Nat.le_trans Nat.and_le_left shr_le
  simp (disch := omega) only [nN_ushr, nN_and, nN_add]
  have b2 : (x1 &&& 858993459) + (x1 >>> 2 &&& 858993459) < 8192 := by omega
  generalize (x1 &&& 858993459) + (x1 >>> 2 &&& 858993459) = x2 at b2 ⊢
  have l4 : (x2 + x2 >>> 4 &&& 252645135) ≤ x2 + x2 := Nat.le_trans Nat.and_le_left (Nat.add_le_add_left shr_le _)
  simp (disch := omega) only [nN_ushr, nN_and, nN_add]
end BT
