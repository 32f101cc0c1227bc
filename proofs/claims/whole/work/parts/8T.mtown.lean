/-! THE LAW'S MODEL READS LINES OF THE TOWN: its steps -/
def MdU (M : pMem) (u n : Nat) (b : Nat → Nat) (a : Nat → Int32) (q p : Nat) : Prop := (MdS M u n b q p) ∧ (gI M u 7 = iN (-1)) ∧ (∀ k, k < n → gI M (u + 4) k = nN (b k)) ∧ (gI M (u + 1) = a)
theorem MdU.mk {M : pMem} {u n : Nat} {b : Nat → Nat} {a : Nat → Int32} {q p : Nat} (sd : MdS M u n b q p) (t7 : gI M u 7 = iN (-1)) (tl : ∀ k, k < n → gI M (u + 4) k = nN (b k)) (tb : gI M (u + 1) = a) : MdU M u n b a q p := ⟨sd, t7, tl, tb⟩
theorem MdU.sd {M : pMem} {u n : Nat} {b : Nat → Nat} {a : Nat → Int32} {q p : Nat} (h : MdU M u n b a q p) : MdS M u n b q p := And.left h
theorem MdU.t7 {M : pMem} {u n : Nat} {b : Nat → Nat} {a : Nat → Int32} {q p : Nat} (h : MdU M u n b a q p) : gI M u 7 = iN (-1) := And.left (And.right h)
theorem MdU.tl {M : pMem} {u n : Nat} {b : Nat → Nat} {a : Nat → Int32} {q p : Nat} (h : MdU M u n b a q p) : ∀ k, k < n → gI M (u + 4) k = nN (b k) := And.left (And.right (And.right h))
theorem MdU.tb {M : pMem} {u n : Nat} {b : Nat → Nat} {a : Nat → Int32} {q p : Nat} (h : MdU M u n b a q p) : gI M (u + 1) = a := And.right (And.right (And.right h))
def MfU (M : pMem) (u n : Nat) (b : Nat → Nat) (a : Nat → Int32) (e : Nat) : Prop := (ShM (gS M) (gP M) u) ∧ (gI M u 7 = iN (-1)) ∧ (∀ k, k < n → gI M (u + 4) k = nN (b k)) ∧ (n ≤ 400) ∧ (∀ k, b k < 256) ∧ (gI M u 8 = nN n) ∧ (gI M u 10 = nN e) ∧ (e < 1000) ∧ (AtB M u (n + 7)) ∧ (gI M (u + 1) = a)
theorem MfU.mk {M : pMem} {u n : Nat} {b : Nat → Nat} {a : Nat → Int32} {e : Nat} (sh : ShM (gS M) (gP M) u) (t7 : gI M u 7 = iN (-1)) (tl : ∀ k, k < n → gI M (u + 4) k = nN (b k)) (n9 : n ≤ 400) (b9 : ∀ k, b k < 256) (en : gI M u 8 = nN n) (ft : gI M u 10 = nN e) (e9 : e < 1000) (at9 : AtB M u (n + 7)) (tb : gI M (u + 1) = a) : MfU M u n b a e := ⟨sh, t7, tl, n9, b9, en, ft, e9, at9, tb⟩
theorem MfU.sh {M : pMem} {u n : Nat} {b : Nat → Nat} {a : Nat → Int32} {e : Nat} (h : MfU M u n b a e) : ShM (gS M) (gP M) u := And.left h
theorem MfU.t7 {M : pMem} {u n : Nat} {b : Nat → Nat} {a : Nat → Int32} {e : Nat} (h : MfU M u n b a e) : gI M u 7 = iN (-1) := And.left (And.right h)
theorem MfU.tl {M : pMem} {u n : Nat} {b : Nat → Nat} {a : Nat → Int32} {e : Nat} (h : MfU M u n b a e) : ∀ k, k < n → gI M (u + 4) k = nN (b k) := And.left (And.right (And.right h))
theorem MfU.n9 {M : pMem} {u n : Nat} {b : Nat → Nat} {a : Nat → Int32} {e : Nat} (h : MfU M u n b a e) : n ≤ 400 := And.left (And.right (And.right (And.right h)))
theorem MfU.b9 {M : pMem} {u n : Nat} {b : Nat → Nat} {a : Nat → Int32} {e : Nat} (h : MfU M u n b a e) : ∀ k, b k < 256 := And.left (And.right (And.right (And.right (And.right h))))
theorem MfU.en {M : pMem} {u n : Nat} {b : Nat → Nat} {a : Nat → Int32} {e : Nat} (h : MfU M u n b a e) : gI M u 8 = nN n := And.left (And.right (And.right (And.right (And.right (And.right h)))))
theorem MfU.ft {M : pMem} {u n : Nat} {b : Nat → Nat} {a : Nat → Int32} {e : Nat} (h : MfU M u n b a e) : gI M u 10 = nN e := And.left (And.right (And.right (And.right (And.right (And.right (And.right h))))))
theorem MfU.e9 {M : pMem} {u n : Nat} {b : Nat → Nat} {a : Nat → Int32} {e : Nat} (h : MfU M u n b a e) : e < 1000 := And.left (And.right (And.right (And.right (And.right (And.right (And.right (And.right h)))))))
theorem MfU.at9 {M : pMem} {u n : Nat} {b : Nat → Nat} {a : Nat → Int32} {e : Nat} (h : MfU M u n b a e) : AtB M u (n + 7) := And.left (And.right (And.right (And.right (And.right (And.right (And.right (And.right (And.right h))))))))
theorem MfU.tb {M : pMem} {u n : Nat} {b : Nat → Nat} {a : Nat → Int32} {e : Nat} (h : MfU M u n b a e) : gI M (u + 1) = a := And.right (And.right (And.right (And.right (And.right (And.right (And.right (And.right (And.right h))))))))
/-- it stands somewhere, or a fault was found -/
def MdO (M : pMem) (u n : Nat) (b : Nat → Nat) (a : Nat → Int32) (r : Nat ⊕ Nat) : Prop := match r with
  | .inl e => MfU M u n b a e
  | .inr p => ∃ q, MdU M u n b a q p
def bR (r : Nat ⊕ Nat) (f : Nat → Nat ⊕ Nat) : Nat ⊕ Nat := match r with
  | .inl e => .inl e
  | .inr p => f p
section MU
variable {d n u p q k m c lo sr i e : Nat} {b : Nat → Nat} {a a' : Nat → Int32} {M M1 M' : pMem} {Q : pOut → pMem → Prop} {x y but : Int32} {r : Nat ⊕ Nat}
theorem MdU.st {X : Nat → Nat → Prop} {q' p' : Nat} (h : MdU M u n b a q p) (A : Ag X M M') (hX : ∀ h k, X h k → h = u ∧ (k = 9 ∨ k = 10)) (h2 : MdS M' u n b q' p') : MdU M' u n b a q' p' :=
  MdU.mk h2 (by rw [A.I (fun z => by have := hX _ _ z; omega)]; exact h.t7) (fun k hk => by rw [A.I (fun z => by have := hX _ _ z; omega)]; exact h.tl k hk) (by rw [A.row (fun k z => by have := hX _ _ z; omega)]; exact h.tb)
theorem MdU.bad {X : Nat → Nat → Prop} (h : MdU M u n b a q p) (A : Ag X M M') (hX : ∀ h k, X h k → h = u ∧ (k = 9 ∨ k = 10)) (f : gI M' u 10 = nN e) (he : e < 1000) (z : AtB M' u (n + 7)) : MfU M' u n b a e :=
  MfU.mk (by rw [A.S, A.P]; exact h.sd.sh) (by rw [A.I (fun z => by have := hX _ _ z; omega)]; exact h.t7) (fun k hk => by rw [A.I (fun z => by have := hX _ _ z; omega)]; exact h.tl k hk) h.sd.n9 h.sd.b9 (by rw [A.I (fun z => by have := hX _ _ z; omega)]; exact h.sd.en) f he z (by rw [A.row (fun k z => by have := hX _ _ z; omega)]; exact h.tb)
theorem MfU.lt (h : MfU M u n b a e) : LtM M u n b := Or.inl ⟨h.t7, h.n9, h.tl⟩
theorem MdX_9 : ∀ h k, (h = u ∧ k = 9) → MdX u h k := fun h k z => ⟨z.1, Or.inl z.2⟩
theorem MdX_10 : ∀ h k, (h = u ∧ k = 10) → MdX u h k := fun h k z => ⟨z.1, Or.inr z.2⟩
theorem X9_U : ∀ h k, (h = u ∧ k = 9) → h = u ∧ (k = 9 ∨ k = 10) := fun h k z => ⟨z.1, Or.inl z.2⟩
theorem X10_U : ∀ h k, (h = u ∧ k = 10) → h = u ∧ (k = 9 ∨ k = 10) := fun h k z => ⟨z.1, Or.inr z.2⟩
theorem w_hasU (h : MdS M u n b q p) (hi : i < 12) (hsr : sr = uS.getD i 0) : mw (d + 4) 63 [.ref u, .ref sr] M (fun o M' => (if th uW n b p = 1000 + i then o = .inl (some (.int (nN 1))) ∧ MdS M' u n b (te n b p) (nx9 n b p) else o = .inl (some (.int (nN 0))) ∧ MdS M' u n b p p) ∧ Ag (fun h k => h = u ∧ k = 9) M M') := by
  obtain ⟨g1, g2, g3⟩ := uW_1 i hi
  have hs : (gS M sr).1 = 104 := by
    have := h.sh.ks (sr - 900001) (by omega)
    rw [show 900001 + (sr - 900001) = sr by omega] at this
    exact this
  have hS := uS_ok i hi
  rw [← hsr] at hS
  refine mw_mono (w_has0 h hs hS g1) ?_
  rintro o M1 ⟨h1, A1⟩
  refine ⟨?_, A1⟩
  have e := th_word (n := n) (b := b) (p := p) (i := i) h.at9 (by rw [uW_3]; omega) uW_2 (by decide)
  rcases h1 with ⟨a1, a2, a3⟩ | ⟨a1, a2, a3⟩ <;> rw [e] at a1
  · rw [if_pos a1]; exact ⟨a2, a3⟩
  · rw [if_neg a1]; exact ⟨a2, a3⟩
theorem hasU (h : MdU M u n b a q p) (hi : i < 12) (hsr : sr = uS.getD i 0) : mw (d + 4) 63 [.ref u, .ref sr] M (fun o M' => (if th uW n b p = 1000 + i then o = .inl (some (.int (nN 1))) ∧ MdU M' u n b a (te n b p) (nx9 n b p) else o = .inl (some (.int (nN 0))) ∧ MdU M' u n b a p p) ∧ Ag (fun h k => h = u ∧ k = 9) M M') := by
  refine mw_mono (w_hasU h.sd hi hsr) ?_
  rintro o M1 ⟨h1, A1⟩
  refine ⟨?_, A1⟩
  split
  · rename_i c; rw [if_pos c] at h1; exact ⟨h1.1, h.st A1 X9_U h1.2⟩
  · rename_i c; rw [if_neg c] at h1; exact ⟨h1.1, h.st A1 X9_U h1.2⟩
theorem w_skipF2 (hs : ShM (gS M) (gP M) u) (hl : LtM M u n b) (h9 : ∀ k, b k < 256) (hn : n ≤ 400) (he : gI M u 8 = nN n) (hq : gI M u 9 = nN q) (hq9 : q < 1000) : mw (d + 2) 61 [.ref u] M (fun o M' => o = .inl none ∧ (∃ q8, (q8 ≤ q ∨ q8 ≤ n) ∧ gI M' u 9 = nN q8) ∧ Ag (fun h k => h = u ∧ k = 9) M M') := by
  have key : ∀ (j q : Nat) (M : pMem), q + j = n ∨ n ≤ q → q < 1000 → ShM (gS M) (gP M) u → LtM M u n b → gI M u 8 = nN n → gI M u 9 = nN q → bw (d + 1) 61 0 ([some (.ref u)], [], M) (fun o M' => o = .inl none ∧ (∃ q8, (q8 ≤ q ∨ q8 ≤ n) ∧ gI M' u 9 = nN q8) ∧ Ag (fun h k => h = u ∧ k = 9) M M') := by
    intro j
    induction j with
    | zero =>
      intro q M hj hq9 hs hl he hq
      have e : n ≤ q := by omega
      rw [e_61_0]
      simp (disch := omega) only [q_aload0, q_aload0N, q_get_i, pTag_1, pRf_s, q_ic_ge, q_invv1, inv_1, q_bipush, q_ic_ne, q_dup_i, q_dup_r, q_iconst, q_iadd, q_put_i, q_goto, q_vret, e_61_1, L_1, L_32, k_some, k_none, pRm_i, pRm_r, pRm_0, pF_1, pF_2, inv_s, hs.k0, hq, he, e, nN_le, nN_lt, nN_eq, nN_add, nN_mul, nN_lt0, nN_ge0, nN_gt0, nN_le0, nN_eq0, nN_eq1, nN_neN, pIn_n, pIx_n, eq_self, Nat.reduceLT, Bool.false_eq_true, Nat.add_zero, Nat.zero_add, Nat.reduceAdd, Nat.reduceMul, Nat.reduceSub, Nat.zero_le, Nat.reduceLeDiff, Nat.reduceEqDiff, Nat.le_refl, not_false_eq_true, not_true_eq_false, false_implies, true_implies, forall_const, true_and, and_true, if_true, if_false, implies_true, and_self, ne_eq, false_and, and_false, or_false, false_or, true_or, or_true]
      exact ⟨⟨q, Or.inl (Nat.le_refl _), rfl⟩, Ag.rfl⟩
    | succ j ih =>
      intro q M hj hq9 hs hl he hq
      by_cases e : n ≤ q
      · rw [e_61_0]
        simp (disch := omega) only [q_aload0, q_aload0N, q_get_i, pTag_1, pRf_s, q_ic_ge, q_invv1, inv_1, q_bipush, q_ic_ne, q_dup_i, q_dup_r, q_iconst, q_iadd, q_put_i, q_goto, q_vret, e_61_1, L_1, L_32, k_some, k_none, pRm_i, pRm_r, pRm_0, pF_1, pF_2, inv_s, hs.k0, hq, he, e, nN_le, nN_lt, nN_eq, nN_add, nN_mul, nN_lt0, nN_ge0, nN_gt0, nN_le0, nN_eq0, nN_eq1, nN_neN, pIn_n, pIx_n, eq_self, Nat.reduceLT, Bool.false_eq_true, Nat.add_zero, Nat.zero_add, Nat.reduceAdd, Nat.reduceMul, Nat.reduceSub, Nat.zero_le, Nat.reduceLeDiff, Nat.reduceEqDiff, Nat.le_refl, not_false_eq_true, not_true_eq_false, false_implies, true_implies, forall_const, true_and, and_true, if_true, if_false, implies_true, and_self, ne_eq, false_and, and_false, or_false, false_or, true_or, or_true]
        exact ⟨⟨q, Or.inl (Nat.le_refl _), rfl⟩, Ag.rfl⟩
      · have hb9 := h9 q
        rw [e_61_0]
        by_cases c : b q = 32
        · simp (disch := omega) only [q_aload0, q_aload0N, q_get_i, pTag_1, pRf_s, q_ic_ge, q_invv1, inv_1, q_bipush, q_ic_ne, q_dup_i, q_dup_r, q_iconst, q_iadd, q_put_i, q_goto, q_vret, e_61_1, L_1, L_32, k_some, k_none, pRm_i, pRm_r, pRm_0, pF_1, pF_2, inv_s, hs.k0, hq, he, w_letter hs hl, e, c, nN_le, nN_lt, nN_eq, nN_add, nN_mul, nN_lt0, nN_ge0, nN_gt0, nN_le0, nN_eq0, nN_eq1, nN_neN, pIn_n, pIx_n, eq_self, Nat.reduceLT, Bool.false_eq_true, Nat.add_zero, Nat.zero_add, Nat.reduceAdd, Nat.reduceMul, Nat.reduceSub, Nat.zero_le, Nat.reduceLeDiff, Nat.reduceEqDiff, Nat.le_refl, not_false_eq_true, not_true_eq_false, false_implies, true_implies, forall_const, true_and, and_true, if_true, if_false, implies_true, and_self, ne_eq, false_and, and_false, or_false, false_or, true_or, or_true]
          have A : Ag (fun h k => h = u ∧ k = 9) M (sI M u 9 (nN (q + 1))) := Ag.one ⟨rfl, rfl⟩
          refine bw_mono (ih (q + 1) _ (by omega) (by omega) hs (hl.ag A (by omega) (by omega) (by omega)) (by rw [gI_sI, if_neg (by omega)]; exact he) (by rw [gI_sI, if_pos ⟨rfl, rfl⟩])) ?_
          rintro _ M3 ⟨rfl, ⟨q8, y1, y2⟩, A3⟩
          exact ⟨rfl, ⟨q8, by omega, y2⟩, A.trans A3⟩
        · simp (disch := omega) only [q_aload0, q_aload0N, q_get_i, pTag_1, pRf_s, q_ic_ge, q_invv1, inv_1, q_bipush, q_ic_ne, q_dup_i, q_dup_r, q_iconst, q_iadd, q_put_i, q_goto, q_vret, e_61_1, L_1, L_32, k_some, k_none, pRm_i, pRm_r, pRm_0, pF_1, pF_2, inv_s, hs.k0, hq, he, w_letter hs hl, e, c, nN_le, nN_lt, nN_eq, nN_add, nN_mul, nN_lt0, nN_ge0, nN_gt0, nN_le0, nN_eq0, nN_eq1, nN_neN, pIn_n, pIx_n, eq_self, Nat.reduceLT, Bool.false_eq_true, Nat.add_zero, Nat.zero_add, Nat.reduceAdd, Nat.reduceMul, Nat.reduceSub, Nat.zero_le, Nat.reduceLeDiff, Nat.reduceEqDiff, Nat.le_refl, not_false_eq_true, not_true_eq_false, false_implies, true_implies, forall_const, true_and, and_true, if_true, if_false, implies_true, and_self, ne_eq, false_and, and_false, or_false, false_or, true_or, or_true]
          exact ⟨⟨q, Or.inl (Nat.le_refl _), rfl⟩, Ag.rfl⟩
  simp (disch := omega) only [m_61]
  exact key (n - q) q M (by omega) hq9 hs hl he hq
theorem u_figs {hi : Int32} (h : MdO M u n b a r) (hlo : lo ≤ 1000) (hh : ∀ v, v ≤ 3001 → ((nN v ≤ hi) = (v < c))) (hc : c ≤ 1000) : mw (d + 4) 66 [.ref u, .int (nN lo), .int hi] M (fun o M' => ∃ v, o = .inl (some (.int v)) ∧ MdO M' u n b a (bR r fun p => if lo ≤ th uW n b p ∧ th uW n b p < c then .inr (nx9 n b p) else .inl p) ∧ (∀ p, r = .inr p → lo ≤ th uW n b p ∧ th uW n b p < c → v = nN (th uW n b p)) ∧ Ag (MdX u) M M') := by
  have hW : uW.length < 100 := by decide
  cases r with
  | inl e =>
    have h : MfU M u n b a e := h
    have f := h.ft
    have f2 := nN_ft h.e9
    simp (disch := omega) only [m_66, q_aload0, q_aload0N, q_get_i, pTag_1, pRf_s, q_iconst, q_ic_eq, q_iret, q_invv0, inv_1, q_istore3, q_istore4, q_nop, q_ic_ge, q_invv1, q_bipush, q_invs3_20, q_if_eq, q_iload3, q_isub, q_iload4, q_imul, q_iadd, q_dup_i, q_dup_r, q_put_i, q_goto, q_ic_gt, q_iload1, q_ic_lt, q_iload2, q_ic_le, e_66_0, L_0, L_1, L_3, L_4, L_10, L_48, L_57, k_some, k_none, pRm_i, pRm_r, pRm_0, pF_1, pF_2, inv_s, h.sh.k0, f, f2, nN_le, nN_lt, nN_eq, nN_add, nN_mul, nN_lt0, nN_ge0, nN_gt0, nN_le0, nN_eq0, nN_eq1, nN_neN, pIn_n, pIx_n, eq_self, Nat.reduceLT, Bool.false_eq_true, Nat.add_zero, Nat.zero_add, Nat.reduceAdd, Nat.reduceMul, Nat.reduceSub, Nat.zero_le, Nat.reduceLeDiff, Nat.reduceEqDiff, Nat.le_refl, not_false_eq_true, not_true_eq_false, false_implies, true_implies, forall_const, true_and, and_true, if_true, if_false, implies_true, and_self, ne_eq, false_and, and_false, or_false, false_or, true_or, or_true]
    exact ⟨_, rfl, h, (fun p z => nomatch z), Ag.rfl⟩
  | inr p =>
    obtain ⟨q, h⟩ : ∃ q, MdU M u n b a q p := h
    have hpn := h.sd.ple.2
    have hn := h.sd.n9
    refine mw_mono (w_figures (W := uW) h.sd hW hlo hh hc) ?_
    rintro o M1 ⟨h1, A1⟩
    rcases h1 with ⟨g1, rfl, g3⟩ | ⟨g1, ⟨v, rfl⟩, g3, q9, g4, g5⟩
    · refine ⟨_, rfl, ?_, fun p' z _ => by cases z; rfl, A1⟩
      show MdO M1 u n b a (if _ then _ else _)
      rw [if_pos g1]
      exact ⟨_, h.st A1 (fun h k z => z) g3⟩
    · refine ⟨v, rfl, ?_, fun p' z z2 => by cases z; exact absurd z2 g1, A1⟩
      show MdO M1 u n b a (if _ then _ else _)
      rw [if_neg g1]
      exact h.bad A1 (fun h k z => z) g3 (by omega) ⟨q9, by omega, g5⟩
theorem u_must (h : MdO M u n b a r) (hi : i < 12) (hsr : sr = uS.getD i 0) : mw (d + 5) 65 [.ref u, .ref sr] M (fun o M' => o = .inl none ∧ MdO M' u n b a (bR r fun p => if th uW n b p = 1000 + i then .inr (nx9 n b p) else .inl p) ∧ Ag (MdX u) M M') := by
  cases r with
  | inl e =>
    have h : MfU M u n b a e := h
    have f := h.ft
    have f2 := nN_ft h.e9
    simp (disch := omega) only [m_65, q_aload0, q_aload0N, q_get_i, pTag_1, pRf_s, q_iconst, q_ic_ne, q_aload1, q_aload1N, q_invv1, inv_1, q_if_ne, q_nop, q_vret, e_65_0, e_65_1, k_some, k_none, pRm_i, pRm_r, pRm_0, pF_1, pF_2, inv_s, h.sh.k0, f, f2, nN_le, nN_lt, nN_eq, nN_add, nN_mul, nN_lt0, nN_ge0, nN_gt0, nN_le0, nN_eq0, nN_eq1, nN_neN, pIn_n, pIx_n, eq_self, Nat.reduceLT, Bool.false_eq_true, Nat.add_zero, Nat.zero_add, Nat.reduceAdd, Nat.reduceMul, Nat.reduceSub, Nat.zero_le, Nat.reduceLeDiff, Nat.reduceEqDiff, Nat.le_refl, not_false_eq_true, not_true_eq_false, false_implies, true_implies, forall_const, true_and, and_true, if_true, if_false, implies_true, and_self, ne_eq, false_and, and_false, or_false, false_or, true_or, or_true]
    exact ⟨h, Ag.rfl⟩
  | inr p =>
    obtain ⟨q, h⟩ : ∃ q, MdU M u n b a q p := h
    have hpn := h.sd.ple.2
    have hn := h.sd.n9
    have f := h.sd.ft
    simp (disch := omega) only [m_65, q_aload0, q_aload0N, q_get_i, pTag_1, pRf_s, q_iconst, q_ic_ne, q_aload1, q_aload1N, q_invv1, inv_1, q_if_ne, q_nop, q_vret, e_65_0, k_some, k_none, pRm_i, pRm_r, pRm_0, pF_1, pF_2, inv_s, h.sd.sh.k0, f, nN_le, nN_lt, nN_eq, nN_add, nN_mul, nN_lt0, nN_ge0, nN_gt0, nN_le0, nN_eq0, nN_eq1, nN_neN, pIn_n, pIx_n, eq_self, Nat.reduceLT, Bool.false_eq_true, Nat.add_zero, Nat.zero_add, Nat.reduceAdd, Nat.reduceMul, Nat.reduceSub, Nat.zero_le, Nat.reduceLeDiff, Nat.reduceEqDiff, Nat.le_refl, not_false_eq_true, not_true_eq_false, false_implies, true_implies, forall_const, true_and, and_true, if_true, if_false, implies_true, and_self, ne_eq, false_and, and_false, or_false, false_or, true_or, or_true]
    refine mw_mono (hasU h hi hsr) ?_
    rintro o M1 ⟨h1, A1⟩
    by_cases c : th uW n b p = 1000 + i
    · rw [if_pos c] at h1
      obtain ⟨rfl, h1⟩ := h1
      simp (disch := omega) only [q_aload0, q_aload0N, q_get_i, pTag_1, pRf_s, q_iconst, q_ic_ne, q_aload1, q_aload1N, q_invv1, inv_1, q_if_ne, q_nop, q_vret, e_65_0, e_65_1, k_some, k_none, pRm_i, pRm_r, pRm_0, pF_1, pF_2, inv_s, nN_le, nN_lt, nN_eq, nN_add, nN_mul, nN_lt0, nN_ge0, nN_gt0, nN_le0, nN_eq0, nN_eq1, nN_neN, pIn_n, pIx_n, eq_self, Nat.reduceLT, Bool.false_eq_true, Nat.add_zero, Nat.zero_add, Nat.reduceAdd, Nat.reduceMul, Nat.reduceSub, Nat.zero_le, Nat.reduceLeDiff, Nat.reduceEqDiff, Nat.le_refl, not_false_eq_true, not_true_eq_false, false_implies, true_implies, forall_const, true_and, and_true, if_true, if_false, implies_true, and_self, ne_eq, false_and, and_false, or_false, false_or, true_or, or_true]
      refine ⟨?_, A1.mono MdX_9⟩
      show MdO M1 u n b a (if _ then _ else _)
      rw [if_pos c]
      exact ⟨_, h1⟩
    · rw [if_neg c] at h1
      obtain ⟨rfl, h1⟩ := h1
      simp (disch := omega) only [q_aload0, q_aload0N, q_get_i, pTag_1, pRf_s, q_iconst, q_ic_ne, q_aload1, q_aload1N, q_invv1, inv_1, q_if_ne, q_nop, q_vret, e_65_0, k_some, k_none, pRm_i, pRm_r, pRm_0, pF_1, pF_2, inv_s, h1.sd.sh.k0, h1.sd.aq, nN_le, nN_lt, nN_eq, nN_add, nN_mul, nN_lt0, nN_ge0, nN_gt0, nN_le0, nN_eq0, nN_eq1, nN_neN, pIn_n, pIx_n, eq_self, Nat.reduceLT, Bool.false_eq_true, Nat.add_zero, Nat.zero_add, Nat.reduceAdd, Nat.reduceMul, Nat.reduceSub, Nat.zero_le, Nat.reduceLeDiff, Nat.reduceEqDiff, Nat.le_refl, not_false_eq_true, not_true_eq_false, false_implies, true_implies, forall_const, true_and, and_true, if_true, if_false, implies_true, and_self, ne_eq, false_and, and_false, or_false, false_or, true_or, or_true]
      refine mw_mono (w_wrongM h1.sd.sh h1.sd.ft) ?_
      rintro _ M2 ⟨rfl, h2, A2⟩
      simp (disch := omega) only [q_aload0, q_aload0N, q_get_i, pTag_1, pRf_s, q_iconst, q_ic_ne, q_aload1, q_aload1N, q_invv1, inv_1, q_if_ne, q_nop, q_vret, e_65_0, e_65_1, k_some, k_none, pRm_i, pRm_r, pRm_0, pF_1, pF_2, inv_s, nN_le, nN_lt, nN_eq, nN_add, nN_mul, nN_lt0, nN_ge0, nN_gt0, nN_le0, nN_eq0, nN_eq1, nN_neN, pIn_n, pIx_n, eq_self, Nat.reduceLT, Bool.false_eq_true, Nat.add_zero, Nat.zero_add, Nat.reduceAdd, Nat.reduceMul, Nat.reduceSub, Nat.zero_le, Nat.reduceLeDiff, Nat.reduceEqDiff, Nat.le_refl, not_false_eq_true, not_true_eq_false, false_implies, true_implies, forall_const, true_and, and_true, if_true, if_false, implies_true, and_self, ne_eq, false_and, and_false, or_false, false_or, true_or, or_true]
      refine ⟨?_, (A1.mono MdX_9).trans (A2.mono MdX_10)⟩
      show MdO M2 u n b a (if _ then _ else _)
      rw [if_neg c]
      exact h1.bad A2 X10_U h2 (by omega) ⟨p, by omega, by rw [A2.I (by omega)]; exact h1.sd.aq⟩
theorem u_person (h : MdO M u n b a r) (hw : Wf a) : mw (d + 5) 67 [.ref u, .int but] M (fun o M' => ∃ v, o = .inl (some (.int v)) ∧ MdO M' u n b a (bR r fun p => if th uW n b p < nP a ∧ ¬ nN (th uW n b p) = but then .inr (nx9 n b p) else .inl p) ∧ (∀ p, r = .inr p → th uW n b p < nP a → v = nN (th uW n b p)) ∧ Ag (MdX u) M M') := by
  have hp' := hw.p'
  cases r with
  | inl e =>
    have h : MfU M u n b a e := h
    obtain ⟨q9, z1, z2⟩ := h.at9
    have hn := h.n9
    simp (disch := omega) only [m_67, q_aload0, q_aload0N, q_invv0, inv_1, q_get_i, pTag_1, pRf_s, q_istore2, q_iconst, q_get_r, q_iald, q_isub, q_invv2, q_istore3, q_ic_ne, q_iload3, q_iload1, q_iload2, q_invv1, q_nop, q_iret, e_67_0, L_0, L_1, k_some, k_none, pRm_i, pRm_r, pRm_0, pF_1, pF_2, inv_s, h.sh.k0, nN_le, nN_lt, nN_eq, nN_add, nN_mul, nN_lt0, nN_ge0, nN_gt0, nN_le0, nN_eq0, nN_eq1, nN_neN, pIn_n, pIx_n, eq_self, Nat.reduceLT, Bool.false_eq_true, Nat.add_zero, Nat.zero_add, Nat.reduceAdd, Nat.reduceMul, Nat.reduceSub, Nat.zero_le, Nat.reduceLeDiff, Nat.reduceEqDiff, Nat.le_refl, not_false_eq_true, not_true_eq_false, false_implies, true_implies, forall_const, true_and, and_true, if_true, if_false, implies_true, and_self, ne_eq, false_and, and_false, or_false, false_or, true_or, or_true]
    refine mw_mono (w_skipF2 h.sh h.lt h.b9 hn h.en z2 (by omega)) ?_
    rintro _ M1 ⟨rfl, ⟨q8, y1, y2⟩, A1⟩
    have h1 : MfU M1 u n b a e := MfU.mk (by rw [A1.S, A1.P]; exact h.sh) (by rw [A1.I (by omega)]; exact h.t7) (fun k hk => by rw [A1.I (by omega)]; exact h.tl k hk) hn h.b9 (by rw [A1.I (by omega)]; exact h.en) (by rw [A1.I (by omega)]; exact h.ft) h.e9 ⟨q8, by omega, y2⟩ (by rw [A1.row (by omega)]; exact h.tb)
    have f := h1.ft
    have f2 := nN_ft h1.e9
    have m1 : gI M1 (u + 1) 1 = nN (nP a) := by rw [h1.tb]; exact hw.p
    simp (disch := omega) only [q_aload0, q_aload0N, q_invv0, inv_1, q_get_i, pTag_1, pRf_s, q_istore2, q_iconst, q_get_r, q_iald, q_isub, q_invv2, q_istore3, q_ic_ne, q_iload3, q_iload1, q_iload2, q_invv1, q_nop, q_iret, e_67_0, L_0, L_1, k_some, k_none, pRm_i, pRm_r, pRm_0, pF_1, pF_2, inv_s, h1.sh.k0, h1.sh.k1, h1.sh.p1, y2, m1, eq_self, Nat.reduceLT, Bool.false_eq_true, Nat.add_zero, Nat.zero_add, Nat.reduceAdd, Nat.reduceMul, Nat.reduceSub, Nat.zero_le, Nat.reduceLeDiff, Nat.reduceEqDiff, Nat.le_refl, not_false_eq_true, not_true_eq_false, false_implies, true_implies, forall_const, true_and, and_true, if_true, if_false, implies_true, and_self, ne_eq, false_and, and_false, or_false, false_or, true_or, or_true, pIn_n, pIx_n]
    refine mw_mono (u_figs (lo := 0) (c := nP a) (r := .inl e) h1 (by omega) (nm_le (by omega)) (by omega)) ?_
    rintro o M2 ⟨v, rfl, h2, -, A2⟩
    have h2 : MfU M2 u n b a e := h2
    have f := h2.ft
    simp (disch := omega) only [q_aload0, q_aload0N, q_invv0, inv_1, q_get_i, pTag_1, pRf_s, q_istore2, q_iconst, q_get_r, q_iald, q_isub, q_invv2, q_istore3, q_ic_ne, q_iload3, q_iload1, q_iload2, q_invv1, q_nop, q_iret, e_67_0, e_67_1, L_0, L_1, k_some, k_none, pRm_i, pRm_r, pRm_0, pF_1, pF_2, inv_s, h2.sh.k0, f, f2, nN_le, nN_lt, nN_eq, nN_add, nN_mul, nN_lt0, nN_ge0, nN_gt0, nN_le0, nN_eq0, nN_eq1, nN_neN, pIn_n, pIx_n, eq_self, Nat.reduceLT, Bool.false_eq_true, Nat.add_zero, Nat.zero_add, Nat.reduceAdd, Nat.reduceMul, Nat.reduceSub, Nat.zero_le, Nat.reduceLeDiff, Nat.reduceEqDiff, Nat.le_refl, not_false_eq_true, not_true_eq_false, false_implies, true_implies, forall_const, true_and, and_true, if_true, if_false, implies_true, and_self, ne_eq, false_and, and_false, or_false, false_or, true_or, or_true]
    exact ⟨v, rfl, h2, (fun p z => nomatch z), (A1.mono MdX_9).trans A2⟩
  | inr p =>
    obtain ⟨q, h⟩ : ∃ q, MdU M u n b a q p := h
    have hpn := h.sd.ple.2
    have hn := h.sd.n9
    simp (disch := omega) only [m_67, q_aload0, q_aload0N, q_invv0, inv_1, q_get_i, pTag_1, pRf_s, q_istore2, q_iconst, q_get_r, q_iald, q_isub, q_invv2, q_istore3, q_ic_ne, q_iload3, q_iload1, q_iload2, q_invv1, q_nop, q_iret, e_67_0, L_0, L_1, k_some, k_none, pRm_i, pRm_r, pRm_0, pF_1, pF_2, inv_s, h.sd.sh.k0, nN_le, nN_lt, nN_eq, nN_add, nN_mul, nN_lt0, nN_ge0, nN_gt0, nN_le0, nN_eq0, nN_eq1, nN_neN, pIn_n, pIx_n, eq_self, Nat.reduceLT, Bool.false_eq_true, Nat.add_zero, Nat.zero_add, Nat.reduceAdd, Nat.reduceMul, Nat.reduceSub, Nat.zero_le, Nat.reduceLeDiff, Nat.reduceEqDiff, Nat.le_refl, not_false_eq_true, not_true_eq_false, false_implies, true_implies, forall_const, true_and, and_true, if_true, if_false, implies_true, and_self, ne_eq, false_and, and_false, or_false, false_or, true_or, or_true]
    refine mw_mono (w_skip h.sd) ?_
    rintro _ M1 ⟨rfl, s1, A1⟩
    have h1 := h.st A1 X9_U s1
    have m1 : gI M1 (u + 1) 1 = nN (nP a) := by rw [h1.tb]; exact hw.p
    simp (disch := omega) only [q_aload0, q_aload0N, q_invv0, inv_1, q_get_i, pTag_1, pRf_s, q_istore2, q_iconst, q_get_r, q_iald, q_isub, q_invv2, q_istore3, q_ic_ne, q_iload3, q_iload1, q_iload2, q_invv1, q_nop, q_iret, e_67_0, L_0, L_1, k_some, k_none, pRm_i, pRm_r, pRm_0, pF_1, pF_2, inv_s, s1.sh.k0, s1.sh.k1, s1.sh.p1, s1.aq, m1, eq_self, Nat.reduceLT, Bool.false_eq_true, Nat.add_zero, Nat.zero_add, Nat.reduceAdd, Nat.reduceMul, Nat.reduceSub, Nat.zero_le, Nat.reduceLeDiff, Nat.reduceEqDiff, Nat.le_refl, not_false_eq_true, not_true_eq_false, false_implies, true_implies, forall_const, true_and, and_true, if_true, if_false, implies_true, and_self, ne_eq, false_and, and_false, or_false, false_or, true_or, or_true, pIn_n, pIx_n]
    refine mw_mono (u_figs (lo := 0) (c := nP a) (r := .inr p) ⟨_, h1⟩ (by omega) (nm_le (by omega)) (by omega)) ?_
    rintro o M2 ⟨v, rfl, h2, e2, A2⟩
    have A02 := (A1.mono MdX_9).trans A2
    by_cases c : 0 ≤ th uW n b p ∧ th uW n b p < nP a
    · have h2 : MdO M2 u n b a (if 0 ≤ th uW n b p ∧ th uW n b p < nP a then .inr (nx9 n b p) else .inl p) := h2
      rw [if_pos c] at h2
      obtain ⟨q2, h2⟩ := h2
      have ev := e2 p rfl c
      have f := h2.sd.ft
      have htl : th uW n b p < 4000 := by omega
      by_cases c2 : nN (th uW n b p) = but
      · have hno : ¬ (th uW n b p < nP a ∧ ¬ nN (th uW n b p) = but) := fun z => z.2 c2
        simp (disch := omega) only [q_aload0, q_aload0N, q_invv0, inv_1, q_get_i, pTag_1, pRf_s, q_istore2, q_iconst, q_get_r, q_iald, q_isub, q_invv2, q_istore3, q_ic_ne, q_iload3, q_iload1, q_iload2, q_invv1, q_nop, q_iret, e_67_0, L_0, L_1, k_some, k_none, pRm_i, pRm_r, pRm_0, pF_1, pF_2, inv_s, h2.sd.sh.k0, f, ev, c2, nN_le, nN_lt, nN_eq, nN_add, nN_mul, nN_lt0, nN_ge0, nN_gt0, nN_le0, nN_eq0, nN_eq1, nN_neN, pIn_n, pIx_n, eq_self, Nat.reduceLT, Bool.false_eq_true, Nat.add_zero, Nat.zero_add, Nat.reduceAdd, Nat.reduceMul, Nat.reduceSub, Nat.zero_le, Nat.reduceLeDiff, Nat.reduceEqDiff, Nat.le_refl, not_false_eq_true, not_true_eq_false, false_implies, true_implies, forall_const, true_and, and_true, if_true, if_false, implies_true, and_self, ne_eq, false_and, and_false, or_false, false_or, true_or, or_true]
        refine mw_mono (w_wrongM h2.sd.sh f) ?_
        rintro _ M3 ⟨rfl, h3, A3⟩
        simp (disch := omega) only [q_aload0, q_aload0N, q_invv0, inv_1, q_get_i, pTag_1, pRf_s, q_istore2, q_iconst, q_get_r, q_iald, q_isub, q_invv2, q_istore3, q_ic_ne, q_iload3, q_iload1, q_iload2, q_invv1, q_nop, q_iret, e_67_0, e_67_1, L_0, L_1, k_some, k_none, pRm_i, pRm_r, pRm_0, pF_1, pF_2, inv_s, nN_le, nN_lt, nN_eq, nN_add, nN_mul, nN_lt0, nN_ge0, nN_gt0, nN_le0, nN_eq0, nN_eq1, nN_neN, pIn_n, pIx_n, eq_self, Nat.reduceLT, Bool.false_eq_true, Nat.add_zero, Nat.zero_add, Nat.reduceAdd, Nat.reduceMul, Nat.reduceSub, Nat.zero_le, Nat.reduceLeDiff, Nat.reduceEqDiff, Nat.le_refl, not_false_eq_true, not_true_eq_false, false_implies, true_implies, forall_const, true_and, and_true, if_true, if_false, implies_true, and_self, ne_eq, false_and, and_false, or_false, false_or, true_or, or_true]
        refine ⟨_, rfl, ?_, fun p' z _ => by cases z; exact c2.symm, A02.trans (A3.mono MdX_10)⟩
        show MdO M3 u n b a (if _ then _ else _)
        rw [c2] at hno
        rw [c2, if_neg hno]
        have := h2.sd.cl.1
        exact h2.bad A3 X10_U h3 (by omega) ⟨q2, by omega, by rw [A3.I (by omega)]; exact h2.sd.aq⟩
      · simp (disch := omega) only [q_aload0, q_aload0N, q_invv0, inv_1, q_get_i, pTag_1, pRf_s, q_istore2, q_iconst, q_get_r, q_iald, q_isub, q_invv2, q_istore3, q_ic_ne, q_iload3, q_iload1, q_iload2, q_invv1, q_nop, q_iret, e_67_0, e_67_1, L_0, L_1, k_some, k_none, pRm_i, pRm_r, pRm_0, pF_1, pF_2, inv_s, h2.sd.sh.k0, f, ev, c2, nN_le, nN_lt, nN_eq, nN_add, nN_mul, nN_lt0, nN_ge0, nN_gt0, nN_le0, nN_eq0, nN_eq1, nN_neN, pIn_n, pIx_n, eq_self, Nat.reduceLT, Bool.false_eq_true, Nat.add_zero, Nat.zero_add, Nat.reduceAdd, Nat.reduceMul, Nat.reduceSub, Nat.zero_le, Nat.reduceLeDiff, Nat.reduceEqDiff, Nat.le_refl, not_false_eq_true, not_true_eq_false, false_implies, true_implies, forall_const, true_and, and_true, if_true, if_false, implies_true, and_self, ne_eq, false_and, and_false, or_false, false_or, true_or, or_true]
        refine ⟨_, rfl, ?_, fun p' z _ => by cases z; rfl, A02⟩
        show MdO M2 u n b a (if _ then _ else _)
        rw [if_pos ⟨c.2, c2⟩]
        exact ⟨_, h2⟩
    · have hno : ¬ (th uW n b p < nP a ∧ ¬ nN (th uW n b p) = but) := fun z => c ⟨by omega, z.1⟩
      have h2 : MdO M2 u n b a (if 0 ≤ th uW n b p ∧ th uW n b p < nP a then .inr (nx9 n b p) else .inl p) := h2
      rw [if_neg c] at h2
      have h2 : MfU M2 u n b a p := h2
      have f := h2.ft
      have f2 := nN_ft h2.e9
      simp (disch := omega) only [q_aload0, q_aload0N, q_invv0, inv_1, q_get_i, pTag_1, pRf_s, q_istore2, q_iconst, q_get_r, q_iald, q_isub, q_invv2, q_istore3, q_ic_ne, q_iload3, q_iload1, q_iload2, q_invv1, q_nop, q_iret, e_67_0, e_67_1, L_0, L_1, k_some, k_none, pRm_i, pRm_r, pRm_0, pF_1, pF_2, inv_s, h2.sh.k0, f, f2, nN_le, nN_lt, nN_eq, nN_add, nN_mul, nN_lt0, nN_ge0, nN_gt0, nN_le0, nN_eq0, nN_eq1, nN_neN, pIn_n, pIx_n, eq_self, Nat.reduceLT, Bool.false_eq_true, Nat.add_zero, Nat.zero_add, Nat.reduceAdd, Nat.reduceMul, Nat.reduceSub, Nat.zero_le, Nat.reduceLeDiff, Nat.reduceEqDiff, Nat.le_refl, not_false_eq_true, not_true_eq_false, false_implies, true_implies, forall_const, true_and, and_true, if_true, if_false, implies_true, and_self, ne_eq, false_and, and_false, or_false, false_or, true_or, or_true]
      refine ⟨_, rfl, ?_, fun p' z z2 => by cases z; exact absurd ⟨by omega, z2⟩ c, A02⟩
      show MdO M2 u n b a (if _ then _ else _)
      rw [if_neg hno]
      exact h2
end MU
