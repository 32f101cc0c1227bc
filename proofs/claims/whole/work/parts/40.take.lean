/-! WHAT ONE TAKES: the temper's facts and its word -/
def XF (t h _k : Nat) : Prop := h = t + 16
def Fc (M : pMem) (t : Nat) (l : List (Nat × Int32)) : Prop := ∀ i x, (i, x) ∈ l → gI M (t + 16) i = x
def sHeld (a : Nat → Int32) (f : Nat) (q : Int32) : Bool := decide (∃ k, k < fD a f + 1 ∧ fa a f (8 + k) = q)
def fvs (w am hd lf ow db nr tm ag : Int32) : Nat → Int32 := fun i => if i = 0 then w else if i = 1 then am else if i = 2 then hd else if i = 3 then lf else if i = 4 then ow else if i = 5 then db else if i = 6 then nr else if i = 7 then tm else ag
/-- a temper's text in the table -/
def txt (a : Nat → Int32) (k : Nat) : List Int32 := (List.range (a (940 + 401 * k)).toInt.toNat).map fun j => a (941 + 401 * k + j)
/-- the last three facts are yes or no -/
def Bl (fv : Nat → Int32) : Prop := ∀ i, 6 ≤ i → i < 9 → fv i = nN 0 ∨ fv i = nN 1
/-- the law's model, reading a text with facts: it says what val says -/
def TxV (tx : List Int32) (val : (Nat → Int32) → Bool) : Prop := ∀ (d : Nat) (M : pMem) (u b : Nat) (fv : Nat → Int32), ShM (gS M) (gP M) u → gI M u 7 = nN b → b + tx.length ≤ 3346 → gI M u 8 = nN tx.length → gI M u 10 = iN (-1) → gI M u 17 = iN (-1) → (∀ i, i < tx.length → gI M (u + 1) (b + i) = tx.getD i 0) → (∀ i, i < 6 → gI M (u + 5) i = fv i) → gI M u 14 = fv 6 → gI M u 15 = fv 7 → gI M u 16 = fv 8 → Bl fv →
  mw (d + 60) 69 [.ref u, .int (nN 1)] M (fun o M' => o = .inl none ∧ Ag (fun h k => h = u ∧ (k = 9 ∨ k = 11 ∨ k = 12 ∨ k = 17)) M M' ∧ (gI M' u 17 = nN 1 ↔ val fv = true))
noncomputable def tvl (tx : List Int32) : (Nat → Int32) → Bool := @dite _ (∃ val, TxV tx val) (Classical.propDecidable _) (fun h => h.choose) (fun _ => fun _ => false)
theorem tvl_ok {tx : List Int32} (h : ∃ val, TxV tx val) : TxV tx (tvl tx) := by
  unfold tvl
  rw [dif_pos h]
  exact h.choose_spec
noncomputable def tv (a : Nat → Int32) (k : Nat) : (Nat → Int32) → Bool := tvl (txt a k)
def tmN (a : Nat → Int32) (p : Nat) : Nat := (pa a p 1).toInt.toNat
def gv (a : Nat → Int32) (f : Nat) : Nat := (fa a f 0).toInt.toNat
def sNear (a : Nat → Int32) (p g : Nat) : Prop := (pa a p 2 >>> (nN g &&& 31)) &&& nN 1 = nN 1
def sAsk (a : Nat → Int32) (p g : Nat) (am hd en : Int32) (ag : Bool) : Nat → Int32 :=
  fvs (sWorth am hd / nN 1024) am hd (if en = iN (-1) then nN 999 else en - a 6) (sRich a (nN p) / nN 1024) (sDebt a (nN g)) (bI ((pa a p 2 >>> (nN g &&& 31)) &&& nN 1 = nN 1)) (bI (¬ en = iN (-1))) (bI (ag = true))
theorem bI_01 {b : Prop} [Decidable b] : bI b = nN 0 ∨ bI b = nN 1 := by
  unfold bI
  split
  · exact Or.inr rfl
  · exact Or.inl rfl
theorem Bl_ask {a : Nat → Int32} {p g : Nat} {am hd en : Int32} {ag : Bool} : Bl (sAsk a p g am hd en ag) := by
  intro i h1 h2
  have : i = 6 ∨ i = 7 ∨ i = 8 := by omega
  rcases this with rfl | rfl | rfl
  · exact bI_01
  · exact bI_01
  · exact bI_01
noncomputable def sTakes (a : Nat → Int32) (p g : Nat) (am hd en : Int32) (fc ag : Bool) : Bool := fc || decide (pa a p 1 = iN (-1)) || tv a (tmN a p) (sAsk a p g am hd en ag)
noncomputable def sTakeF (a : Nat → Int32) (p f : Nat) : Bool := sTakes a p (gv a f) (fa a f 1) (fa a f 3 + nN 1) (fa a f 4) (decide (fa a f 5 = nN 1)) (sHeld a f (nN p))
/-- the tempers of the town at t, beside its Rep -/
def TmR (M : pMem) (t : Nat) (a : Nat → Int32) : Prop := ∀ k, k < nT a → ∃ q cs, gP M (t + 15) k = some q ∧ TmO M q cs ∧ ∀ fv, Bl fv → runC fv cs [] = tv a k fv
theorem TmR.ag {M M' : pMem} {t u : Nat} {a : Nat → Int32} (h : TmR M t a) (A : Ag (XC (gS M) (gP M) u) M M') (hu : u + 16 ≤ 100) : TmR M' t a := by
  intro k hk
  obtain ⟨q, cs, h1, h2, h3⟩ := h k hk
  exact ⟨q, cs, by rw [A.P]; exact h1, h2.ag A hu, h3⟩
section TK
variable {d t u q f p : Nat} {a : Nat → Int32} {M : pMem} {Q : pOut → pMem → Prop}
theorem w_tell {l : List (Nat × Int32)} {k c : Nat} {x : Int32} (hr : ShT (gS M) (gP M) t) (hF : Fc M t l) (hk : k < 9) (hc : c = 1000 + k) (hn : ∀ y, (k, y) ∉ l) : mw (d + 1) 226 [.ref t, .int (nN c), .int x] M (fun o M' => o = .inl none ∧ Ag (XF t) M M' ∧ Fc M' t ((k, x) :: l)) := by
  have e : nN c - nN 1000 = nN k := by show iN _ - iN _ = _; rw [iN_sub]; unfold nN; congr 1; omega
  have e2 : ¬ 9 ≤ k := by omega
  have e3 : iN (9 : Nat) = nN 9 := rfl
  simp (disch := omega) only [m_226, q_iload1, q_sipush, q_isub, q_istore3, q_iload3, q_if_lt, q_aload0, q_aload0N, q_get_r, pTag_1, pRf_s, q_alen, q_ic_ge, q_iload2, q_iast, q_nop, q_vret, e_226_0, e_226_1, L_1000, hr.k0, hr.p3, hr.k16, e, nN_le, nN_lt, nN_eq, nN_add, nN_mul, nN_lt0, nN_ge0, nN_gt0, nN_le0, nN_eq0, nN_eq1, nN_neN, pIn_n, pIx_n, eq_self, Nat.reduceLT, Bool.false_eq_true, Nat.add_zero, Nat.zero_add, Nat.reduceAdd, Nat.reduceMul, Nat.reduceSub, Nat.zero_le, Nat.reduceLeDiff, Nat.reduceEqDiff, Nat.le_refl, not_false_eq_true, not_true_eq_false, false_implies, true_implies, forall_const, true_and, and_true, if_true, if_false, implies_true, and_self, ne_eq, false_and, and_false, or_false, false_or, true_or, or_true, e2, e3, hk]
  refine ⟨Ag.one rfl, ?_⟩
  intro i y hi
  simp only [List.mem_cons, Prod.mk.injEq] at hi
  rcases hi with ⟨rfl, rfl⟩ | hi
  · simp [gI_sI]
  · have : i ≠ k := by rintro rfl; exact hn y hi
    rw [gI_sI, if_neg (by simp [this])]
    exact hF i y hi
theorem w_temperOf (hr : Rep M t a) (hw : Wf a) (hT : TmR M t a) (hp : p < nP a) : mw (d + 2) 222 [.ref t, .int (nN p)] M Q = Q (.inl (some (if pa a p 1 = iN (-1) then .null else pRf (gP M (t + 15) (tmN a p))))) M := by
  have hp' := hw.p'
  have ht' := hw.t'
  have htm := hr.tmp p hp
  rcases hw.tmp p hp with h | ⟨k, hk, h⟩
  · have e : iN (-1) < 0 := by rw [iNm_lt0]; trivial
    simp (disch := omega) only [m_222, q_aload0, q_aload0N, q_get_r, pTag_1, pRf_s, q_iload1, q_invs2_21, q_istore2, q_iload2, q_if_lt, q_alen, q_ic_ge, q_aald, q_goto, q_null, q_nop, q_aret_r, q_aret_n, e_222_0, e_222_1, e_222_2, k_some, k_none, pRm_i, pRm_r, pRm_0, pF_1, pF_2, inv_s, hr.sh.k1, hr.np, hr.sh.q0, hr.sh.q1, hr.sh.q2, hr.sh.q3, hr.sh.q4, w_atN hr.sh.k2, w_atN hr.sh.k3, w_atN hr.sh.k4, w_atN hr.sh.k5, w_atN hr.sh.k6, hr.lim, hr.tmp, hr.near, hr.rich, hr.debt, hr.sh.k0, hr.nt, hr.ne, hr.nr, hr.nx, hr.day, hr.law, hr.sh.p0, hr.sh.p1, hr.sh.p2, hr.sh.p3, hr.sh.p4, hr.sh.p5, hr.sh.p6, hr.sh.p7, hr.sh.p8, nN_le, nN_lt, nN_eq, nN_add, nN_mul, nN_lt0, nN_ge0, nN_gt0, nN_le0, nN_eq0, nN_eq1, nN_neN, pIn_n, pIx_n, eq_self, Nat.reduceLT, Bool.false_eq_true, Nat.add_zero, Nat.zero_add, Nat.reduceAdd, Nat.reduceMul, Nat.reduceSub, Nat.zero_le, Nat.reduceLeDiff, Nat.reduceEqDiff, Nat.le_refl, not_false_eq_true, not_true_eq_false, false_implies, true_implies, forall_const, true_and, and_true, if_true, if_false, implies_true, and_self, ne_eq, false_and, and_false, or_false, false_or, true_or, or_true, htm, h, e]
  · obtain ⟨q, cs, h1, h2, h3⟩ := hT k hk
    have e2 : tmN a p = k := by unfold tmN; rw [h, nN_toInt (by omega)]; omega
    have e3 : ¬ nN k = iN (-1) := by rw [nN_neN (by omega)]; exact not_false
    have e4 : k < 6 := by omega
    have e5 : ¬ 6 ≤ k := by omega
    have e6 : iN (6 : Nat) = nN 6 := rfl
    simp (disch := omega) only [m_222, q_aload0, q_aload0N, q_get_r, pTag_1, pRf_s, q_iload1, q_invs2_21, q_istore2, q_iload2, q_if_lt, q_alen, q_ic_ge, q_aald, q_goto, q_null, q_nop, q_aret_r, q_aret_n, e_222_0, e_222_1, e_222_2, k_some, k_none, pRm_i, pRm_r, pRm_0, pF_1, pF_2, inv_s, hr.sh.k1, hr.np, hr.sh.q0, hr.sh.q1, hr.sh.q2, hr.sh.q3, hr.sh.q4, w_atN hr.sh.k2, w_atN hr.sh.k3, w_atN hr.sh.k4, w_atN hr.sh.k5, w_atN hr.sh.k6, hr.lim, hr.tmp, hr.near, hr.rich, hr.debt, hr.sh.k0, hr.nt, hr.ne, hr.nr, hr.nx, hr.day, hr.law, hr.sh.p0, hr.sh.p1, hr.sh.p2, hr.sh.p3, hr.sh.p4, hr.sh.p5, hr.sh.p6, hr.sh.p7, hr.sh.p8, nN_le, nN_lt, nN_eq, nN_add, nN_mul, nN_lt0, nN_ge0, nN_gt0, nN_le0, nN_eq0, nN_eq1, nN_neN, pIn_n, pIx_n, eq_self, Nat.reduceLT, Bool.false_eq_true, Nat.add_zero, Nat.zero_add, Nat.reduceAdd, Nat.reduceMul, Nat.reduceSub, Nat.zero_le, Nat.reduceLeDiff, Nat.reduceEqDiff, Nat.le_refl, not_false_eq_true, not_true_eq_false, false_implies, true_implies, forall_const, true_and, and_true, if_true, if_false, implies_true, and_self, ne_eq, false_and, and_false, or_false, false_or, true_or, or_true, htm, h, e2, e3, hr.sh.k15, h1, e4, e5, e6]
end TK
