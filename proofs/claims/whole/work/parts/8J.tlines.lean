/-! LINES OF THE TOWN: what they are, without a machine -/
def uW : List (List Nat) := [[112, 101, 114, 115, 111, 110], [110, 101, 97, 114], [108, 97, 119], [103, 105, 118, 101], [112, 97, 115, 115], [99, 97, 108, 108], [100, 97, 121, 115], [110, 101, 101, 100], [116, 111], [111, 102], [102, 111, 114], [102, 111, 114, 99, 101, 100]]
def uS : List Nat := [900036, 900025, 900037, 900038, 900042, 900043, 900044, 900045, 900039, 900046, 900040, 900041]
theorem uS_ok : ∀ i, i < 12 → StO (uS.getD i 0) (uW.getD i []) := by
  unfold StO
  decide +kernel
theorem uW_1 : ∀ i, i < 12 → 1 ≤ (uW.getD i []).length ∧ 900001 ≤ uS.getD i 0 ∧ uS.getD i 0 < 900047 := by decide +kernel
theorem uW_2 : uW.Nodup := by decide +kernel
theorem uW_3 : uW.length = 12 := rfl
theorem WdO_u : WdO 900001 uW := by
  refine ⟨(joinW uW).take 57, ?_, ?_, ?_, ?_⟩
  · unfold StO
    decide +kernel
  · decide +kernel
  · decide +kernel
  · decide
/-- a town's changes -/
def sPer (a : Nat → Int32) (v : Nat) : Nat → Int32 := fun j => if j = 10 + 3 * nP a then nN v else if j = 11 + 3 * nP a then iN (-1) else if j = 12 + 3 * nP a then nN 0 else if j = 1 then nN (nP a + 1) else a j
def nrV (a : Nat → Int32) (x y : Nat) : Int32 := pa a x 2 ||| nN 1 <<< (nN y &&& 31)
def sNea (a : Nat → Int32) (x y : Nat) : Nat → Int32 := aU (aU a (10 + 3 * x + 2) (nrV a x y)) (10 + 3 * y + 2) (nrV a y x)
def sNee (a : Nat → Int32) (x y n : Nat) : Nat → Int32 := fun j => if j = 46 + 3 * nE a then nN x else if j = 47 + 3 * nE a then nN y else if j = 48 + 3 * nE a then nN n else if j = 4 then nN (nE a + 1) else a j
noncomputable def sGv (a : Nat → Int32) (x y n dd : Nat) (fc : Bool) : Nat → Int32 := if sCanGive a x y n dd fc = true then gTail a x y n dd fc else a
noncomputable def sPs (a : Nat → Int32) (f y : Nat) : Nat → Int32 := if fa a f 2 = nN y then a else if sCanP a f y = true then sPassA a f y else a
/-- a number, another one's number, a word -/
def pnm {α : Type} (T N : Nat → Nat) (lo c q : Nat) (f : Nat → Nat → Nat ⊕ α) : Nat ⊕ α := if lo ≤ T q ∧ T q < c then f (T q) (N q) else .inl q
def psec {α : Type} (T N : Nat → Nat) (c w q : Nat) (f : Nat → Nat → Nat ⊕ α) : Nat ⊕ α := if T q = w then .inl q else pnm T N 0 c q f
def pwd {α : Type} (T N : Nat → Nat) (w q : Nat) (f : Nat → Nat ⊕ α) : Nat ⊕ α := if T q = w then f (N q) else .inl q
abbrev pAg : Type := Nat ⊕ (Nat × List Nat)
/-- the parts of a line behind its verb v -/
def pFc (T N : Nat → Nat) (x y n dd q : Nat) : pAg := if T q = 1011 then .inr (N q, [x, y, n, dd, 1]) else .inr (q, [x, y, n, dd, 0])
def pAr (T N : Nat → Nat) (c cf v q : Nat) : pAg :=
  if v = 1000 then pnm T N 0 1000 q fun x q => .inr (q, [x])
  else if v = 1001 then pnm T N 0 c q fun x q => psec T N c x q fun y q => .inr (q, [x, y])
  else if v = 1002 then pnm T N 0 11 q fun x q => .inr (q, [x])
  else if v = 1003 then pnm T N 0 c q fun x q => pwd T N 1008 q fun q => psec T N c x q fun y q => pnm T N 1 100 q fun n q => if T q = 1010 then pnm T N 1 100 (N q) fun dd q => pFc T N x y n dd q else pFc T N x y n 0 q
  else if v = 1004 then pnm T N 0 cf q fun x q => pwd T N 1008 q fun q => pnm T N 0 c q fun y q => .inr (q, [x, y])
  else if v = 1005 then pnm T N 0 cf q fun x q => .inr (q, [x])
  else if v = 1006 then pnm T N 1 100 q fun x q => .inr (q, [x])
  else pnm T N 0 c q fun x q => pwd T N 1009 q fun q => psec T N c x q fun y q => pnm T N 1 100 q fun n q => .inr (q, [x, y, n])
noncomputable def sEx (a : Nat → Int32) (v : Nat) (l : List Nat) : Nat → Int32 :=
  if v = 1000 then sPer a (l.getD 0 0)
  else if v = 1001 then sNea a (l.getD 0 0) (l.getD 1 0)
  else if v = 1002 then aU a 7 (nN (l.getD 0 0))
  else if v = 1003 then sGv a (l.getD 0 0) (l.getD 1 0) (l.getD 2 0) (l.getD 3 0) (decide (l.getD 4 0 = 1))
  else if v = 1004 then sPs a (l.getD 0 0) (l.getD 1 0)
  else if v = 1005 then sGone a (l.getD 0 0)
  else if v = 1006 then (sDays a (nN (l.getD 0 0))).1
  else sNee a (l.getD 0 0) (l.getD 1 0) (l.getD 2 0)
abbrev pLn : Type := Nat ⊕ (Nat × (Nat → Int32))
noncomputable def pTL (T N : Nat → Nat) (a : Nat → Int32) (p : Nat) : pLn :=
  if (T p = 1000 ∧ nP a = 12) ∨ (T p = 1007 ∧ nE a = 12) ∨ T p < 1000 ∨ 1007 < T p then .inl p else match pAr T N (nP a) (nF a) (T p) (N p) with
    | .inl e => .inl e
    | .inr s => .inr (s.1, sEx a (T p) s.2)
noncomputable def pTT (T N : Nat → Nat) : Nat → Nat → (Nat → Int32) → Nat ⊕ (Nat → Int32)
  | 0, p, _ => .inl p
  | j + 1, p, a => match pTL T N a p with
    | .inl e => .inl e
    | .inr s => if T s.1 = 3000 then .inr s.2 else if T s.1 = 2059 then pTT T N j (N s.1) s.2 else .inl s.1
noncomputable def pTown (T N : Nat → Nat) (p : Nat) (a : Nat → Int32) : Nat ⊕ (Nat → Int32) := if T p = 3000 then .inr a else pTT T N 14 p a
/-- who is near has a bit below the people's number -/
def NrO (a : Nat → Int32) : Prop := ∀ q, q < nP a → ∃ v, v < 2 ^ nP a ∧ pa a q 2 = nN v
def Wt (a : Nat → Int32) (K : Nat) : Prop := Wf a ∧ NeO a ∧ NrO a ∧ TxO a ∧ ∃ D, D ≤ K ∧ a 6 = nN D
def Gk (a a' : Nat → Int32) : Prop := (∀ j, 940 ≤ j → a' j = a j) ∧ a' 2 = a 2 ∧ a' 0 = a 0 ∧ ∀ j, 82 ≤ j → j < 140 → a' j = a j
section TLS
variable {n p q f x y v k K dd : Nat} {b : Nat → Nat} {a a' : Nat → Int32} {fc : Bool}
theorem Gk.rfl : Gk a a := ⟨fun _ _ => Eq.refl _, Eq.refl _, Eq.refl _, fun _ _ _ => Eq.refl _⟩
theorem Gk.trans {a1 : Nat → Int32} (A : Gk a a1) (B : Gk a1 a') : Gk a a' := ⟨fun j h => (B.1 j h).trans (A.1 j h), B.2.1.trans A.2.1, B.2.2.1.trans A.2.2.1, fun j h g => (B.2.2.2 j h g).trans (A.2.2.2 j h g)⟩
theorem tx_keep (h : TxO a) (e2 : a' 2 = a 2) (hi : ∀ j, 940 ≤ j → a' j = a j) : TxO a' := by
  intro k hk
  have e : nT a' = nT a := by unfold nT; rw [e2]
  rw [e] at hk
  rw [hi _ (by omega), txt_hi hi]
  exact h k hk
theorem wt_keep (hw : Wt a K) (hw' : Wf a') (e1 : a' 1 = a 1) (e2 : a' 2 = a 2) (ep : ∀ j, 10 ≤ j → j < 46 → a' j = a j) (hi : ∀ j, 940 ≤ j → a' j = a j) {K' : Nat} (hd : ∃ D, D ≤ K' ∧ a' 6 = nN D) : Wt a' K' := by
  obtain ⟨h1, h2, h3, h4, h5⟩ := hw
  have hp' := h1.p'
  have eP : nP a' = nP a := by unfold nP; rw [e1]
  have epa : ∀ q w, q < nP a → w < 3 → pa a' q w = pa a q w := fun q w g1 g2 => ep _ (by omega) (by omega)
  refine ⟨hw', ?_, ?_, tx_keep h4 e2 hi, hd⟩
  · intro p g hp hg
    rw [eP] at hp hg
    rw [epa _ _ hp (by omega), epa _ _ hg (by omega)]
    exact h2 p g hp hg
  · intro q hq
    rw [eP] at hq ⊢
    rw [epa _ _ hq (by omega)]
    exact h3 q hq
theorem Wt.mono {K' : Nat} (h : Wt a K) (hk : K ≤ K') : Wt a K' := by
  obtain ⟨h1, h2, h3, h4, D, h5, h6⟩ := h
  exact ⟨h1, h2, h3, h4, D, by omega, h6⟩
theorem Wt.dy (h : Wt a K) (hk : K < 2000000) : DyO a := by
  obtain ⟨-, -, -, -, D, h5, h6⟩ := h
  exact ⟨D, by omega, h6⟩
theorem wt_gone (hw : Wt a K) (hf : f < nF a) : Wt (sGone a f) K ∧ Gk a (sGone a f) := by
  have hf' := hw.1.f'
  have hi : ∀ j, 940 ≤ j → sGone a f j = a j := fun j hj => sGone_hi hj (by omega)
  refine ⟨wt_keep hw (sGone_wf hw.1 hf) (sGone_lo (by omega)) (sGone_lo (by omega)) (fun j _ h => sGone_lo (by omega)) hi ?_, hi, sGone_lo (by omega), sGone_lo (by omega), fun j _ h => sGone_lo h⟩
  obtain ⟨D, h5, h6⟩ := hw.2.2.2.2
  exact ⟨D, h5, by rw [sGone_lo (by omega)]; exact h6⟩
theorem wt_ps (hw : Wt a K) (hf : f < nF a) (hy : y < nP a) : Wt (sPs a f y) K ∧ Gk a (sPs a f y) := by
  have hf' := hw.1.f'
  unfold sPs
  split
  · exact ⟨hw, Gk.rfl⟩
  · split
    · rename_i h1 h2
      have hm : sMay a f = true := by
        simp only [sCanP, Bool.and_eq_true] at h2
        exact h2.1
      obtain ⟨hk, -⟩ := sMay_k hw.1 hf hm
      have w1 := sCome_wf hw.1 hf hy hk
      have hi : ∀ j, 940 ≤ j → sPassA a f y j = a j := fun j hj => sPassA_hi hj (by omega) (by omega)
      have w2 : Wf (sPassA a f y) := by
        unfold sPassA
        split
        · refine sGone_wf w1 ?_
          rw [lo_nF (fun j hj => sCome_lo hj)]; exact hf
        · exact w1
      refine ⟨wt_keep hw w2 (sPassA_lo (by omega)) (sPassA_lo (by omega)) (fun j _ h => sPassA_lo (by omega)) hi ?_, hi, sPassA_lo (by omega), sPassA_lo (by omega), fun j _ h => sPassA_lo h⟩
      obtain ⟨D, h5, h6⟩ := hw.2.2.2.2
      exact ⟨D, h5, by rw [sPassA_lo (by omega)]; exact h6⟩
    · exact ⟨hw, Gk.rfl⟩
theorem wt_gv (hw : Wt a K) (hx : x < nP a) (hy : y < nP a) (hn : 1 ≤ n) (hn2 : n ≤ 99) : Wt (sGv a x y n dd fc) K ∧ Gk a (sGv a x y n dd fc) := by
  unfold sGv
  split
  · rename_i c
    have hlt := sCan_lt c
    have hi : ∀ j, 940 ≤ j → gTail a x y n dd fc j = a j := fun j hj => sGive_hi hj hlt
    have lo : ∀ j, j < 140 → j ≠ 3 → gTail a x y n dd fc j = a j := fun j h1 h2 => sGive_lo h1 h2
    refine ⟨wt_keep hw (sGive_wf hw.1 hlt hx hy hn hn2 (by cases fc <;> simp [bI])) (lo _ (by omega) (by omega)) (lo _ (by omega) (by omega)) (fun j _ h => lo _ (by omega) (by omega)) hi ?_, hi, lo _ (by omega) (by omega), lo _ (by omega) (by omega), fun j _ h => lo _ h (by omega)⟩
    obtain ⟨D, h5, h6⟩ := hw.2.2.2.2
    exact ⟨D, h5, (lo 6 (by omega) (by omega)).trans h6⟩
  · exact ⟨hw, Gk.rfl⟩
theorem wt_days (hw : Wt a K) (hv : v ≤ 99) (hK : K < 2000000) : Wt (sDays a (nN v)).1 (K + 99) ∧ Gk a (sDays a (nN v)).1 := by
  obtain ⟨w1, G⟩ := sDays_ok (n := nN v) hw.1
  have lo : ∀ j, j < 140 → j ≠ 6 → (sDays a (nN v)).1 j = a j := fun j h1 h2 => by rw [G.1 j h1]; exact if_neg h2
  have hi : ∀ j, 940 ≤ j → (sDays a (nN v)).1 j = a j := fun j h1 => by rw [G.2 j h1]; exact if_neg (by omega)
  refine ⟨wt_keep hw w1 (lo _ (by omega) (by omega)) (lo _ (by omega) (by omega)) (fun j _ h => lo _ (by omega) (by omega)) hi ?_, hi, lo _ (by omega) (by omega), lo _ (by omega) (by omega), fun j _ h => lo _ h (by omega)⟩
  obtain ⟨D, h5, h6⟩ := hw.2.2.2.2
  refine ⟨D + v, by omega, ?_⟩
  rw [G.1 6 (by omega)]
  show (if 6 = 6 then a 6 + nN v else a 6) = _
  rw [if_pos rfl, h6, nN_add]
theorem wt_law (hw : Wt a K) (hv : v ≤ 10) : Wt (aU a 7 (nN v)) K ∧ Gk a (aU a 7 (nN v)) := by
  have lo : ∀ j, j ≠ 7 → aU a 7 (nN v) j = a j := fun j h => aU_ne h
  have eP : nP (aU a 7 (nN v)) = nP a := by unfold nP; rw [lo 1 (by omega)]
  have eT : nT (aU a 7 (nN v)) = nT a := by unfold nT; rw [lo 2 (by omega)]
  have eE : nE (aU a 7 (nN v)) = nE a := by unfold nE; rw [lo 4 (by omega)]
  have eR : nR (aU a 7 (nN v)) = nR a := by unfold nR; rw [lo 5 (by omega)]
  have ep : ∀ q w, pa (aU a 7 (nN v)) q w = pa a q w := fun q w => lo _ (by omega)
  have ee : ∀ q w, ea (aU a 7 (nN v)) q w = ea a q w := fun q w => lo _ (by omega)
  have er : ∀ q w, ra (aU a 7 (nN v)) q w = ra a q w := fun q w => lo _ (by omega)
  have w1 : Wf (aU a 7 (nN v)) := by
    have hw := hw.1
    refine wf_lo hw (fun j hj => lo j (by omega)) (lo 3 (by omega)) (by omega) (by rw [lo 1 (by omega), eP]; exact hw.p) (by rw [eP]; exact hw.p') (by rw [lo 2 (by omega), eT]; exact hw.t) (by rw [eT]; exact hw.t') (by rw [lo 4 (by omega), eE]; exact hw.n) (by rw [eE]; exact hw.n') (by rw [lo 5 (by omega), eR]; exact hw.r) (by rw [eR]; exact hw.r') ⟨v, hv, aU_eq⟩ (by rw [lo 0 (by omega)]; exact hw.texts) ?_ ?_ ?_ ?_ ?_
    · rw [eP]; simp only [ep]; exact hw.lim
    · rw [eP, eT]; simp only [ep]; exact hw.tmp
    · rw [eP]; simp only [ep]; exact hw.near
    · rw [eE, eP]; simp only [ee]; exact hw.need
    · rw [eR, eP]; simp only [er]; exact hw.ring
  refine ⟨wt_keep hw w1 (lo _ (by omega)) (lo _ (by omega)) (fun j h _ => lo _ (by omega)) (fun j h => lo _ (by omega)) ?_, fun j h => lo _ (by omega), lo _ (by omega), lo _ (by omega), fun j h _ => lo _ (by omega)⟩
  obtain ⟨D, h5, h6⟩ := hw.2.2.2.2
  exact ⟨D, h5, by rw [lo _ (by omega)]; exact h6⟩
theorem sNee_ea {k w : Nat} (hw : w < 3) : ea (sNee a x y n) k w = if k = nE a then (if w = 0 then nN x else if w = 1 then nN y else nN n) else ea a k w := by
  unfold ea sNee
  by_cases c : k = nE a
  · rw [if_pos c]
    have : w = 0 ∨ w = 1 ∨ w = 2 := by omega
    rcases this with rfl | rfl | rfl
    · rw [if_pos (by omega)]; rfl
    · rw [if_neg (by omega), if_pos (by omega)]; rfl
    · rw [if_neg (by omega), if_neg (by omega), if_pos (by omega)]; rfl
  · rw [if_neg c, if_neg (by omega), if_neg (by omega), if_neg (by omega), if_neg (by omega)]
theorem sNee_lo {j : Nat} (h : j < 46 ∨ 82 ≤ j) (h4 : j ≠ 4) (hE : nE a < 12) : sNee a x y n j = a j := by
  unfold sNee
  rw [if_neg (by omega), if_neg (by omega), if_neg (by omega), if_neg (by omega)]
theorem sNee_nE (h : nE a < 12) : nE (sNee a x y n) = nE a + 1 := by
  unfold nE at *
  unfold sNee
  rw [if_neg (by omega), if_neg (by omega), if_neg (by omega), if_pos rfl]
  unfold nE
  rw [nN_toInt (by omega)]
  omega
theorem wt_nee (hw : Wt a K) (hE : nE a < 12) (hx : x < nP a) (hy : y < nP a) (hxy : x ≠ y) (hn : 1 ≤ n) (hn2 : n ≤ 99) : Wt (sNee a x y n) K ∧ Gk a (sNee a x y n) := by
  have lo : ∀ j, (j < 46 ∨ 82 ≤ j) → j ≠ 4 → sNee a x y n j = a j := fun j h h4 => sNee_lo h h4 hE
  have eP : nP (sNee a x y n) = nP a := by unfold nP; rw [lo 1 (by omega) (by omega)]
  have eT : nT (sNee a x y n) = nT a := by unfold nT; rw [lo 2 (by omega) (by omega)]
  have eE := sNee_nE (x := x) (y := y) (n := n) hE
  have eR : nR (sNee a x y n) = nR a := by unfold nR; rw [lo 5 (by omega) (by omega)]
  have hp' := hw.1.p'
  have e4 : sNee a x y n 4 = nN (nE a + 1) := by
    unfold sNee
    rw [if_neg (by omega), if_neg (by omega), if_neg (by omega), if_pos rfl]
  have ep : ∀ q w, q < nP a → w < 3 → pa (sNee a x y n) q w = pa a q w := fun q w h1 h2 => lo _ (by omega) (by omega)
  have er : ∀ q w, ra (sNee a x y n) q w = ra a q w := fun q w => lo _ (by omega) (by omega)
  have w1 : Wf (sNee a x y n) := by
    have hw := hw.1
    refine wf_lo hw (fun j hj => lo j (by omega) (by omega)) (lo 3 (by omega) (by omega)) (by omega) (by rw [lo 1 (by omega) (by omega), eP]; exact hw.p) (by rw [eP]; exact hw.p') (by rw [lo 2 (by omega) (by omega), eT]; exact hw.t) (by rw [eT]; exact hw.t') (by rw [e4, eE]) (by omega) (by rw [lo 5 (by omega) (by omega), eR]; exact hw.r) (by rw [eR]; exact hw.r') (by rw [lo 7 (by omega) (by omega)]; exact hw.law) (by rw [lo 0 (by omega) (by omega)]; exact hw.texts) ?_ ?_ ?_ ?_ ?_
    · rw [eP]; intro q hq; rw [ep q 0 hq (by omega)]; exact hw.lim q hq
    · rw [eP, eT]; intro q hq; rw [ep q 1 hq (by omega)]; exact hw.tmp q hq
    · rw [eP]; intro q hq; rw [ep q 2 hq (by omega)]; exact hw.near q hq
    · rw [eE, eP]; intro k hk
      rw [sNee_ea (by omega), sNee_ea (by omega), sNee_ea (by omega)]
      by_cases c : k = nE a
      · rw [if_pos c, if_pos c, if_pos c]
        exact ⟨x, y, n, hx, hy, hxy, hn, hn2, rfl, rfl, rfl⟩
      · rw [if_neg c, if_neg c, if_neg c]
        exact hw.need k (by omega)
    · rw [eR, eP]; simp only [er]; exact hw.ring
  refine ⟨wt_keep hw w1 (lo _ (by omega) (by omega)) (lo _ (by omega) (by omega)) (fun j h _ => lo _ (by omega) (by omega)) (fun j h => lo _ (by omega) (by omega)) ?_, fun j h => lo _ (by omega) (by omega), lo _ (by omega) (by omega), lo _ (by omega) (by omega), fun j h _ => lo _ (by omega) (by omega)⟩
  obtain ⟨D, h5, h6⟩ := hw.2.2.2.2
  exact ⟨D, h5, by rw [lo _ (by omega) (by omega)]; exact h6⟩
end TLS
