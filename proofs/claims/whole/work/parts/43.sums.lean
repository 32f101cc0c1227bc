/-! SUMS AND THE TABLE'S CHANGES -/
def sS (n : Nat) (g : Nat → Int32) : Int32 := lp n 0 (nN 0) fun i s => s + g i
theorem lp_succ {α : Type} {f : Nat → α → α} : ∀ (j k : Nat) (s : α), lp (j + 1) k s f = f (k + j) (lp j k s f) := by
  intro j
  induction j with
  | zero => intro k s; rfl
  | succ j ih =>
    intro k s
    show lp (j + 1) (k + 1) (f k s) f = _
    rw [ih (k + 1) (f k s), show k + 1 + j = k + (j + 1) from by omega]
    rfl
theorem sS_succ {n : Nat} {g : Nat → Int32} : sS (n + 1) g = sS n g + g n := by
  unfold sS
  rw [lp_succ, Nat.zero_add]
theorem sS_congr {g h : Nat → Int32} : ∀ (n : Nat), (∀ i, i < n → g i = h i) → sS n g = sS n h := by
  intro n
  induction n with
  | zero => intro _; rfl
  | succ n ih => intro e; rw [sS_succ, sS_succ, ih (fun i hi => e i (by omega)), e n (by omega)]
theorem sS_upd {g h : Nat → Int32} {f : Nat} : ∀ (n : Nat), f < n → (∀ i, i < n → i ≠ f → h i = g i) → sS n h = sS n g + (h f - g f) := by
  intro n
  induction n with
  | zero => intro hf; omega
  | succ n ih =>
    intro hf e
    rw [sS_succ, sS_succ]
    by_cases c : f = n
    · subst c
      rw [sS_congr f (fun i hi => e i (by omega) (by omega))]
      grind
    · rw [ih (by omega) (fun i hi h2 => e i (by omega) h2), e n (by omega) (fun z => c z.symm)]
      grind
theorem sRich_eq {a : Nat → Int32} {q : Int32} : sRich a q = sS (nF a) (fun f => if fa a f 2 = q then sWorth (fa a f 1) (fa a f 3) else nN 0) := rfl
theorem sDebt_eq {a : Nat → Int32} {q : Int32} : sDebt a q = sS (nF a) (fun f => if fa a f 0 = q ∧ fa a f 2 ≠ iN (-1) then fa a f 1 else nN 0) := rfl
/-- one place of a favour -/
def fS (a : Nat → Int32) (f w : Nat) (v : Int32) : Nat → Int32 := fun j => if j = 140 + 20 * f + w then v else a j
theorem fS_lo {a : Nat → Int32} {f w j : Nat} {v : Int32} (h : j < 140) : fS a f w v j = a j := if_neg (by omega)
theorem fS_hi {a : Nat → Int32} {f w j : Nat} {v : Int32} (h : 940 ≤ j) (hf : f < 40) (hw : w < 20) : fS a f w v j = a j := if_neg (by omega)
theorem fS_fa {a : Nat → Int32} {f w g z : Nat} {v : Int32} (h : w < 20) (h2 : z < 20) : fa (fS a f w v) g z = if g = f ∧ z = w then v else fa a g z := by
  unfold fa fS
  by_cases c : g = f ∧ z = w
  · obtain ⟨rfl, rfl⟩ := c
    simp
  · rw [if_neg c, if_neg (by omega)]
theorem fS_same {a : Nat → Int32} {f w : Nat} {v : Int32} (h : w < 20) : fa (fS a f w v) f w = v := by rw [fS_fa h h, if_pos ⟨rfl, rfl⟩]
theorem fS_ne {a : Nat → Int32} {f w g z : Nat} {v : Int32} (h : w < 20) (h2 : z < 20) (c : g ≠ f ∨ z ≠ w) : fa (fS a f w v) g z = fa a g z := by
  rw [fS_fa h h2, if_neg]
  rintro ⟨e1, e2⟩
  rcases c with c | c
  · exact c e1
  · exact c e2
section LOW
variable {a a' : Nat → Int32}
theorem lo_nP (lo : ∀ j, j < 140 → a' j = a j) : nP a' = nP a := by unfold nP; rw [lo 1 (by omega)]
theorem lo_nT (lo : ∀ j, j < 140 → a' j = a j) : nT a' = nT a := by unfold nT; rw [lo 2 (by omega)]
theorem lo_nF (lo : ∀ j, j < 140 → a' j = a j) : nF a' = nF a := by unfold nF; rw [lo 3 (by omega)]
theorem lo_nE (lo : ∀ j, j < 140 → a' j = a j) : nE a' = nE a := by unfold nE; rw [lo 4 (by omega)]
theorem lo_nR (lo : ∀ j, j < 140 → a' j = a j) : nR a' = nR a := by unfold nR; rw [lo 5 (by omega)]
theorem lo_pa {p w : Nat} (lo : ∀ j, j < 140 → a' j = a j) (hp : p < 12) (hw : w < 3) : pa a' p w = pa a p w := lo _ (by omega)
theorem lo_ea {p w : Nat} (lo : ∀ j, j < 140 → a' j = a j) (hp : p < 12) (hw : w < 3) : ea a' p w = ea a p w := lo _ (by omega)
theorem lo_ra {p w : Nat} (lo : ∀ j, j < 140 → a' j = a j) (hp : p < 8) (hw : w < 7) : ra a' p w = ra a p w := lo _ (by omega)
/-- one favour's places alone have changed -/
theorem wf_fav {f : Nat} (hw : Wf a) (hf : f < nF a) (lo : ∀ j, j < 140 → a' j = a j) (ot : ∀ g z, g ≠ f → z < 20 → fa a' g z = fa a g z)
    (fG : ∃ g, g < nP a ∧ fa a' f 0 = nN g) (fA : ∃ n, 1 ≤ n ∧ n ≤ 99 ∧ fa a' f 1 = nN n) (fH : fa a' f 2 = iN (-1) ∨ ∃ g, g < nP a ∧ fa a' f 2 = nN g)
    (fD' : fD a' f ≤ 10 ∧ fa a' f 3 = nN (fD a' f) ∧ fa a' f 6 = nN (fD a' f + 2)) (fC : fa a' f 5 = nN 0 ∨ fa a' f 5 = nN 1) : Wf a' := by
  have hp' := hw.p'
  have hn' := hw.n'
  have hr' := hw.r'
  have eP := lo_nP lo
  have eT := lo_nT lo
  have eF := lo_nF lo
  have eE := lo_nE lo
  have eR := lo_nR lo
  have sp : ∀ {P : Nat → Prop}, (∀ g, g < nF a → g ≠ f → P g) → P f → ∀ g, g < nF a → P g := fun {P} h1 h2 g hg => by
    by_cases c : g = f
    · subst c; exact h2
    · exact h1 g hg c
  refine Wf.mk ?_ ?_ ?_ ?_ ?_ ?_ ?_ ?_ ?_ ?_ ?_ ?_ ?_ ?_ ?_ ?_ ?_ ?_ ?_ ?_ ?_ ?_
  · rw [lo 1 (by omega), eP]; exact hw.p
  · rw [eP]; exact hp'
  · rw [lo 2 (by omega), eT]; exact hw.t
  · rw [eT]; exact hw.t'
  · rw [lo 3 (by omega), eF]; exact hw.f
  · rw [eF]; exact hw.f'
  · rw [lo 4 (by omega), eE]; exact hw.n
  · rw [eE]; exact hn'
  · rw [lo 5 (by omega), eR]; exact hw.r
  · rw [eR]; exact hr'
  · rw [lo 7 (by omega)]; exact hw.law
  · rw [lo 0 (by omega)]; exact hw.texts
  · rw [eP]; intro q hq; rw [lo_pa lo (by omega) (by omega)]; exact hw.lim q hq
  · rw [eP, eT]; intro q hq; rw [lo_pa lo (by omega) (by omega)]; exact hw.tmp q hq
  · rw [eP]; intro q hq; rw [lo_pa lo (by omega) (by omega)]; exact hw.near q hq
  · rw [eF, eP]; exact sp (fun g hg c => by rw [ot g 0 c (by omega)]; exact hw.fG g hg) fG
  · rw [eF]; exact sp (fun g hg c => by rw [ot g 1 c (by omega)]; exact hw.fA g hg) fA
  · rw [eF, eP]; exact sp (fun g hg c => by rw [ot g 2 c (by omega)]; exact hw.fH g hg) fH
  · rw [eF]; exact sp (fun g hg c => by unfold fD; rw [ot g 3 c (by omega), ot g 6 c (by omega)]; exact hw.fD g hg) fD'
  · rw [eF]; exact sp (fun g hg c => by rw [ot g 5 c (by omega)]; exact hw.fC g hg) fC
  · rw [eE, eP]; intro k hk; rw [lo_ea lo (by omega) (by omega), lo_ea lo (by omega) (by omega), lo_ea lo (by omega) (by omega)]; exact hw.need k hk
  · rw [eR, eP]; intro k hk; rw [lo_ra lo (by omega) (by omega)]
    obtain ⟨n, h1, h2, h3, h4⟩ := hw.ring k hk
    exact ⟨n, h1, h2, h3, fun i hi => by rw [lo_ra lo (by omega) (by omega)]; exact h4 i hi⟩
theorem rep_fav {f t : Nat} {M M' : pMem} (r : Rep M t a) (hw : Wf a) (lo : ∀ j, j < 140 → a' j = a j) (ot : ∀ g z, g ≠ f → z < 20 → fa a' g z = fa a g z)
    (hS : gS M' = gS M) (hP : gP M' = gP M) (sm : ∀ i k, i < 22 → i ≠ 5 → i ≠ 6 → i ≠ 9 → i ≠ 11 → i ≠ 14 → i ≠ 16 → gI M' (t + i) k = gI M (t + i) k)
    (k0 : fa a' f 0 = fa a f 0) (k1 : fa a' f 1 = fa a f 1) (k4 : fa a' f 4 = fa a f 4) (k5 : fa a' f 5 = fa a f 5)
    (h9 : ∀ g, g < nF a → gI M' (t + 9) g = fa a' g 2) (h11 : ∀ g, g < nF a → gI M' (t + 11) g = fa a' g 3)
    (h14 : ∀ g k, g < nF a → k < fD a' g + 2 → gI M' (t + 14) (12 * g + k) = fa a' g (7 + k))
    (h5 : ∀ q, q < nP a → gI M' (t + 5) q = sRich a' (nN q)) (h6 : ∀ q, q < nP a → gI M' (t + 6) q = sDebt a' (nN q)) : Rep M' t a' := by
  have hp' := hw.p'
  have hn' := hw.n'
  have hr' := hw.r'
  have eP := lo_nP lo
  have eT := lo_nT lo
  have eF := lo_nF lo
  have eE := lo_nE lo
  have eR := lo_nR lo
  have ke : ∀ g z, z = 0 ∨ z = 1 ∨ z = 4 ∨ z = 5 → fa a' g z = fa a g z := fun g z hz => by
    by_cases c : g = f
    · subst c; rcases hz with rfl | rfl | rfl | rfl
      · exact k0
      · exact k1
      · exact k4
      · exact k5
    · exact ot g z c (by omega)
  have s0 : ∀ k, gI M' t k = gI M t k := fun k => sm 0 k (by omega) (by omega) (by omega) (by omega) (by omega) (by omega) (by omega)
  refine Rep.mk ?_ ?_ ?_ ?_ ?_ ?_ ?_ ?_ ?_ ?_ ?_ ?_ ?_ ?_ ?_ ?_ ?_ ?_ ?_ ?_ ?_ ?_ ?_ ?_ ?_ ?_
  · rw [hS, hP]; exact r.sh
  · rw [sm 1 _ (by omega) (by omega) (by omega) (by omega) (by omega) (by omega) (by omega), lo 1 (by omega)]; exact r.np
  · rw [sm 7 _ (by omega) (by omega) (by omega) (by omega) (by omega) (by omega) (by omega), lo 3 (by omega)]; exact r.nf
  · rw [s0, lo 2 (by omega)]; exact r.nt
  · rw [s0, lo 4 (by omega)]; exact r.ne
  · rw [s0, lo 5 (by omega)]; exact r.nr
  · rw [s0, lo 0 (by omega)]; exact r.nx
  · rw [s0, lo 6 (by omega)]; exact r.day
  · rw [s0, lo 7 (by omega)]; exact r.law
  · rw [eP]; intro q hq; rw [sm 2 _ (by omega) (by omega) (by omega) (by omega) (by omega) (by omega) (by omega), lo_pa lo (by omega) (by omega)]; exact r.lim q hq
  · rw [eP]; intro q hq; rw [sm 3 _ (by omega) (by omega) (by omega) (by omega) (by omega) (by omega) (by omega), lo_pa lo (by omega) (by omega)]; exact r.tmp q hq
  · rw [eP]; intro q hq; rw [sm 4 _ (by omega) (by omega) (by omega) (by omega) (by omega) (by omega) (by omega), lo_pa lo (by omega) (by omega)]; exact r.near q hq
  · rw [eP]; exact h5
  · rw [eP]; exact h6
  · rw [eF]; intro q hq; rw [sm 8 _ (by omega) (by omega) (by omega) (by omega) (by omega) (by omega) (by omega), ke q 0 (by simp)]; exact r.g q hq
  · rw [eF]; exact h9
  · rw [eF]; intro q hq; rw [sm 10 _ (by omega) (by omega) (by omega) (by omega) (by omega) (by omega) (by omega), ke q 1 (by simp)]; exact r.am q hq
  · rw [eF]; exact h11
  · rw [eF]; intro q hq; rw [sm 12 _ (by omega) (by omega) (by omega) (by omega) (by omega) (by omega) (by omega), ke q 4 (by simp)]; exact r.en q hq
  · rw [eF]; intro q hq; rw [sm 13 _ (by omega) (by omega) (by omega) (by omega) (by omega) (by omega) (by omega), ke q 5 (by simp)]; exact r.fc q hq
  · rw [eF]; exact h14
  · rw [eE]; intro q hq; rw [sm 17 _ (by omega) (by omega) (by omega) (by omega) (by omega) (by omega) (by omega), lo_ea lo (by omega) (by omega)]; exact r.nb q hq
  · rw [eE]; intro q hq; rw [sm 18 _ (by omega) (by omega) (by omega) (by omega) (by omega) (by omega) (by omega), lo_ea lo (by omega) (by omega)]; exact r.no q hq
  · rw [eE]; intro q hq; rw [sm 19 _ (by omega) (by omega) (by omega) (by omega) (by omega) (by omega) (by omega), lo_ea lo (by omega) (by omega)]; exact r.nw q hq
  · rw [eR]; intro q hq; rw [sm 20 _ (by omega) (by omega) (by omega) (by omega) (by omega) (by omega) (by omega), lo_ra lo (by omega) (by omega)]; exact r.rs q hq
  · rw [eR]; intro q k hq h1 h2; rw [sm 21 _ (by omega) (by omega) (by omega) (by omega) (by omega) (by omega) (by omega), lo_ra lo (by omega) (by omega)]; rw [lo_ra lo (by omega) (by omega)] at h1; exact r.rr q k hq h1 h2
end LOW
