/-! WHAT A TEMPER'S TEXT SAYS, by the law's model -/
section TV9
variable {d n u p q k m : Nat} {b : Nat → Nat} {fv : Nat → Int32} {M M1 M' : pMem} {Q : pOut → pMem → Prop} {x y : Int32} {tx9 : List Int32} {v1 v2 : (Nat → Int32) → Bool}
theorem TxV_of {s : List Nat × ((Nat → Int32) → Bool)} (hl : tx9.length = n) (hn : n ≤ 400) (h9 : ∀ k, b k < 256) (hc : ∀ i, i < n → tx9.getD i 0 = nN (b i)) (hp : pTemper (th tW n b) (nx9 n b) 400 (nb n b 0) = .inr s) : TxV tx9 s.2 := by
  intro d M u B fv hs h7 hB h8 h10 h17 htx hf h14 h15 h16 hb
  rw [hl] at hB h8 htx
  have g := w_readM (d := d + 26) (fv := fv) hs (Or.inr ⟨B, h7, hB, fun k hk => by rw [htx k hk, hc k hk]⟩) hn h9 h8 h10 ⟨hf, h14, h15, h16⟩ hb
  refine mw_mono g ?_
  rintro o M1 ⟨⟨rfl, h1⟩, A1⟩
  rw [hp] at h1
  obtain ⟨h2, h3, -⟩ := h1
  refine ⟨rfl, ⟨A1.1, A1.2.1, fun h k z => ?_⟩, h3 h17⟩
  by_cases c : h = u ∧ k = 10
  · obtain ⟨rfl, rfl⟩ := c
    rw [h2, h10]
  · refine A1.I ?_
    rintro ⟨z1, z2⟩
    omega
theorem gI_sR {h h' k : Nat} {r : Nat → Int32} : gI (sR M h r) h' k = if h' = h then r k else gI M h' k := by
  show upR M.1 h r h' k = _
  unfold upR
  by_cases c : h' = h
  · rw [if_pos c, if_pos c]
  · rw [if_neg c, if_neg c]; rfl
theorem TxV_uni (hs : ShM (gS M) (gP M) u) (h1 : TxV tx9 v1) (h2 : TxV tx9 v2) (hl : tx9.length ≤ 3346) (hb : Bl fv) : v1 fv = v2 fv := by
  obtain ⟨M2, hM2⟩ : ∃ M2, M2 = sI (sI (sI (sI (sI (sI (sI (sR (sR M (u + 1) (fun j => tx9.getD j 0)) (u + 5) fv) u 7 (nN 0)) u 8 (nN tx9.length)) u 10 (iN (-1))) u 17 (iN (-1))) u 14 (fv 6)) u 15 (fv 7)) u 16 (fv 8) := ⟨_, rfl⟩
  have c : ∀ (j i : Nat), gI M2 j i = if j = u then (if i = 7 then nN 0 else if i = 8 then nN tx9.length else if i = 10 then iN (-1) else if i = 17 then iN (-1) else if i = 14 then fv 6 else if i = 15 then fv 7 else if i = 16 then fv 8 else gI M u i) else if j = u + 1 then tx9.getD i 0 else if j = u + 5 then fv i else gI M j i := by
    intro j i
    rw [hM2]
    simp only [gI_sI, gI_sR]
    by_cases c : j = u
    · subst c
      have e1 : ¬ j = j + 1 := by omega
      have e5 : ¬ j = j + 5 := by omega
      simp only [true_and, if_true, e1, e5, if_false]
      by_cases d1 : i = 7
      · subst d1; simp
      by_cases d2 : i = 8
      · subst d2; simp
      by_cases d3 : i = 10
      · subst d3; simp
      by_cases d4 : i = 17
      · subst d4; simp
      by_cases d5 : i = 14
      · subst d5; simp
      by_cases d6 : i = 15
      · subst d6; simp
      by_cases d7 : i = 16
      · subst d7; simp
      simp [d1, d2, d3, d4, d5, d6, d7]
    · simp only [c, false_and, if_false]
      by_cases c1 : j = u + 1
      · subst c1; simp
      · by_cases c5 : j = u + 5
        · subst c5; simp
        · simp [c1, c5]
  have s2 : ShM (gS M2) (gP M2) u := by rw [hM2]; exact hs
  have e1 : ¬ u + 1 = u := by omega
  have e5 : ¬ u + 5 = u := by omega
  have e51 : ¬ u + 5 = u + 1 := by omega
  have go : ∀ v, TxV tx9 v → mw 60 69 [.ref u, .int (nN 1)] M2 (fun o M' => gI M' u 17 = nN 1 ↔ v fv = true) := by
    intro v hv
    refine mw_mono (hv 0 M2 u 0 fv s2 (by rw [c]; simp) (by omega) (by rw [c]; simp) (by rw [c]; simp) (by rw [c]; simp) (fun i _ => by rw [c, if_neg e1, if_pos rfl, Nat.zero_add]) (fun i _ => by rw [c, if_neg e5, if_neg e51, if_pos rfl]) (by rw [c]; simp) (by rw [c]; simp) (by rw [c]; simp) hb) ?_
    rintro o M' ⟨-, -, h⟩
    exact h
  obtain ⟨o1, M1, r1, g1⟩ := go v1 h1
  obtain ⟨o2, M3, r2, g2⟩ := go v2 h2
  obtain ⟨-, rfl⟩ := Rn_det r1 r2
  have := g1.symm.trans g2
  cases hv1 : v1 fv <;> cases hv2 : v2 fv
  · rfl
  · rw [hv1, hv2] at this; exact absurd (this.mpr rfl) (by simp)
  · rw [hv1, hv2] at this; exact absurd (this.mp rfl) (by simp)
  · rfl
end TV9
/-! A TEMPER MORE: the table -/
def sTemper (a : Nat → Int32) (n : Nat) (b : Nat → Nat) : Nat → Int32 := fun j => if j = 2 then nN (nT a + 1) else if j = 940 + 401 * nT a then nN n else if 941 + 401 * nT a ≤ j ∧ j < 941 + 401 * nT a + n then nN (b (j - (941 + 401 * nT a))) else a j
section ST
variable {d n u p q k m : Nat} {b : Nat → Nat} {a : Nat → Int32} {M M1 M' : pMem}
theorem sT_lo {j : Nat} (h : j < 940) (h2 : j ≠ 2) : sTemper a n b j = a j := by
  unfold sTemper
  rw [if_neg h2, if_neg (by omega), if_neg (by omega)]
theorem sT_2 : sTemper a n b 2 = nN (nT a + 1) := if_pos rfl
theorem nT_s (h : nT a ≤ 6) : nT (sTemper a n b) = nT a + 1 := by
  unfold nT
  rw [sT_2, nN_toInt (by unfold nT at *; omega)]
  unfold nT
  omega
theorem txt_old (hk : k < nT a) : (L : Nat) → L ≤ 400 → a (940 + 401 * k) = nN L → txt (sTemper a n b) k = txt a k := by
  intro L hL e
  have e1 : ∀ j, 940 + 401 * k ≤ j → j < 941 + 401 * k + 400 → sTemper a n b j = a j := by
    intro j h1 h2
    unfold sTemper
    rw [if_neg (by omega), if_neg (by omega), if_neg (by omega)]
  unfold txt
  rw [e1 _ (by omega) (by omega), e, nN_toInt (by omega)]
  refine List.map_congr_left fun j hj => ?_
  rw [List.mem_range] at hj
  exact e1 _ (by omega) (by omega)
theorem txt_new (hn : n ≤ 400) : txt (sTemper a n b) (nT a) = (List.range n).map fun j => nN (b j) := by
  have e1 : sTemper a n b (940 + 401 * nT a) = nN n := by
    unfold sTemper
    rw [if_neg (by omega), if_pos rfl]
  unfold txt
  rw [e1, nN_toInt (by omega)]
  refine List.map_congr_left fun j hj => ?_
  rw [List.mem_range] at hj
  unfold sTemper
  rw [if_neg (by omega), if_neg (by omega), if_pos (by omega)]
  congr 2
  omega
end ST
