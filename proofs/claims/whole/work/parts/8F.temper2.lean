/-! THE CLASS'S temper(): the call -/
theorem WdO_t : WdO 900002 tW := by
  refine ⟨(joinW tW).take 76, ?_, ?_, ?_, ?_⟩
  · unfold StO
    decide +kernel
  · decide +kernel
  · decide +kernel
  · decide
def W4 (n : Nat) (b : Nat → Nat) : Prop := ∀ p, p < n → th tW n b p = 1009 ∨ th tW n b p = 1010 → p + 4 ≤ te n b p
section TQ
variable {d t n u q m c s p src R cr : Nat} {a a' ak : Nat → Int32} {img : Bool} {b b' : Nat → Nat} {fl fl' : Int32} {M M1 M2 M3 M' : pMem} {Q : pOut → pMem → Prop} {h k : Nat} {cs : List Nat}
theorem W4_t : W4 n b := by
  intro p hp h
  have hW : tW.length < 100 := by decide
  rcases th_kinds (b := b) hW hp with ⟨h1, h2⟩ | ⟨h1, h2⟩ | ⟨h1, h2, h3, h4⟩
  · omega
  · omega
  · have e : th tW n b p = wixF (tx n b p) tW 1000 := by
      unfold th
      rw [if_neg (by omega), if_neg h1, if_neg h2]
    have hl := tx_len (b := b) hp
    have g9 := te_spec (b := b) hp
    rw [e] at h
    rcases h with h | h
    · rw [(wixF_iff tW 1000 9 tW_2 (by decide) (by decide)).mp h] at hl
      have e : (tW.getD 9 []).length = 4 := rfl
      omega
    · rw [(wixF_iff tW 1000 10 tW_2 (by decide) (by decide)).mp h] at hl
      have e : (tW.getD 10 []).length = 6 := rfl
      omega
theorem Gd_line4 (hq : q ≤ n) (hq2 : q = n ∨ (q < n ∧ isB b q = true)) : match pLine (th tW n b) (nx9 n b) 400 q with | .inl _ => True | .inr s => s.2.1.length + q + 1 ≤ s.1 := by
  have G := Gd_line hq hq2 (W2_t (n := n) (b := b))
  unfold pLine at G ⊢
  by_cases c : th tW n b q = 1009 ∨ th tW n b q = 1010
  · rw [if_pos c] at G ⊢
    have hp : q < n := by
      rcases hq2 with z | z
      · rw [z, th_n] at c; omega
      · exact z.1
    have hx := At_nx (b := b) hp
    have hw4 := W4_t q hp c
    have hnb := (nb_spec (n := n) (b := b) (k := te n b q) (te_spec (b := b) hp).2.1).1
    have hnx : q + 4 ≤ nx9 n b q := by unfold nx9; omega
    by_cases c2 : th tW n b (nx9 n b q) = 1011
    · rw [if_pos c2]
      have hp1 : nx9 n b q < n := by
        rcases hx.2.2 with z | z
        · rw [z, th_n] at c2; omega
        · exact z.1
      have hx1 := At_nx (b := b) hp1
      have G2 := Gd_so (F := 400) (W := tW) (k := 3 + 2 * 6) (atm := pAtom (th tW n b) (nx9 n b) 400 6) (fun q h1 h2 => Gd_atom 6 q h1 h2) hx1.2.1 hx1.2.2
      cases hs : pSo (th tW n b) (nx9 n b) 400 (pAtom (th tW n b) (nx9 n b) 400 6) (nx9 n b (nx9 n b q)) with
      | inl e => trivial
      | inr s =>
        rw [hs] at G2
        obtain ⟨a1, ⟨a2, a3⟩, a4⟩ := G2
        show (s.2.1 ++ [th tW n b q]).length + q + 1 ≤ s.1
        rw [List.length_append, List.length_singleton]; omega
    · rw [if_neg c2]
      show 2 + q + 1 ≤ nx9 n b q
      omega
  · rw [if_neg c]; trivial
theorem len_txt : ∀ (j q : Nat), q ≤ n → (q = n ∨ (q < n ∧ isB b q = true)) → ∀ s, pTxt (th tW n b) (nx9 n b) 400 j q = .inr s → s.1.length + q + 1 ≤ n := by
  intro j
  induction j with
  | zero => intro q _ _ s h; cases h
  | succ j ih =>
    intro q hq hq2 s h
    have G := Gd_line hq hq2 (W2_t (n := n) (b := b))
    have G4 := Gd_line4 hq hq2 (n := n) (b := b)
    unfold pTxt at h
    cases hl : pLine (th tW n b) (nx9 n b) 400 q with
    | inl e => rw [hl] at h; cases h
    | inr s1 =>
      rw [hl] at h G G4
      obtain ⟨a1, ⟨a2, a3⟩, a4⟩ := G
      dsimp only at h G4
      split at h
      · cases h
        show s1.2.1.length + q + 1 ≤ n
        omega
      · split at h
        · rename_i hne h2059
          obtain ⟨g1, g2, g3, g4⟩ := Gd_nx (W := tW) a1 (by rw [h2059]; omega)
          cases ht : pTxt (th tW n b) (nx9 n b) 400 j (nx9 n b s1.1) with
          | inl e => rw [ht] at h; cases h
          | inr s2 =>
            rw [ht] at h
            cases h
            have b1 := ih _ g3 g4 s2 ht
            show (s1.2.1 ++ s2.1).length + q + 1 ≤ n
            rw [List.length_append]; omega
        · cases h
/-- what a right text's code is -/
theorem temper_ok (hn : n ≤ 400) {s : List Nat × ((Nat → Int32) → Bool)} (h : pTemper (th tW n b) (nx9 n b) 400 (nb n b 0) = .inr s) : s.1.length < 400 ∧ (∀ x ∈ s.1, x < 4000) ∧ ∀ fv, runC fv s.1 [] = s.2 fv := by
  unfold pTemper at h
  by_cases c : th tW n b (nb n b 0) = 3000
  · rw [if_pos c] at h
    cases h
    exact ⟨by show 0 < 400; omega, by simp, fun fv => rfl⟩
  · rw [if_neg c] at h
    obtain ⟨h1, h2, h3, h4⟩ := nb_spec (n := n) (b := b) (k := 0) (by omega)
    have h5 : nb n b 0 = n ∨ (nb n b 0 < n ∧ isB b (nb n b 0) = true) := by
      by_cases c : nb n b 0 = n
      · exact Or.inl c
      · exact Or.inr ⟨by omega, h3 (by omega)⟩
    obtain ⟨g1, g2, g3⟩ := run_txt (W2_t (n := n) (b := b)) 12 _ h2 h5 s h
    have g4 := len_txt 12 _ h2 h5 s h
    exact ⟨by omega, g2, g3⟩
/-- the class's state, its readers' scratch apart -/
theorem CI.lox (c : CI M a ak img n b fl) (A : Ag LoX M M') (tn : gI M' 1 1 = nN m) (hm : m ≤ n) (fo : gI M' 0 10 = fl') : CI M' a ak img m b fl' := by
  have hx : ∀ h k, LoX h k → XA (gS M) (gP M) h k := fun h k z => Or.inl (by unfold LoX at z; omega)
  have nx : ∀ h k, (3 ≤ h ∧ h ≤ 69 ∧ k < 5) ∨ h = 2 ∨ (3 ≤ h ∧ h < 69) ∨ (h = 72 ∧ k < 5) ∨ (h = 0 ∧ k = 9) → ¬ LoX h k := fun h k z z2 => by unfold LoX at z2; omega
  have r3 := c.rep.ag A (fun h k h1 h2 h3 h4 => nx h k (by omega) h4)
  have t3 := c.tm.agA (A.mono hx)
  refine CI.mk (by rw [A.S, A.P]; exact c.sh) r3 t3 (fun z => (c.kr z).ag A (fun h k h1 h2 h3 h4 => nx h k (by omega) h4)) (fun z => (c.kt z).agA (A.mono hx)) ?_ ?_ ?_ ?_ tn ?_ ?_ fo
  · intro k hk q hq; rw [A.P] at hq; rw [A.S]; exact c.qo k hk q hq
  · intro k hk q hq; rw [A.P] at hq; rw [A.S]; exact c.qk k hk q hq
  · rw [A.I (nx _ _ (by omega))]; exact c.l69
  · rw [A.I (nx _ _ (by omega))]; exact c.l72
  · intro k hk; rw [A.I (nx _ _ (by omega))]; exact c.tb k (by omega)
  · rw [A.I (nx _ _ (by omega))]; exact c.im
theorem sTemper_tm (hw : Wf a) (hT : TmR M t a) (htx : TxO a) (h6 : nT a < 6) (hn : n ≤ 400) (hb : ∀ k, b k < 256) {s : List Nat × ((Nat → Int32) → Bool)} (hp : pTemper (th tW n b) (nx9 n b) 400 (nb n b 0) = .inr s) (hs : ShM (gS M) (gP M) u) (hq : TmO M q s.1) (ht : t + 15 ≤ 100) : TmR (sI (sP M (t + 15) (nT a) (some q)) t 9 (nN (nT a + 1))) t (sTemper a n b) := by
  intro k hk
  rw [nT_s (by omega)] at hk
  have keep : ∀ q1 cs, TmO M q1 cs → TmO (sI (sP M (t + 15) (nT a) (some q)) t 9 (nN (nT a + 1))) q1 cs := by
    intro q' cs ⟨⟨g1, g2, g3, g4, g5, g6⟩, h2, h3, h4, h5⟩
    refine ⟨⟨g1, g2, g3, g4, ?_, ?_⟩, h2, fun i hi => ?_, h4, h5⟩
    · rw [gP_sI, gP_sP, if_neg (by omega)]; exact g5
    · rw [gP_sI, gP_sP, if_neg (by omega)]; exact g6
    · rw [gI_sI, if_neg (by omega)]; exact h3 i hi
  by_cases c : k = nT a
  · subst c
    refine ⟨q, s.1, ?_, keep q s.1 hq, fun fv hf => ?_⟩
    · rw [gP_sI, gP_sP, if_pos ⟨rfl, rfl⟩]
    · obtain ⟨g1, g2, g3⟩ := temper_ok hn hp
      rw [g3]
      have hl : ((List.range n).map fun j => nN (b j)).length = n := by rw [List.length_map, List.length_range]
      have t1 : TxV ((List.range n).map fun j => nN (b j)) s.2 := TxV_of hl hn hb (fun i hi => by
        rw [List.getD_eq_getElem?_getD, List.getElem?_map, List.getElem?_range hi]; rfl) hp
      unfold tv
      rw [txt_new hn]
      exact TxV_uni hs t1 (tvl_ok ⟨_, t1⟩) (by rw [hl]; omega) hf
  · obtain ⟨q9, cs, h1, h2, h3⟩ := hT k (by omega)
    obtain ⟨⟨L, hL, hL2⟩, -⟩ := htx k (by omega)
    refine ⟨q9, cs, ?_, keep q9 cs h2, fun fv hf => ?_⟩
    · rw [gP_sI, gP_sP, if_neg (by omega)]; exact h1
    · unfold tv
      rw [txt_old (by omega) L hL hL2]
      exact h3 fv hf
theorem sTemper_wg (hw : Wg a) (h6 : nT a < 6) (hn : n ≤ 400) (hb : ∀ k, b k < 256) {s : List Nat × ((Nat → Int32) → Bool)} (hp : pTemper (th tW n b) (nx9 n b) 400 (nb n b 0) = .inr s) : Wg (sTemper a n b) := by
  obtain ⟨h1, h2, h3, h4⟩ := hw
  have hp' := h1.p'
  have eP : nP (sTemper a n b) = nP a := by unfold nP; rw [sT_lo (by omega) (by omega)]
  refine ⟨sTemper_wf h1 h6, ?_, ?_, ?_⟩
  · obtain ⟨D, hD, hD2⟩ := h2
    exact ⟨D, hD, by rw [sT_lo (by omega) (by omega)]; exact hD2⟩
  · intro p g hp hg
    rw [eP] at hp hg
    rw [show pa (sTemper a n b) p 2 = pa a p 2 from sT_lo (by omega) (by omega), show pa (sTemper a n b) g 2 = pa a g 2 from sT_lo (by omega) (by omega)]
    exact h3 p g hp hg
  · intro k hk
    rw [nT_s (by omega)] at hk
    by_cases c : k = nT a
    · subst c
      refine ⟨⟨n, hn, ?_⟩, s.2, ?_⟩
      · unfold sTemper; rw [if_neg (by omega), if_pos rfl]
      · rw [txt_new hn]
        exact TxV_of (by rw [List.length_map, List.length_range]) hn hb (fun i hi => by
          rw [List.getD_eq_getElem?_getD, List.getElem?_map, List.getElem?_range hi]; rfl) hp
    · obtain ⟨⟨L, hL, hL2⟩, hv⟩ := h4 k (by omega)
      refine ⟨⟨L, hL, ?_⟩, ?_⟩
      · unfold sTemper; rw [if_neg (by omega), if_neg (by omega), if_neg (by omega)]; exact hL2
      · rw [txt_old (by omega) L hL hL2]; exact hv
end TQ
