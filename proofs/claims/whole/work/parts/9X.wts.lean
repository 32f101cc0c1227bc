/-! calls keep the table good -/
section WTS
variable {n p q f g x y v k K dd : Nat} {b : Nat → Nat} {a a' : Nat → Int32} {fc : Bool} {set z : Int32}
theorem wt_gn (hw : Wt a K) (hw' : Wf a') (G : Gn a a') : Wt a' K := by
  have hp' := hw.1.p'
  refine wt_keep hw hw' (G.1 _ (by omega)) (G.1 _ (by omega)) (fun j _ h => G.1 j (by omega)) (fun j h => G.2 j h) ?_
  obtain ⟨D, h5, h6⟩ := hw.2.2.2.2
  exact ⟨D, h5, by rw [G.1 6 (by omega)]; exact h6⟩
theorem wt_lets (hw : Wt a K) : Wt (sLets a set).1 K := wt_gn hw (sLets_ok hw.1).1 (sLets_ok hw.1).2
theorem wt_set (hw : Wt a K) (hx : x < nP a) (hy : y < nP a) (hxy : x ≠ y) (hn : 1 ≤ n) (hn2 : n ≤ 99) : Wt (sSet a x y n).1 K := (pk_set hw hx hy hxy hn hn2).1
theorem wt_meet (hw : Wt a K) (hf : f < nE a) : Wt (sSet a (eN a f 0) (eN a f 1) (eN a f 2)).1 K := by
  obtain ⟨⟨-, h1⟩, ⟨-, h2⟩, ⟨-, h3, h4⟩, h5⟩ := eN_ok9 hw.1 hf
  exact wt_set hw h1 h2 h5 h3 h4
theorem wt_give (hw : Wt a K) (hx : x < nP a) (hy : y < nP a) (hn : 1 ≤ n) (hn2 : n ≤ 99) : Wt (if sCanGive a x y n dd fc = true then gTail a x y n dd fc else a) K := (wt_gv hw hx hy hn hn2).1
theorem wt_has (hw : Wt a K) (hp : p < nP a) (hv : z = iN (-1) ∨ ∃ k, k < nT a ∧ z = nN k) : Wt (sHas a p z) K := by
  have hp' := hw.1.p'
  obtain ⟨h1, h2, h3, h4, D, h5, h6⟩ := hw
  have lo : ∀ j, j < 10 ∨ 46 ≤ j → sHas a p z j = a j := fun j h => sHas_lo h (by omega)
  have eP : nP (sHas a p z) = nP a := by unfold nP; rw [lo 1 (by omega)]
  have e2 : ∀ q, pa (sHas a p z) q 2 = pa a q 2 := fun q => by rw [sHas_pa (by omega), if_neg (by omega)]
  refine ⟨sHas_wf h1 hp hv, ?_, ?_, tx_keep h4 (lo 2 (by omega)) (fun j h => lo j (by omega)), D, h5, by rw [lo 6 (by omega)]; exact h6⟩
  · intro i j hi hj
    rw [eP] at hi hj
    rw [e2, e2]; exact h2 i j hi hj
  · intro i hi
    rw [eP] at hi ⊢
    rw [e2]; exact h3 i hi
end WTS
section WTT
variable {n K : Nat} {b : Nat → Nat} {a : Nat → Int32}
theorem Wt.wg (h : Wt a K) (hK : K < 2000000) : Wg a := ⟨h.1, h.dy hK, h.2.1, h.2.2.2.1⟩
theorem wt_temper_of (hw : Wt a K) (hg : Wg (sTemper a n b)) (lo : ∀ j, j ≠ 2 → j < 940 → sTemper a n b j = a j) : Wt (sTemper a n b) K := by
  have hp' := hw.1.p'
  obtain ⟨h1, h2, h3, h4, D, h5, h6⟩ := hw
  have eP : nP (sTemper a n b) = nP a := by unfold nP; rw [lo 1 (by omega) (by omega)]
  refine ⟨hg.1, hg.2.2.1, ?_, hg.2.2.2, D, h5, by rw [lo 6 (by omega) (by omega)]; exact h6⟩
  intro i hi
  rw [eP] at hi ⊢
  rw [show pa (sTemper a n b) i 2 = pa a i 2 from lo _ (by omega) (by omega)]
  exact h3 i hi
theorem sTemper_low (j : Nat) (h2 : j ≠ 2) (h : j < 940) : sTemper a n b j = a j := by
  unfold sTemper
  rw [if_neg h2, if_neg (by omega), if_neg (by omega)]
end WTT
