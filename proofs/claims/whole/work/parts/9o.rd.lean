/-! the people of a ring differ: calls keep it -/
section RDK
variable {n p q f g x y v k K dd r m : Nat} {b : Nat → Nat} {a a' ak : Nat → Int32} {fc : Bool} {set z : Int32} {T N : Nat → Nat}
theorem rd_keep (hw : Wf a) (h5 : a' 5 = a 5) (hr : ∀ j, 82 ≤ j → j < 138 → a' j = a j) (hd : Rd a) : Rd a' := by
  have hR := hw.r'
  have eR : nR a' = nR a := by unfold nR; rw [h5]
  have eZ : ∀ r, r < nR a → rZ a' r = rZ a r := fun r h => by unfold rZ ra; rw [hr _ (by omega) (by omega)]
  have eQ : ∀ r k, r < nR a → k < rZ a r → rQ a' r k = rQ a r k := fun r k h h2 => by
    have := (rg_ok hw h).2.1
    unfold rQ ra
    rw [hr _ (by omega) (by omega)]
  intro r i k h1 h2 h3 h4
  rw [eR] at h1
  rw [eZ r h1] at h2 h3
  rw [eQ r i h1 h2, eQ r k h1 h3] at h4
  exact hd r i k h1 h2 h3 h4
theorem rd_gk (hw : Wf a) (h5 : a' 5 = a 5) (G : Gk a a') (hd : Rd a) : Rd a' := rd_keep hw h5 (fun j h1 h2 => G.2.2.2 j h1 (by omega)) hd
theorem days_5 : (sDays a z).1 5 = a 5 := by
  have := lp_inv (f := sDayF) (P := fun _ s => s.1 5 = a 5) (nF a) 0 (sDayA a (a 6 + z), nN 0) (show (if (5 : Nat) = 6 then a 6 + z else a 5) = a 5 from if_neg (by omega)) (fun i s h1 h2 h3 => by
    unfold sDayF
    split
    · exact (sGone_lo (by omega)).trans h3
    · exact h3)
  exact this
theorem sEx_5 {l : List Nat} : sEx a v l 5 = a 5 := by
  unfold sEx
  split
  · unfold sPer
    rw [if_neg (by omega), if_neg (by omega), if_neg (by omega), if_neg (by omega)]
  split
  · unfold sNea
    rw [aU_ne (by omega), aU_ne (by omega)]
  split
  · exact aU_ne (by omega)
  split
  · unfold sGv
    split
    · exact sGive_lo (by omega) (by omega)
    · rfl
  split
  · unfold sPs
    split
    · rfl
    · split
      · exact sPassA_lo (by omega)
      · rfl
  split
  · exact sGone_lo (by omega)
  split
  · exact days_5
  · unfold sNee
    rw [if_neg (by omega), if_neg (by omega), if_neg (by omega), if_neg (by omega)]
theorem pTL_5 {s : Nat × (Nat → Int32)} (h : pTL T N a p = .inr s) : s.2 5 = a 5 := by
  unfold pTL at h
  split at h
  · cases h
  · split at h
    · cases h
    · injection h with h
      rw [← h]
      exact sEx_5
theorem pTT_5 : ∀ (j p : Nat) (a : Nat → Int32), pTT T N j p a = .inr a' → a' 5 = a 5 := by
  intro j
  induction j with
  | zero => intro p a h; cases h
  | succ j ih =>
    intro p a h
    unfold pTT at h
    split at h
    · cases h
    · rename_i s hs
      have e := pTL_5 hs
      split at h
      · injection h with h
        rw [← h]; exact e
      · split at h
        · exact (ih _ _ h).trans e
        · cases h
theorem pTown_5 (h : pTown T N p a = .inr a') : a' 5 = a 5 := by
  unfold pTown at h
  split at h
  · injection h with h
    rw [h]
  · exact pTT_5 _ _ _ h
theorem rd_lets (hw : Wf a) (hd : Rd a) : Rd (sLets a set).1 := by
  have G := (sLets_ok (set := set) hw).2
  exact rd_keep hw (G.1 5 (by omega)) (fun j h1 h2 => G.1 j (by omega)) hd
theorem rd_days (hw : Wf a) (hd : Rd a) : Rd (sDays a z).1 := by
  have G := (sDays_ok (n := z) hw).2
  exact rd_keep hw days_5 (fun j h1 h2 => by rw [G.1 j (by omega)]; exact if_neg (by omega)) hd
theorem rd_lo (hw : Wf a) (h : ∀ j, j = 5 ∨ (82 ≤ j ∧ j < 138) → a' j = a j) (hd : Rd a) : Rd a' := rd_keep hw (h 5 (Or.inl rfl)) (fun j h1 h2 => h j (Or.inr ⟨h1, h2⟩)) hd
theorem rd_give (hw : Wf a) (hd : Rd a) : Rd (gTail a x y n dd fc) := rd_lo hw (fun j hj => sGive_lo (by omega) (by omega)) hd
theorem rd_pass (hw : Wf a) (hd : Rd a) : Rd (sPassA a f y) := rd_lo hw (fun j hj => sPassA_lo (by omega)) hd
theorem rd_gone (hw : Wf a) (hd : Rd a) : Rd (sGone a f) := rd_lo hw (fun j hj => sGone_lo (by omega)) hd
theorem rd_set (hw : Wf a) (hd : Rd a) : Rd (sSet a x y n).1 := by
  refine rd_lo hw (fun j hj => ?_) hd
  unfold sSet
  split
  · exact sCome_lo (by omega)
  · split
    · exact sGive_lo (by omega) (by omega)
    · rfl
theorem rd_has (hw : Wf a) (hp : p < 12) (hd : Rd a) : Rd (sHas a p z) := rd_lo hw (fun j hj => aU_ne (by omega)) hd
theorem rd_temper (hw : Wf a) (hd : Rd a) : Rd (sTemper a n b) := rd_lo hw (fun j hj => sTemper_low j (by omega) (by omega)) hd
theorem rd_ring (hw : Wf a) (hb : ∀ k, b k < 256) (hg : RgO a n b) (hR : nR a < 8) (hd : Rd a) : Rd (sRing a n b) := by
  obtain ⟨hn2, hn6, hok⟩ := hg
  have hp' := hw.p'
  have eR := sRing_nR (n := n) (b := b) hR
  have e0 : ∀ p k, p ≤ nR a → k < 7 → ra (sRing a n b) p k = if p = nR a then (if k = 0 then nN n else if k < n + 1 then nN (qB b (k - 1)) else ra a p k) else ra a p k := fun p k h1 h2 => sRing_ra h1 h2 hn6
  intro r i k h1 h2 h3 h4
  rw [eR] at h1
  by_cases c : r = nR a
  · have eZ : rZ (sRing a n b) r = n := by
      unfold rZ
      rw [e0 r 0 (by omega) (by omega), if_pos c, if_pos rfl, nN_toInt (by omega)]
      omega
    rw [eZ] at h2 h3
    have eQ : ∀ k, k < n → rQ (sRing a n b) r k = qB b k := fun k hk => by
      have := (okR_q hp' (hok k hk).1).1
      unfold rQ
      rw [e0 r _ (by omega) (by omega), if_pos c, if_neg (by omega), if_pos (by omega), show 1 + k - 1 = k from by omega, nN_toInt (by omega)]
      omega
    rw [eQ i h2, eQ k h3] at h4
    have f1 := (okR_q hp' (hok i h2).1).2
    have f2 := (okR_q hp' (hok k h3).1).2
    rcases Nat.lt_trichotomy i k with l | l | l
    · exact absurd (qB_eq hb f2 f1 h4) ((hok k h3).2 i l)
    · exact l
    · exact absurd (qB_eq hb f1 f2 h4.symm) ((hok i h2).2 k l)
  · have hr : r < nR a := by omega
    have hz := rg_ok hw hr
    have eZ : rZ (sRing a n b) r = rZ a r := by unfold rZ; rw [e0 r 0 (by omega) (by omega), if_neg c]
    rw [eZ] at h2 h3
    have eQ : ∀ k, k < rZ a r → rQ (sRing a n b) r k = rQ a r k := fun k hk => by
      unfold rQ
      rw [e0 r _ (by omega) (by omega), if_neg c]
    rw [eQ i h2, eQ k h3] at h4
    exact hd r i k hr h2 h3 h4
end RDK
