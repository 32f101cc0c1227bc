/-! play: the days played, pure; the class's side -/
abbrev tPl : Type := (Nat → Int32) × Int32 × Int32 × Int32 × Int32
noncomputable def plC (a : Nat → Int32) (x y n : Nat) (c : Int32 × Int32 × Int32) : Int32 × Int32 × Int32 := if (sSet a x y n).2 = iN (-1) then (c.1, c.2.1, c.2.2 + nN 1) else if (sPays a x y n).isSome = true then (c.1 + nN 1, c.2.1, c.2.2) else (c.1, c.2.1 + nN 1, c.2.2)
noncomputable def plX (x : Nat) (s : tPl) : tPl := if drN s.2.1 % nP s.1 = x then (s.1, drw s.2.1, s.2.2) else ((sSet s.1 x (drN s.2.1 % nP s.1) (drN (drw s.2.1) % 9 + 1)).1, drw (drw s.2.1), plC s.1 x (drN s.2.1 % nP s.1) (drN (drw s.2.1) % 9 + 1) s.2.2)
noncomputable def plD (_ : Nat) (s : tPl) : tPl := ((sDays (lp (nP s.1) 0 s plX).1 (nN 1)).1, (lp (nP s.1) 0 s plX).2)
noncomputable def sPlay (a : Nat → Int32) (seed : Int32) (r : Nat) : tPl := lp r 0 (a, seed, nN 0, nN 0, nN 0) plD
def Pk (a a' : Nat → Int32) (K : Nat) : Prop := Wt a' K ∧ Gk a a' ∧ a' 1 = a 1
section PLY
variable {d t u n p q f g m c e K k dd : Nat} {n' : Nat} {b b' : Nat → Nat} {a a0 a' ak : Nat → Int32} {img fc : Bool} {fl : Int32} {M M0 M1 M' : pMem} {Q : pOut → pMem → Prop} {x y z v w : Int32} {X Y : Nat}
theorem pk_nP (h : Pk a a' K) : nP a' = nP a := by unfold nP; rw [h.2.2]
theorem Pk.trans {K' : Nat} (h : Pk a a' K) (g : Pk a' a0 K') : Pk a a0 K' := ⟨g.1, h.2.1.trans g.2.1, g.2.2.trans h.2.2⟩
theorem pk_set (hw : Wt a K) (hx : X < nP a) (hy : Y < nP a) (hxy : X ≠ Y) (hn : 1 ≤ n) (hn2 : n ≤ 99) : Pk a (sSet a X Y n).1 K := by
  cases c : sPays a X Y n with
  | some f =>
    obtain ⟨hf, h2, h3⟩ := sPays_ok c
    obtain ⟨g1, g2, g3⟩ := sSet_ne hw.1 c
    have e : (sSet a X Y n).1 = sPs a f Y := by
      unfold sSet sPs
      rw [c]
      dsimp only
      by_cases e0 : fa a f 2 = nN Y
      · exfalso
        have hp' := hw.1.p'
        rw [h2] at e0
        exact hxy (nN_inj (by omega) (by omega) e0)
      · rw [if_neg e0, if_pos g1, g3]
    rw [e]
    obtain ⟨w1, w2⟩ := wt_ps hw hf hy
    refine ⟨w1, w2, ?_⟩
    unfold sPs
    split
    · rfl
    · exact sPassA_lo (by omega)
  | none =>
    have e : (sSet a X Y n).1 = sGv a X Y n 0 false := by
      unfold sSet sGv
      rw [c]
      dsimp only
      by_cases h : sCanGive a X Y n 0 false = true
      · rw [if_pos h, if_pos h]
      · rw [if_neg h, if_neg h]
    rw [e]
    obtain ⟨w1, w2⟩ := wt_gv hw hx hy hn hn2 (dd := 0) (fc := false)
    refine ⟨w1, w2, ?_⟩
    unfold sGv
    split
    · exact sGive_lo (by omega) (by omega)
    · rfl
theorem pk_x (hw : Pk a a' K) (hX : X < nP a) {c : Int32 × Int32 × Int32} {sd : Int32} : Pk a (plX X (a', sd, c)).1 K := by
  have hp' := hw.1.1.p'
  have eP := pk_nP hw
  unfold plX
  dsimp only
  by_cases h : drN sd % nP a' = X
  · rw [if_pos h]; exact hw
  · rw [if_neg h]
    have h1 : drN sd % nP a' < nP a' := Nat.mod_lt _ (by omega)
    have h2 : drN (drw sd) % 9 < 9 := Nat.mod_lt _ (by omega)
    exact hw.trans (pk_set hw.1 (by omega) h1 (fun z => h z.symm) (by omega) (by omega))
theorem pk_xs (hw : Pk a a' K) {c : Int32 × Int32 × Int32} {sd : Int32} : Pk a (lp (nP a') 0 (a', sd, c) plX).1 K := by
  have eP := pk_nP hw
  exact lp_inv (P := fun _ (s : tPl) => Pk a s.1 K) (nP a') 0 (a', sd, c) hw (fun i s h1 h2 h3 => pk_x (c := s.2.2) (sd := s.2.1) h3 (by omega))
theorem pk_d (hw : Pk a a' K) (hK : K < 2000000) {c : Int32 × Int32 × Int32} {sd : Int32} : Pk a (plD k (a', sd, c)).1 (K + 99) := by
  have h := pk_xs (sd := sd) (c := c) hw
  obtain ⟨w1, w2⟩ := wt_days (v := 1) h.1 (by omega) hK
  refine h.trans ⟨w1, w2, ?_⟩
  exact ((sDays_ok (n := nN 1) h.1.1).2.1 1 (by omega)).trans (if_neg (by omega))
theorem pk_play (hw : Wt a K) (hK : K + 99 * n < 2000000) {sd : Int32} : Pk a (sPlay a sd n).1 (K + 99 * n) := by
  have h := lp_inv (f := plD) (P := fun i (s : tPl) => Pk a s.1 (K + 99 * i)) n 0 (a, sd, nN 0, nN 0, nN 0) ⟨hw, Gk.rfl, rfl⟩ (fun i s h1 h2 h3 => by
    have := pk_d (k := i) (sd := s.2.1) (c := s.2.2) h3 (by omega)
    rw [show K + 99 * (i + 1) = K + 99 * i + 99 from by omega]
    exact this)
  rw [Nat.zero_add] at h
  exact h
end PLY
