/-! TEMPERS READ: what is read, its code, what it is worth -/
abbrev pV : Type := (Nat → Int32) → Int32
abbrev pY : Type := Nat × List Nat × pV
abbrev pZ : Type := Nat ⊕ pY
def pCh (T N : Nat → Nat) (sub : Nat → pZ) (sep : Nat) : Nat → pY → pZ
  | 0, s => .inl s.1
  | j + 1, s => if T s.1 = sep then (match sub (N s.1) with | .inl e => .inl e | .inr s2 => pCh T N sub sep j (s2.1, s.2.1 ++ s2.2.1 ++ [sep], fun fv => sJoin sep (s.2.2 fv) (s2.2.2 fv))) else .inr s
def pThen (x : pZ) (f : pY → pZ) : pZ := match x with | .inl e => .inl e | .inr s => f s
def pPart (T N : Nat → Nat) (p : Nat) : pZ := if T p ≤ 999 then .inr (N p, [T p], fun _ => nN (T p)) else if T p ≤ 1005 then .inr (N p, [T p], fun fv => fv (T p - 1000)) else .inl p
def pSum (T N : Nat → Nat) (F p : Nat) : pZ := pThen (pPart T N p) fun s => pCh T N (pPart T N) 2043 F s
def pComp (T N : Nat → Nat) (F p : Nat) : pZ := pThen (pSum T N F p) fun s => if T s.1 = 2060 ∨ T s.1 = 2062 then pThen (pSum T N F (N s.1)) fun s2 => .inr (s2.1, s.2.1 ++ s2.2.1 ++ [T s.1], fun fv => sJoin (T s.1) (s.2.2 fv) (s2.2.2 fv)) else .inl s.1
def pPlain (T N : Nat → Nat) (F p : Nat) : pZ := if 1006 ≤ T p ∧ T p ≤ 1008 then .inr (N p, [T p], fun fv => fv (T p - 1000)) else pComp T N F p
def pEv (T N : Nat → Nat) (F : Nat) (atm : Nat → pZ) (p : Nat) : pZ := pThen (atm p) fun s => pCh T N atm 1013 F s
def pSo (T N : Nat → Nat) (F : Nat) (atm : Nat → pZ) (p : Nat) : pZ := pThen (pEv T N F atm p) fun s => pCh T N (pEv T N F atm) 1014 F s
def pAtom (T N : Nat → Nat) (F : Nat) : Nat → Nat → pZ
  | 0, p => if T p = 1012 ∨ T p = 2040 then .inl p else pPlain T N F p
  | r + 1, p => if T p = 1012 then pThen (pAtom T N F r (N p)) (fun s => .inr (s.1, s.2.1 ++ [1012], fun fv => nN 1 - s.2.2 fv)) else if T p = 2040 then pThen (pSo T N F (pAtom T N F r) (N p)) (fun s => if T s.1 = 2041 then .inr (N s.1, s.2.1, s.2.2) else .inl s.1) else pPlain T N F p
def pLine (T N : Nat → Nat) (F p : Nat) : pZ := if T p = 1009 ∨ T p = 1010 then (if T (N p) = 1011 then pThen (pSo T N F (pAtom T N F 6) (N (N p))) (fun s => .inr (s.1, s.2.1 ++ [T p], s.2.2)) else .inr (N p, [1, T p], fun _ => nN 1)) else .inl p
def pTxt (T N : Nat → Nat) (F : Nat) : Nat → Nat → Nat ⊕ (List Nat × ((Nat → Int32) → Bool))
  | 0, p => .inl p
  | j + 1, p => match pLine T N F p with
    | .inl e => .inl e
    | .inr s => if T s.1 = 3000 then .inr (s.2.1, fun fv => if s.2.2 fv = nN 1 then decide (T p = 1009) else false) else if T s.1 = 2059 then (match pTxt T N F j (N s.1) with | .inl e => .inl e | .inr s2 => .inr (s.2.1 ++ s2.1, fun fv => if s.2.2 fv = nN 1 then decide (T p = 1009) else s2.2 fv)) else .inl s.1
def pTemper (T N : Nat → Nat) (F p : Nat) : Nat ⊕ (List Nat × ((Nat → Int32) → Bool)) := if T p = 3000 then .inr ([], fun _ => false) else pTxt T N F 12 p
/-! what its code does -/
def RunK (k : Nat) (c : List Nat) (v : pV) : Prop := ∀ (fv : Nat → Int32) (r : List Nat) (s : List Int32), s.length + k ≤ 20 → runC fv (c ++ r) s = runC fv r (v fv :: s)
theorem RunK.mono {k k' : Nat} {c : List Nat} {v : pV} (h : RunK k c v) (hk : k ≤ k') : RunK k' c v := fun fv r s hs => h fv r s (by omega)
theorem run_push {s : List Int32} {x : Int32} (h : s.length < 20) : sPush s x = x :: s := if_pos h
theorem runC_c {fv : Nat → Int32} {w : Nat} {r : List Nat} {s : List Int32} : runC fv (w :: r) s = if w < 1000 then runC fv r (sPush s (nN w)) else if w < 1009 then runC fv r (sPush s (fv (w - 1000))) else if w = 1012 then runC fv r (sPush s.tail (nN 1 - sTop s)) else if w = 1009 ∨ w = 1010 then (if sTop s = nN 1 then decide (w = 1009) else runC fv r s.tail) else runC fv r (sPush s.tail.tail (sJoin w (sTop s.tail) (sTop s))) := rfl
theorem RunK.join {k w : Nat} {c c2 : List Nat} {v v2 : pV} (h : RunK (k + 1) c v) (h2 : RunK k c2 v2) (hw : w = 2043 ∨ w = 2060 ∨ w = 2062 ∨ w = 1013 ∨ w = 1014) : RunK (k + 1) (c ++ c2 ++ [w]) (fun fv => sJoin w (v fv) (v2 fv)) := by
  intro fv r s hs
  rw [List.append_assoc, List.append_assoc, h fv _ s (by omega), h2 fv _ _ (by simp only [List.length_cons]; omega)]
  show runC fv (w :: r) (v2 fv :: v fv :: s) = _
  have e1 : ¬ w < 1000 := by omega
  have e2 : ¬ w < 1009 := by omega
  have e3 : ¬ w = 1012 := by omega
  have e4 : ¬ (w = 1009 ∨ w = 1010) := by omega
  rw [runC_c, if_neg e1, if_neg e2, if_neg e3, if_neg e4]
  show runC fv r (sPush s _) = _
  rw [run_push (by omega)]
  rfl
/-- all that holds of what was read from p on -/
def Gd (n : Nat) (b : Nat → Nat) (k p : Nat) : pZ → Prop
  | .inl _ => True
  | .inr s => (p < s.1 ∧ s.1 ≤ n ∧ (s.1 = n ∨ (s.1 < n ∧ isB b s.1 = true))) ∧ (s.2.1.length + p ≤ s.1 ∧ ∀ x ∈ s.2.1, x < 4000) ∧ RunK k s.2.1 s.2.2
section PA
variable {n F p q k j r : Nat} {b : Nat → Nat} {W : List (List Nat)}
theorem th_3000 (h : n ≤ p) : th W n b p = 3000 := if_pos h
theorem Gd.mono {k' : Nat} {x : pZ} (h : Gd n b k p x) (hk : k ≤ k') : Gd n b k' p x := by
  cases x with
  | inl e => trivial
  | inr s => exact ⟨h.1, h.2.1, h.2.2.mono hk⟩
theorem Gd_nx {s : pY} (h : p < s.1 ∧ s.1 ≤ n ∧ (s.1 = n ∨ (s.1 < n ∧ isB b s.1 = true))) (ht : th W n b s.1 ≠ 3000) : s.1 < n ∧ s.1 < nx9 n b s.1 ∧ nx9 n b s.1 ≤ n ∧ (nx9 n b s.1 = n ∨ (nx9 n b s.1 < n ∧ isB b (nx9 n b s.1) = true)) := by
  have h1 : s.1 < n := by
    rcases h.2.2 with z | z
    · exact absurd (th_3000 (by omega)) ht
    · exact z.1
  obtain ⟨g1, g2, g3⟩ := nx_gt (b := b) h1
  refine ⟨h1, g1, g2, ?_⟩
  by_cases c : nx9 n b s.1 = n
  · exact Or.inl c
  · exact Or.inr ⟨by omega, g3 (by omega)⟩
theorem At_nx (h : p < n) : p < nx9 n b p ∧ nx9 n b p ≤ n ∧ (nx9 n b p = n ∨ (nx9 n b p < n ∧ isB b (nx9 n b p) = true)) := by
  obtain ⟨g1, g2, g3⟩ := nx_gt (b := b) h
  refine ⟨g1, g2, ?_⟩
  by_cases c : nx9 n b p = n
  · exact Or.inl c
  · exact Or.inr ⟨by omega, g3 (by omega)⟩
theorem Gd_pCh {sub : Nat → pZ} {sep : Nat} (hsep : sep = 2043 ∨ sep = 1013 ∨ sep = 1014) (hsub : ∀ q, q ≤ n → (q = n ∨ (q < n ∧ isB b q = true)) → Gd n b k q (sub q)) : ∀ (j : Nat) (s : pY), Gd n b (k + 1) p (.inr s) → Gd n b (k + 1) p (pCh (th W n b) (nx9 n b) sub sep j s) := by
  intro j
  induction j with
  | zero => intro s h; trivial
  | succ j ih =>
    intro s h
    unfold pCh
    by_cases c : th W n b s.1 = sep
    · rw [if_pos c]
      obtain ⟨h1, ⟨h2, h3⟩, h4⟩ := h
      obtain ⟨g1, g2, g3, g4⟩ := Gd_nx (W := W) h1 (by rw [c]; omega)
      have hs := hsub _ g3 g4
      cases hc : sub (nx9 n b s.1) with
      | inl e => trivial
      | inr s2 =>
        rw [hc] at hs
        obtain ⟨a1, ⟨a2, a3⟩, a4⟩ := hs
        refine ih _ ⟨⟨by omega, a1.2⟩, ⟨?_, ?_⟩, ?_⟩
        · simp only [List.length_append, List.length_singleton]; omega
        · intro x hx
          simp only [List.mem_append, List.mem_singleton] at hx
          rcases hx with (hx | hx) | hx
          · exact h3 x hx
          · exact a3 x hx
          · omega
        · exact h4.join a4 (by omega)
    · rw [if_neg c]; exact h
theorem Gd_then {x : pZ} {f : pY → pZ} {k' : Nat} (h : Gd n b k p x) (hf : ∀ s, Gd n b k p (.inr s) → Gd n b k' p (f s)) : Gd n b k' p (pThen x f) := by
  cases x with
  | inl e => trivial
  | inr s => exact hf s h
theorem Gd_one {v : pV} (hp : p < n) (h9 : th W n b p < 1009) (hv : ∀ fv, v fv = if th W n b p < 1000 then nN (th W n b p) else fv (th W n b p - 1000)) : Gd n b 1 p (.inr (nx9 n b p, [th W n b p], v)) := by
  have g := At_nx (b := b) hp
  refine ⟨g, ⟨by show 1 + p ≤ nx9 n b p; omega, fun x hx => by rw [List.mem_singleton] at hx; omega⟩, ?_⟩
  intro fv r s hs
  show runC fv (th W n b p :: r) s = _
  dsimp only
  rw [runC_c, hv fv]
  by_cases c : th W n b p < 1000
  · rw [if_pos c, if_pos c, run_push (by omega)]
  · rw [if_neg c, if_neg c, if_pos h9, run_push (by omega)]
theorem Gd_part (hq : q ≤ n) : Gd n b 1 q (pPart (th W n b) (nx9 n b) q) := by
  unfold pPart
  by_cases e : q = n
  · have ht : th W n b q = 3000 := by rw [e]; exact th_n
    rw [ht, if_neg (by omega), if_neg (by omega)]
    trivial
  · split
    · rename_i h
      exact Gd_one (by omega) (by omega) (fun fv => by rw [if_pos (by omega)])
    · rename_i h
      split
      · exact Gd_one (by omega) (by omega) (fun fv => by rw [if_neg (by omega)])
      · trivial
theorem Gd_sum (hq : q ≤ n) : Gd n b 2 q (pSum (th W n b) (nx9 n b) F q) :=
  Gd_then (Gd_part hq) fun s hs => Gd_pCh (Or.inl rfl) (fun q hq _ => Gd_part hq) F s (Gd.mono hs (by omega))
theorem Gd_comp (hq : q ≤ n) : Gd n b 3 q (pComp (th W n b) (nx9 n b) F q) := by
  refine Gd_then (Gd_sum hq) fun s hs => ?_
  by_cases c : th W n b s.1 = 2060 ∨ th W n b s.1 = 2062
  · rw [if_pos c]
    obtain ⟨h1, ⟨h2, h3⟩, h4⟩ := hs
    obtain ⟨g1, g2, g3, g4⟩ := Gd_nx (W := W) h1 (by omega)
    have hs2 := Gd_sum (F := F) (W := W) (b := b) (q := nx9 n b s.1) g3
    cases hc : pSum (th W n b) (nx9 n b) F (nx9 n b s.1) with
    | inl e => trivial
    | inr s2 =>
      rw [hc] at hs2
      obtain ⟨a1, ⟨a2, a3⟩, a4⟩ := hs2
      refine ⟨⟨by show q < s2.1; omega, a1.2⟩, ⟨?_, ?_⟩, ?_⟩
      · show (s.2.1 ++ s2.2.1 ++ [th W n b s.1]).length + q ≤ s2.1
        simp only [List.length_append, List.length_singleton]; omega
      · intro x hx
        have hx : x ∈ s.2.1 ++ s2.2.1 ++ [th W n b s.1] := hx
        simp only [List.mem_append, List.mem_singleton] at hx
        rcases hx with (hx | hx) | hx
        · exact h3 x hx
        · exact a3 x hx
        · omega
      · exact RunK.join (h4.mono (by omega)) a4 (by omega)
  · rw [if_neg c]; trivial
theorem Gd_plain (hq : q ≤ n) : Gd n b 3 q (pPlain (th W n b) (nx9 n b) F q) := by
  unfold pPlain
  split
  · rename_i h
    have hlt : q < n := by
      by_cases e : q = n
      · have ht : th W n b q = 3000 := by rw [e]; exact th_n
        omega
      · omega
    exact Gd.mono (Gd_one hlt (by omega) (fun fv => by rw [if_neg (by omega)])) (by omega)
  · exact Gd_comp hq
theorem Gd_ev {atm : Nat → pZ} (ha : ∀ q, q ≤ n → (q = n ∨ (q < n ∧ isB b q = true)) → Gd n b k q (atm q)) (hq : q ≤ n) (hq2 : q = n ∨ (q < n ∧ isB b q = true)) : Gd n b (k + 1) q (pEv (th W n b) (nx9 n b) F atm q) :=
  Gd_then (ha q hq hq2) fun s hs => Gd_pCh (Or.inr (Or.inl rfl)) ha F s (Gd.mono hs (by omega))
theorem Gd_so {atm : Nat → pZ} (ha : ∀ q, q ≤ n → (q = n ∨ (q < n ∧ isB b q = true)) → Gd n b k q (atm q)) (hq : q ≤ n) (hq2 : q = n ∨ (q < n ∧ isB b q = true)) : Gd n b (k + 2) q (pSo (th W n b) (nx9 n b) F atm q) :=
  Gd_then (Gd_ev ha hq hq2) fun s hs => Gd_pCh (Or.inr (Or.inr rfl)) (fun q h1 h2 => Gd_ev ha h1 h2) F s (Gd.mono hs (by omega))
theorem Gd_atom : ∀ (r q : Nat), q ≤ n → (q = n ∨ (q < n ∧ isB b q = true)) → Gd n b (3 + 2 * r) q (pAtom (th W n b) (nx9 n b) F r q) := by
  intro r
  induction r with
  | zero =>
    intro q hq hq2
    unfold pAtom
    split
    · trivial
    · exact Gd_plain hq
  | succ r ih =>
    intro q hq hq2
    have hlt : th W n b q ≠ 3000 → q < n := fun h => by
      rcases hq2 with z | z
      · exact absurd (th_3000 (by omega)) h
      · exact z.1
    unfold pAtom
    by_cases c1 : th W n b q = 1012
    · rw [if_pos c1]
      have g := At_nx (b := b) (hlt (by omega))
      have hs := ih (nx9 n b q) g.2.1 g.2.2
      cases hc : pAtom (th W n b) (nx9 n b) F r (nx9 n b q) with
      | inl e => trivial
      | inr s =>
        rw [hc] at hs
        obtain ⟨h1, ⟨h2, h3⟩, h4⟩ := hs
        refine ⟨⟨by show q < s.1; omega, h1.2⟩, ⟨?_, ?_⟩, ?_⟩
        · show (s.2.1 ++ [1012]).length + q ≤ s.1
          simp only [List.length_append, List.length_singleton]; omega
        · intro x hx
          have hx : x ∈ s.2.1 ++ [1012] := hx
          simp only [List.mem_append, List.mem_singleton] at hx
          rcases hx with hx | hx
          · exact h3 x hx
          · omega
        · intro fv r9 s9 hs9
          show runC fv (s.2.1 ++ [1012] ++ r9) s9 = _
          rw [List.append_assoc, h4 fv _ s9 (by omega)]
          show runC fv (1012 :: r9) _ = _
          rw [runC_c, if_neg (by omega), if_neg (by omega), if_pos rfl]
          show runC fv r9 (sPush s9 _) = _
          rw [run_push (by omega)]
          rfl
    · rw [if_neg c1]
      by_cases c2 : th W n b q = 2040
      · rw [if_pos c2]
        have g := At_nx (b := b) (hlt (by omega))
        have hs := Gd_so (F := F) (W := W) (k := 3 + 2 * r) ih (q := nx9 n b q) g.2.1 g.2.2
        cases hc : pSo (th W n b) (nx9 n b) F (pAtom (th W n b) (nx9 n b) F r) (nx9 n b q) with
        | inl e => trivial
        | inr s =>
          rw [hc] at hs
          obtain ⟨h1, ⟨h2, h3⟩, h4⟩ := hs
          show Gd n b _ q (if th W n b s.1 = 2041 then _ else _)
          by_cases c3 : th W n b s.1 = 2041
          · rw [if_pos c3]
            obtain ⟨g1, g2, g3, g4⟩ := Gd_nx (W := W) h1 (by omega)
            exact ⟨⟨by show q < nx9 n b s.1; omega, g3, g4⟩, ⟨by show s.2.1.length + q ≤ nx9 n b s.1; omega, h3⟩, h4.mono (by omega)⟩
          · rw [if_neg c3]; trivial
      · rw [if_neg c2]
        exact Gd.mono (Gd_plain hq) (by omega)
end PA
