/-! RUNS of the program, as predicates: Rn (what it answers), mw (a method), bw (from a block on), xw (from an entry on) -/
def pB0 : Nat → List Value → pMem → Option (pOut × pMem) := fun y as M =>
  if y = 280 then (match as with
    | [.ref h] => if (gS M h).1 = 104 then some (.inl (some (.int (iN ((pLens.getD (h - 900001) 0 : Nat) : Int)))), M) else none
    | _ => none)
  else if y = 281 then (match as with
    | [.ref h, .int i] => if (gS M h).1 = 104 ∧ pIn i (pLens.getD (h - 900001) 0) = true then some (.inl (some (.int ((pByts.getD (h - 900001) []).getD (pIx i) 0))), M) else none
    | _ => none)
  else none
def Tb (y : Nat) : List (List pEnt) := (pG.getD y (0, [], [])).2.2
def Hs (y : Nat) : List (Nat × Nat × Nat) := (pG.getD y (0, [], [])).2.1
def Nl (y : Nat) : Nat := (pG.getD y (0, [], [])).1
abbrev pF (d n : Nat) := exP pG pB0 d n
def Rn (d y : Nat) (as : List Value) (M : pMem) (o : pOut) (M' : pMem) : Prop := ∃ n, exP pG pB0 d n y as M = some (o, M')
def mw (d y : Nat) (as : List Value) (M : pMem) (Q : pOut → pMem → Prop) : Prop := ∃ o M', Rn d y as M o M' ∧ Q o M'
def bw (d y b : Nat) (c : pCfg) (Q : pOut → pMem → Prop) : Prop := ∃ n o M', exM (pF d n) (Tb y) (Hs y) n b c = some (o, M') ∧ Q o M'
def xw (d y : Nat) (es : List pEnt) (c : pCfg) (Q : pOut → pMem → Prop) : Prop := ∃ n o M', exB (pF d n) (exM (pF d n) (Tb y) (Hs y) n) (Hs y) es c = some (o, M') ∧ Q o M'
section LE
variable {F F' : Nat → List Value → pMem → Option (pOut × pMem)} {J J' : Nat → pCfg → Option (pOut × pMem)} {hs : List (Nat × Nat × Nat)}
theorem exB_le (hF : ∀ z as M r, F z as M = some r → F' z as M = some r) (hJ : ∀ b c r, J b c = some r → J' b c = some r) : ∀ (es : List pEnt) (c : pCfg) (r : pOut × pMem), exB F J hs es c = some r → exB F' J' hs es c = some r := by
  intro es
  induction es with
  | nil => intro c r h; cases h
  | cons e es ih =>
    intro c r h
    unfold exB at h ⊢
    split at h
    · rename_i c' hc
      (try simp only [hc])
      exact ih _ _ h
    · rename_i b c' hc
      (try simp only [hc])
      exact hJ _ _ _ h
    · rename_i y as c' hc
      (try simp only [hc])
      split at h
      · rename_i v M1 hv
        rw [hF _ _ _ _ hv]
        exact ih _ _ h
      · rename_i k M1 hv
        rw [hF _ _ _ _ hv]
        dsimp only
        split at h
        · rename_i hk
          rw [if_pos hk]
          split at h
          · exact h
          · rename_i hne
            split at h
            · rename_i b k9 hb
              cases hs with
              | nil => exact absurd rfl hne
              | cons q qs =>
                (try dsimp only)
                (try rw [hb])
                exact hJ _ _ _ h
            · cases h
        · cases h
      · cases h
    · rename_i r' hc
      (try simp only [hc])
      exact h
    · cases h
theorem exM_le {T : List (List pEnt)} (hF : ∀ z as M r, F z as M = some r → F' z as M = some r) : ∀ (n n' b : Nat) (c : pCfg) (r : pOut × pMem), n ≤ n' → exM F T hs n b c = some r → exM F' T hs n' b c = some r := by
  intro n
  induction n with
  | zero => intro n' b c r _ h; cases h
  | succ n ih =>
    intro n' b c r hn h
    cases n' with
    | zero => omega
    | succ n' => exact exB_le hF (fun b c r h => ih n' b c r (by omega) h) _ _ _ h
end LE
theorem exP_le : ∀ (d n n' y : Nat) (as : List Value) (M : pMem) (r : pOut × pMem), n ≤ n' → exP pG pB0 d n y as M = some r → exP pG pB0 d n' y as M = some r := by
  intro d
  induction d with
  | zero => intro n n' y as M r _ h; cases h
  | succ d ih =>
    intro n n' y as M r hn h
    unfold exP at h ⊢
    split at h
    · rename_i nL hs T hG
      split at h
      · rename_i hl
        rw [if_pos hl]
        exact exM_le (fun z as M r h => ih n n' z as M r hn h) n n' _ _ _ hn h
      · cases h
    · rename_i hG
      exact h
theorem Rn_det {d y : Nat} {as : List Value} {M : pMem} {o o' : pOut} {M1 M2 : pMem} (h1 : Rn d y as M o M1) (h2 : Rn d y as M o' M2) : o = o' ∧ M1 = M2 := by
  obtain ⟨n1, h1⟩ := h1
  obtain ⟨n2, h2⟩ := h2
  have a := exP_le d n1 (max n1 n2) y as M _ (Nat.le_max_left _ _) h1
  have b := exP_le d n2 (max n1 n2) y as M _ (Nat.le_max_right _ _) h2
  have := Option.some.inj (a.symm.trans b)
  exact ⟨congrArg Prod.fst this, congrArg Prod.snd this⟩
theorem Rn_le {d y : Nat} {as : List Value} {M : pMem} {o : pOut} {M' : pMem} (h : Rn d y as M o M') : ∃ n0, ∀ n, n0 ≤ n → exP pG pB0 d n y as M = some (o, M') := by
  obtain ⟨n, h⟩ := h
  exact ⟨n, fun n' hn => exP_le d n n' y as M _ hn h⟩
/-- a method whose run is known -/
theorem mw_of {d y : Nat} {as : List Value} {M : pMem} {o : pOut} {M' : pMem} {Q : pOut → pMem → Prop} (h : Rn d y as M o M') : mw d y as M Q = Q o M' := by
  refine propext ⟨fun ⟨o1, M1, h1, hq⟩ => ?_, fun hq => ⟨o, M', h, hq⟩⟩
  obtain ⟨e1, e2⟩ := Rn_det h h1
  rw [e1, e2]
  exact hq
theorem Rn_of {d y : Nat} {as : List Value} {M : pMem} {o : pOut} {M' : pMem} (h : mw d y as M (fun o' M1 => o' = o ∧ M1 = M')) : Rn d y as M o M' := by
  obtain ⟨o1, M1, h1, rfl, rfl⟩ := h
  exact h1
theorem mw_mono {d y : Nat} {as : List Value} {M : pMem} {Q Q' : pOut → pMem → Prop} (h : mw d y as M Q) (hq : ∀ o M', Q o M' → Q' o M') : mw d y as M Q' := by
  obtain ⟨o, M', h1, h2⟩ := h
  exact ⟨o, M', h1, hq _ _ h2⟩
/-- a method: its first block -/
theorem mw_eq {d y : Nat} {as : List Value} {M : pMem} {Q : pOut → pMem → Prop} {q : pMeth} (hG : pG[y]? = some q) (h1 : as.length ≤ q.1) (h2 : as.all pCat1 = true) : mw (d + 1) y as M Q = bw d y 0 (as.map some ++ List.replicate (q.1 - as.length) none, [], M) Q := by
  have e1 : Tb y = q.2.2 := by unfold Tb; rw [List.getD_eq_getElem?_getD, hG]; rfl
  have e2 : Hs y = q.2.1 := by unfold Hs; rw [List.getD_eq_getElem?_getD, hG]; rfl
  obtain ⟨nL, hs, T⟩ := q
  refine propext ⟨?_, ?_⟩
  · rintro ⟨o, M', ⟨n, h⟩, hq⟩
    unfold exP at h
    rw [hG] at h
    dsimp only at h
    rw [if_pos ⟨h1, h2⟩] at h
    refine ⟨n, o, M', ?_, hq⟩
    rw [e1, e2]
    exact h
  · rintro ⟨n, o, M', h, hq⟩
    refine ⟨o, M', ⟨n, ?_⟩, hq⟩
    unfold exP
    rw [hG]
    dsimp only
    rw [if_pos ⟨h1, h2⟩]
    rw [e1, e2] at h
    exact h
theorem bw_eq {d y b : Nat} {c : pCfg} {Q : pOut → pMem → Prop} : bw d y b c Q = xw d y ((Tb y).getD b []) c Q := by
  refine propext ⟨?_, ?_⟩
  · rintro ⟨n, o, M', h, hq⟩
    cases n with
    | zero => cases h
    | succ n =>
      refine ⟨n + 1, o, M', ?_, hq⟩
      unfold exM at h
      exact exB_le (fun z as M r h => h) (fun b c r h => exM_le (fun z as M r h => h) n (n + 1) b c r (Nat.le_succ _) h) _ _ _ h
  · rintro ⟨n, o, M', h, hq⟩
    refine ⟨n + 1, o, M', ?_, hq⟩
    unfold exM
    exact exB_le (fun z as M r h => exP_le d n (n + 1) z as M r (Nat.le_succ _) h) (fun b c r h => exM_le (fun z as M r h => exP_le d n (n + 1) z as M r (Nat.le_succ _) h) n n b c r (Nat.le_refl _) h) _ _ _ h
/-- what goes on behind a call -/
def kont (d y : Nat) (es : List pEnt) (kind : Nat) (ls : pLo) (st : List Value) (Q : pOut → pMem → Prop) : pOut → pMem → Prop
  | .inl v, M' => xw d y es (ls, v.toList ++ st, M') Q
  | .inr k, M' => (kind = 10 ∨ kind = 20) ∧ (match Hs y with
    | [] => Q (.inr k) M'
    | _ => match pHnd k (Hs y) with
      | some (b, k9) => bw d y b (ls.set k9 none, [], M') Q
      | none => False)
/-- one entry -/
def xr (d y : Nat) (es : List pEnt) (kind : Nat) (Q : pOut → pMem → Prop) : Option pRes → Prop
  | some (.inl c') => xw d y es c' Q
  | some (.inr (.inl (b, c'))) => bw d y b c' Q
  | some (.inr (.inr (.inl (z, as, c')))) => mw d z as c'.2.2 (kont d y es kind c'.1 c'.2.1 Q)
  | some (.inr (.inr (.inr (o, M')))) => Q o M'
  | none => False
theorem xw_nil {d y : Nat} {c : pCfg} {Q : pOut → pMem → Prop} : xw d y [] c Q = False := by
  refine propext ⟨?_, False.elim⟩
  rintro ⟨n, o, M', h, hq⟩
  cases h
theorem xw_step {d y : Nat} {e : pEnt} {es : List pEnt} {c : pCfg} {Q : pOut → pMem → Prop} : xw d y (e :: es) c Q = xr d y es (e.2.2.2.headD 0) Q (stE e c) := by
  refine propext ⟨?_, ?_⟩
  · rintro ⟨n, o, M', h, hq⟩
    unfold exB at h
    split at h
    · rename_i c' hc
      rw [hc]
      exact ⟨n, o, M', h, hq⟩
    · rename_i b c' hc
      rw [hc]
      exact ⟨n, o, M', h, hq⟩
    · rename_i z as c' hc
      rw [hc]
      split at h
      · rename_i v M1 hv
        exact ⟨_, _, ⟨n, hv⟩, n, o, M', h, hq⟩
      · rename_i k M1 hv
        refine ⟨_, _, ⟨n, hv⟩, ?_⟩
        split at h
        · rename_i hk
          refine ⟨hk, ?_⟩
          split at h
          · rename_i hh
            try rw [hh]
            cases h
            exact hq
          · rename_i hne
            split at h
            · rename_i b k9 hb
              first
                | exact ⟨n, o, M', h, hq⟩
                | (split
                   · rename_i hh
                     exact absurd hh hne
                   · rw [hb]
                     exact ⟨n, o, M', h, hq⟩)
            · cases h
        · cases h
      · cases h
    · rename_i r hc
      rw [hc]
      cases h
      exact hq
    · cases h
  · intro h
    unfold xr at h
    split at h
    · rename_i c' hc
      obtain ⟨n, o, M', h, hq⟩ := h
      refine ⟨n, o, M', ?_, hq⟩
      unfold exB
      rw [hc]
      exact h
    · rename_i b c' hc
      obtain ⟨n, o, M', h, hq⟩ := h
      refine ⟨n, o, M', ?_, hq⟩
      unfold exB
      rw [hc]
      exact h
    · rename_i z as c' hc
      obtain ⟨o1, M1, hR, hk⟩ := h
      obtain ⟨n1, hR⟩ := Rn_le hR
      cases o1 with
      | inl v =>
        obtain ⟨n, o, M', h, hq⟩ := hk
        refine ⟨max n n1, o, M', ?_, hq⟩
        unfold exB
        rw [hc]
        dsimp only
        rw [show pF d (max n n1) z as c'.2.2 = some (.inl v, M1) from hR _ (Nat.le_max_right _ _)]
        exact exB_le (fun z as M r h => exP_le d n _ z as M r (Nat.le_max_left _ _) h) (fun b c r h => exM_le (fun z as M r h => exP_le d n _ z as M r (Nat.le_max_left _ _) h) n _ b c r (Nat.le_max_left _ _) h) _ _ _ h
      | inr k =>
        obtain ⟨hk, h⟩ := hk
        split at h
        · rename_i hh
          refine ⟨n1, _, M1, ?_, h⟩
          unfold exB
          rw [hc]
          dsimp only
          rw [show pF d n1 z as c'.2.2 = some (.inr k, M1) from hR _ (Nat.le_refl _)]
          dsimp only
          rw [if_pos hk, hh]
        · rename_i hne
          split at h
          · rename_i b k9 hb
            obtain ⟨n, o, M', h, hq⟩ := h
            refine ⟨max n n1, o, M', ?_, hq⟩
            unfold exB
            rw [hc]
            dsimp only
            rw [show pF d (max n n1) z as c'.2.2 = some (.inr k, M1) from hR _ (Nat.le_max_right _ _)]
            dsimp only
            rw [if_pos hk, hb]
            split
            · rename_i hh
              exact absurd hh hne
            · exact exM_le (fun z as M r h => exP_le d n _ z as M r (Nat.le_max_left _ _) h) n _ _ _ _ (Nat.le_max_left _ _) h
          · exact h.elim
    · rename_i o M' hc
      refine ⟨0, o, M', ?_, h⟩
      unfold exB
      rw [hc]
    · exact h.elim
theorem bw_mono {d y b : Nat} {c : pCfg} {Q Q' : pOut → pMem → Prop} (h : bw d y b c Q) (hq : ∀ o M', Q o M' → Q' o M') : bw d y b c Q' := by
  obtain ⟨n, o, M', h1, h2⟩ := h
  exact ⟨n, o, M', h1, hq _ _ h2⟩
