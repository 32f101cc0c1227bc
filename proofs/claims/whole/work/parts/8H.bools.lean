/-! THE MODEL'S YES OR NO FIELDS are 0 or 1, whatever runs -/
def BM (M : pMem) : Prop := ∀ h k, (gS M h).1 = 12 → 14 ≤ k ∧ k ≤ 16 → gI M h k = 0 ∨ gI M h k = 1
def okBs : List Nat → Bool
  | k :: rf :: _ :: _ :: _ :: ts => !(decide (14 ≤ k) && decide (k ≤ 16) && ts.contains 12) || decide (rf = 2)
  | _ => true
def okBl (e : pEnt) : Bool := match e.2.1 with
  | .putfield _ => okBs e.2.2.2
  | _ => true
theorem BM.sI {M : pMem} {h k : Nat} {x : Int32} (B : BM M) (hx : (gS M h).1 = 12 → 14 ≤ k ∧ k ≤ 16 → x = 0 ∨ x = 1) : BM (sI M h k x) := by
  intro h' k' hs hk
  rw [gI_sI]
  by_cases c : h' = h ∧ k' = k
  · rw [if_pos c]
    obtain ⟨rfl, rfl⟩ := c
    exact hx hs hk
  · rw [if_neg c]
    exact B h' k' hs hk
theorem BM.sR {M : pMem} {h : Nat} {r : Nat → Int32} (B : BM M) (hx : (gS M h).1 ≠ 12) : BM (sR M h r) := by
  intro h' k' hs hk
  rw [gI_sR]
  by_cases c : h' = h
  · subst c; exact absurd hs hx
  · rw [if_neg c]; exact B h' k' hs hk
theorem BM.nw {M : pMem} {t n w : Nat} (B : BM M) : BM (nw M t n w) := by
  intro h' k' hs hk
  by_cases c : h' = gN M
  · left
    show upR (gI M) (gN M) (fun _ => 0) h' k' = 0
    unfold upR; rw [if_pos c]
  · rw [gI_nwE c]
    rw [gS_nw, if_neg c] at hs
    exact B h' k' hs hk
theorem BM.nx {M : pMem} (B : BM M) : BM (nx M) := by
  intro h' k' hs hk
  have hs : (if h' = gN M then ((0 : Nat), (0 : Nat)) else gS M h').1 = 12 := hs
  by_cases c : h' = gN M
  · rw [if_pos c] at hs; cases hs
  · rw [if_neg c] at hs
    exact B h' k' hs hk
theorem pPut_bm {c : pCfg} {an : List Nat} {r : pRes} (h : pPut c an = some r) (hk : okBs an = true) (hB : BM c.2.2) : BM (rM r) := by
  obtain ⟨ls, st, M⟩ := c
  unfold pPut at h
  split at h
  · rename_i k rf w1 w2 w3 ts
    dsimp only at h
    split at h
    · rename_i x h9 r9
      split at h
      · rename_i hc
        cases h
        refine BM.sI (show BM M from hB) (fun hs hk9 => ?_)
        obtain ⟨h1, h2⟩ := hc
        have h3 : ts.contains 12 = true := by
          have : ts.contains (gS M h9).1 = true := h1
          rw [hs] at this; exact this
        have hk : (!(decide (14 ≤ k) && decide (k ≤ 16) && ts.contains 12) || decide (rf = 2)) = true := hk
        rw [h3, decide_eq_true hk9.1, decide_eq_true hk9.2] at hk
        simp at hk
        rcases h2 with h2 | ⟨-, h2⟩
        · omega
        · exact h2
      · cases h
    · split at h
      · cases h; exact hB
      · cases h
    · cases h
  · cases h
set_option maxHeartbeats 4000000 in
theorem stE_bm {e : pEnt} {c : pCfg} {r : pRes} (h : stE e c = some r) (hk : okBl e = true) (hB : BM c.2.2) : BM (rM r) := by
  obtain ⟨pc, i, n, an⟩ := e
  by_cases hp : ∃ idx, i = .putfield idx
  · obtain ⟨idx, rfl⟩ := hp
    exact pPut_bm (show pPut c an = some r from h) (show okBs an = true from hk) hB
  obtain ⟨ls, st, M⟩ := c
  have hB : BM M := hB
  unfold stE at h
  dsimp only at h
  split at h
  all_goals (try unfold pPush at h); (try unfold pLdI at h); (try unfold pLdA at h); (try unfold pStI at h); (try unfold pStA at h); (try unfold pInc at h); (try unfold pBin at h); (try unfold pDiv at h); (try unfold pUn at h); (try unfold pIf at h); (try unfold pCmp at h); (try unfold pNull at h); (try unfold pSw at h); (try unfold pGet at h); (try unfold pALd at h); (try unfold pASt at h); (try unfold pLLd at h); (try unfold pLSt at h); (try unfold pQLd at h); (try unfold pQSt at h); (try unfold pLen at h); (try unfold pNewA at h); (try unfold pInvV at h); (try unfold pInvS at h); (try unfold pCpy at h); (try unfold pObj at h); (try unfold pPush at h); (try dsimp only at h)
  all_goals repeat' (first | (obtain ⟨b9, hb9, h9⟩ := Option.bind_eq_some_iff.mp h; cases h9; exact hB) | split at h)
  all_goals first
    | (cases h; exact hB)
    | (cases h; exact hB.nw)
    | (cases h; exact hB.nx)
    | (cases h; exact hB.sI (fun hs _ => by simp_all))
    | (cases h; exact hB.sR (fun hs => by simp_all))
    | (cases h; done)
    | (exfalso; exact hp ⟨_, rfl⟩)
section EB
variable {F : Nat → List Value → pMem → Option (pOut × pMem)} {J : Nat → pCfg → Option (pOut × pMem)} {hs : List (Nat × Nat × Nat)}
theorem exB_bm (hF : ∀ z as M o M', F z as M = some (o, M') → BM M → BM M') (hJ : ∀ b c o M', J b c = some (o, M') → BM c.2.2 → BM M') : ∀ (es : List pEnt) (c : pCfg) (o : pOut) (M' : pMem), (∀ e ∈ es, okBl e = true) → exB F J hs es c = some (o, M') → BM c.2.2 → BM M' := by
  intro es
  induction es with
  | nil => intro c o M' _ h; cases h
  | cons e es ih =>
    intro c o M' hk h hB
    have hke := hk e List.mem_cons_self
    have ih := fun c o M' => ih c o M' (fun x hx => hk x (List.mem_cons_of_mem _ hx))
    unfold exB at h
    split at h
    · rename_i c' hc
      exact ih c' o M' h (stE_bm hc hke hB)
    · rename_i b c' hc
      exact hJ b c' o M' h (stE_bm hc hke hB)
    · rename_i y as c' hc
      have h1 := stE_bm hc hke hB
      split at h
      · rename_i v M1 hv
        exact ih _ o M' h (hF _ _ _ _ _ hv h1)
      · rename_i k M1 hv
        have h3 := hF _ _ _ _ _ hv h1
        split at h
        · split at h
          · cases h
            exact h3
          · split at h
            · rename_i b k9 hb
              exact hJ _ _ o M' h h3
            · cases h
        · cases h
      · cases h
    · rename_i r hc
      cases h
      exact stE_bm hc hke hB
    · cases h
theorem exM_bm {T : List (List pEnt)} (hT : ∀ es ∈ T, ∀ e ∈ es, okBl e = true) (hF : ∀ z as M o M', F z as M = some (o, M') → BM M → BM M') : ∀ (n b : Nat) (c : pCfg) (o : pOut) (M' : pMem), exM F T hs n b c = some (o, M') → BM c.2.2 → BM M' := by
  intro n
  induction n with
  | zero => intro b c o M' h; cases h
  | succ n ih =>
    intro b c o M' h hB
    unfold exM at h
    refine exB_bm hF ih _ c o M' (fun e he => ?_) h hB
    rw [List.getD_eq_getElem?_getD] at he
    cases hb : T[b]? with
    | none => rw [hb] at he; simp at he
    | some es => rw [hb] at he; exact hT es (List.mem_of_getElem? hb) e he
end EB
theorem okBl_all : (pG.all fun q => q.2.2.all fun es => es.all okBl) = true := by decide +kernel
theorem okBl_at {y : Nat} {q : pMeth} (h : pG[y]? = some q) : ∀ es ∈ q.2.2, ∀ e ∈ es, okBl e = true := by
  intro es hes e he
  exact List.all_eq_true.mp (List.all_eq_true.mp (List.all_eq_true.mp okBl_all q (List.mem_of_getElem? h)) es hes) e he
theorem pB0_M {y : Nat} {as : List Value} {M : pMem} {o : pOut} {M' : pMem} (h : pB0 y as M = some (o, M')) : M' = M := by
  unfold pB0 at h
  split at h
  · split at h
    · split at h
      · cases h; rfl
      · cases h
    · cases h
  · split at h
    · split at h
      · split at h
        · cases h; rfl
        · cases h
      · cases h
    · cases h
theorem exP_bm : ∀ (d n y : Nat) (as : List Value) (M : pMem) (o : pOut) (M' : pMem), exP pG pB0 d n y as M = some (o, M') → BM M → BM M' := by
  intro d
  induction d with
  | zero => intro n y as M o M' h; cases h
  | succ d ih =>
    intro n y as M o M' h hB
    unfold exP at h
    split at h
    · rename_i nL hs T hG
      split at h
      · exact exM_bm (okBl_at hG) (fun z as M o M' h => ih n z as M o M' h) n 0 _ o M' h hB
      · cases h
    · rw [pB0_M h]; exact hB
theorem mw_bm {d y : Nat} {as : List Value} {M : pMem} {Q : pOut → pMem → Prop} (h : mw d y as M Q) (hB : BM M) : mw d y as M (fun o M' => Q o M' ∧ BM M') := by
  obtain ⟨o, M', ⟨n, h1⟩, h2⟩ := h
  exact ⟨o, M', ⟨n, h1⟩, h2, exP_bm d n y as M o M' h1 hB⟩
