/-! handles and slots only grow -/
def rM : pRes → pMem
  | .inl c => c.2.2
  | .inr (.inl q) => q.2.2.2
  | .inr (.inr (.inl q)) => q.2.2.2.2
  | .inr (.inr (.inr q)) => q.2
set_option maxHeartbeats 4000000 in
theorem stE_mono {e : pEnt} {c : pCfg} {r : pRes} (h : stE e c = some r) : gN c.2.2 ≤ gN (rM r) ∧ gL c.2.2 ≤ gL (rM r) := by
  obtain ⟨pc, i, n, an⟩ := e
  obtain ⟨ls, st, M⟩ := c
  have go : ∀ {c' : pCfg}, gN M ≤ gN c'.2.2 → gL M ≤ gL c'.2.2 → gN M ≤ gN (rM (.inl c')) ∧ gL M ≤ gL (rM (.inl c')) := fun a b => ⟨a, b⟩
  unfold stE at h
  dsimp only at h
  split at h
  all_goals (try unfold pPush at h); (try unfold pLdI at h); (try unfold pLdA at h); (try unfold pStI at h); (try unfold pStA at h); (try unfold pInc at h); (try unfold pBin at h); (try unfold pDiv at h); (try unfold pUn at h); (try unfold pIf at h); (try unfold pCmp at h); (try unfold pNull at h); (try unfold pSw at h); (try unfold pGet at h); (try unfold pPut at h); (try unfold pALd at h); (try unfold pASt at h); (try unfold pLLd at h); (try unfold pLSt at h); (try unfold pQLd at h); (try unfold pQSt at h); (try unfold pLen at h); (try unfold pNewA at h); (try unfold pInvV at h); (try unfold pInvS at h); (try unfold pCpy at h); (try unfold pObj at h); (try unfold pPush at h); (try dsimp only at h)
  all_goals repeat' (first | (obtain ⟨b9, hb9, h9⟩ := Option.bind_eq_some_iff.mp h; cases h9; exact ⟨Nat.le_refl _, Nat.le_refl _⟩) | split at h)
  all_goals first
    | (cases h; exact ⟨Nat.le_refl _, Nat.le_refl _⟩)
    | (cases h; exact ⟨Nat.le_succ _, Nat.le_add_right _ _⟩)
    | (cases h)
set_option maxHeartbeats 4000000 in
theorem easy_inl {pc n : Nat} {i : Instr} {an : List Nat} {c : pCfg} {r : pRes} (hE : pEasy i = true) (h : stE (pc, i, n, an) c = some r) : ∃ c', r = .inl c' := by
  unfold stE at h
  dsimp only at h
  cases i
  all_goals first
    | (cases hE; done)
    | skip
  all_goals dsimp only at h
  all_goals (try unfold pLdI at h); (try unfold pLdA at h); (try unfold pStI at h); (try unfold pStA at h); (try unfold pInc at h); (try unfold pBin at h); (try unfold pDiv at h); (try unfold pUn at h); (try unfold pPush at h); (try dsimp only at h)
  all_goals repeat' split at h
  all_goals first
    | (cases h; exact ⟨_, rfl⟩)
    | (cases h)
