section SD
variable {p : Program} {l : Launch} {e : Env} {R : Room} {s : State} {m : MethodId} {args : Array Value} {below : List Frame} {meth : Method} {c : Code} {H : Heap} {locs : List Loc} {cells slots : Nat} {Q : State → Prop}
variable {base : Nat} {sp : Nat → Nat} {cc : ByteArray} {pc : Nat} {Ls : Array Slot} {ls : pLo} {st : List Value} {M : pMem} {bl : List Nat}
theorem se_if {b : Nat} {f : Int32 → Bool} {r : pRes} (h : pIf (ls, st, M) b f = some r) : ∃ x st', st = .int x :: st' ∧ ((f x = true ∧ r = .inr (.inl (b, ls, st', M))) ∨ (¬ f x = true ∧ r = .inl (ls, st', M))) := by
  unfold pIf at h
  dsimp only at h
  split at h
  · rename_i x st'
    refine ⟨x, st', rfl, ?_⟩
    split at h
    · rename_i hf
      cases h
      exact Or.inl ⟨hf, rfl⟩
    · rename_i hf
      cases h
      exact Or.inr ⟨hf, rfl⟩
  · cases h
theorem se_cmp {b : Nat} {f : Int32 → Int32 → Bool} {r : pRes} (h : pCmp (ls, st, M) b f = some r) : ∃ x y st', st = .int y :: .int x :: st' ∧ ((f x y = true ∧ r = .inr (.inl (b, ls, st', M))) ∨ (¬ f x y = true ∧ r = .inl (ls, st', M))) := by
  unfold pCmp at h
  dsimp only at h
  split at h
  · rename_i y x st'
    refine ⟨x, y, st', rfl, ?_⟩
    split at h
    · rename_i hf
      cases h
      exact Or.inl ⟨hf, rfl⟩
    · rename_i hf
      cases h
      exact Or.inr ⟨hf, rfl⟩
  · cases h
theorem se_sw {f : Int32 → Option Nat} {r : pRes} (h : pSw (ls, st, M) f = some r) : ∃ x st' b, st = .int x :: st' ∧ f x = some b ∧ r = .inr (.inl (b, ls, st', M)) := by
  unfold pSw at h
  dsimp only at h
  split at h
  · rename_i x st'
    cases hf : f x with
    | none => rw [hf] at h; cases h
    | some b =>
      rw [hf] at h
      cases h
      exact ⟨x, st', b, rfl, hf, rfl⟩
  · cases h
theorem se_null {b : Nat} {q : Bool} {r : pRes} (h : pNull (ls, st, M) b q = some r) : (∃ x st', st = .ref x :: st' ∧ ((q = true ∧ r = .inl (ls, st', M)) ∨ (q = false ∧ r = .inr (.inl (b, ls, st', M))))) ∨ (∃ st', st = .null :: st' ∧ ((q = true ∧ r = .inr (.inl (b, ls, st', M))) ∨ (q = false ∧ r = .inl (ls, st', M)))) := by
  unfold pNull at h
  dsimp only at h
  split at h
  · rename_i x st'
    refine Or.inl ⟨x, st', rfl, ?_⟩
    cases q
    · cases h; exact Or.inr ⟨rfl, rfl⟩
    · cases h; exact Or.inl ⟨rfl, rfl⟩
  · rename_i st'
    refine Or.inr ⟨st', rfl, ?_⟩
    cases q
    · cases h; exact Or.inr ⟨rfl, rfl⟩
    · cases h; exact Or.inl ⟨rfl, rfl⟩
  · cases h
theorem simBr {i : Instr} {n : Nat} {an : List Nat} {r : pRes} (hB : pBrOK pc i n an bl = true) (h : stE (pc, i, n, an) (ls, st, M) = some r) (hd : decode cc pc = .ok (i, n)) (hx : p.tables.exec = Jvm.exec) (hb : c.code = cc)
    (kN : ∀ st', r = .inl (ls, st', M) → W p l e R s m args below meth c H locs cells slots Q (F0 m (pc + n) Ls (st'.map (pTr base sp))))
    (kJ : ∀ b st', r = .inr (.inl (b, ls, st', M)) → W p l e R s m args below meth c H locs cells slots Q (F0 m (bl.getD b 0) Ls (st'.map (pTr base sp)))) : W p l e R s m args below meth c H locs cells slots Q (F0 m pc Ls (st.map (pTr base sp))) := by
  cases i
  case ifCond cond off =>
    obtain ⟨rfl, ht⟩ := of_decide_eq_true hB
    cases cond
    case eq =>
      obtain ⟨x, st', rfl, hc⟩ := se_if h
      refine lv_if_eq hx hb hd ht (fun q => ?_) (fun q => ?_)
      · rcases hc with ⟨-, hr⟩ | ⟨hf, -⟩
        · exact kJ _ _ hr
        · exact absurd (decide_eq_true q) hf
      · rcases hc with ⟨hf, -⟩ | ⟨-, hr⟩
        · first | exact absurd (of_decide_eq_true hf) q | exact absurd q (of_decide_eq_true hf)
        · exact kN _ hr
    case ne =>
      obtain ⟨x, st', rfl, hc⟩ := se_if h
      refine lv_if_ne hx hb hd ht (fun q => ?_) (fun q => ?_)
      · rcases hc with ⟨-, hr⟩ | ⟨hf, -⟩
        · exact kJ _ _ hr
        · exact absurd (decide_eq_true q) hf
      · rcases hc with ⟨hf, -⟩ | ⟨-, hr⟩
        · first | exact absurd (of_decide_eq_true hf) q | exact absurd q (of_decide_eq_true hf)
        · exact kN _ hr
    case lt =>
      obtain ⟨x, st', rfl, hc⟩ := se_if h
      refine lv_if_lt hx hb hd ht (fun q => ?_) (fun q => ?_)
      · rcases hc with ⟨-, hr⟩ | ⟨hf, -⟩
        · exact kJ _ _ hr
        · exact absurd (decide_eq_true q) hf
      · rcases hc with ⟨hf, -⟩ | ⟨-, hr⟩
        · first | exact absurd (of_decide_eq_true hf) q | exact absurd q (of_decide_eq_true hf)
        · exact kN _ hr
    case ge =>
      obtain ⟨x, st', rfl, hc⟩ := se_if h
      refine lv_if_ge hx hb hd ht (fun q => ?_) (fun q => ?_)
      · rcases hc with ⟨-, hr⟩ | ⟨hf, -⟩
        · exact kJ _ _ hr
        · exact absurd (decide_eq_true q) hf
      · rcases hc with ⟨hf, -⟩ | ⟨-, hr⟩
        · first | exact absurd (of_decide_eq_true hf) q | exact absurd q (of_decide_eq_true hf)
        · exact kN _ hr
    case gt =>
      obtain ⟨x, st', rfl, hc⟩ := se_if h
      refine lv_if_gt hx hb hd ht (fun q => ?_) (fun q => ?_)
      · rcases hc with ⟨-, hr⟩ | ⟨hf, -⟩
        · exact kJ _ _ hr
        · exact absurd (decide_eq_true q) hf
      · rcases hc with ⟨hf, -⟩ | ⟨-, hr⟩
        · first | exact absurd (of_decide_eq_true hf) q | exact absurd q (of_decide_eq_true hf)
        · exact kN _ hr
    case le =>
      obtain ⟨x, st', rfl, hc⟩ := se_if h
      refine lv_if_le hx hb hd ht (fun q => ?_) (fun q => ?_)
      · rcases hc with ⟨-, hr⟩ | ⟨hf, -⟩
        · exact kJ _ _ hr
        · exact absurd (decide_eq_true q) hf
      · rcases hc with ⟨hf, -⟩ | ⟨-, hr⟩
        · first | exact absurd (of_decide_eq_true hf) q | exact absurd q (of_decide_eq_true hf)
        · exact kN _ hr
  case if_icmp cond off =>
    obtain ⟨rfl, ht⟩ := of_decide_eq_true hB
    cases cond
    case eq =>
      obtain ⟨x, y, st', rfl, hc⟩ := se_cmp h
      refine lv_icmp_eq hx hb hd ht (fun q => ?_) (fun q => ?_)
      · rcases hc with ⟨-, hr⟩ | ⟨hf, -⟩
        · exact kJ _ _ hr
        · exact absurd (decide_eq_true q) hf
      · rcases hc with ⟨hf, -⟩ | ⟨-, hr⟩
        · first | exact absurd (of_decide_eq_true hf) q | exact absurd q (of_decide_eq_true hf)
        · exact kN _ hr
    case ne =>
      obtain ⟨x, y, st', rfl, hc⟩ := se_cmp h
      refine lv_icmp_ne hx hb hd ht (fun q => ?_) (fun q => ?_)
      · rcases hc with ⟨-, hr⟩ | ⟨hf, -⟩
        · exact kJ _ _ hr
        · exact absurd (decide_eq_true q) hf
      · rcases hc with ⟨hf, -⟩ | ⟨-, hr⟩
        · first | exact absurd (of_decide_eq_true hf) q | exact absurd q (of_decide_eq_true hf)
        · exact kN _ hr
    case lt =>
      obtain ⟨x, y, st', rfl, hc⟩ := se_cmp h
      refine lv_icmp_lt hx hb hd ht (fun q => ?_) (fun q => ?_)
      · rcases hc with ⟨-, hr⟩ | ⟨hf, -⟩
        · exact kJ _ _ hr
        · exact absurd (decide_eq_true q) hf
      · rcases hc with ⟨hf, -⟩ | ⟨-, hr⟩
        · first | exact absurd (of_decide_eq_true hf) q | exact absurd q (of_decide_eq_true hf)
        · exact kN _ hr
    case ge =>
      obtain ⟨x, y, st', rfl, hc⟩ := se_cmp h
      refine lv_icmp_ge hx hb hd ht (fun q => ?_) (fun q => ?_)
      · rcases hc with ⟨-, hr⟩ | ⟨hf, -⟩
        · exact kJ _ _ hr
        · exact absurd (decide_eq_true q) hf
      · rcases hc with ⟨hf, -⟩ | ⟨-, hr⟩
        · first | exact absurd (of_decide_eq_true hf) q | exact absurd q (of_decide_eq_true hf)
        · exact kN _ hr
    case gt =>
      obtain ⟨x, y, st', rfl, hc⟩ := se_cmp h
      refine lv_icmp_gt hx hb hd ht (fun q => ?_) (fun q => ?_)
      · rcases hc with ⟨-, hr⟩ | ⟨hf, -⟩
        · exact kJ _ _ hr
        · exact absurd (decide_eq_true q) hf
      · rcases hc with ⟨hf, -⟩ | ⟨-, hr⟩
        · first | exact absurd (of_decide_eq_true hf) q | exact absurd q (of_decide_eq_true hf)
        · exact kN _ hr
    case le =>
      obtain ⟨x, y, st', rfl, hc⟩ := se_cmp h
      refine lv_icmp_le hx hb hd ht (fun q => ?_) (fun q => ?_)
      · rcases hc with ⟨-, hr⟩ | ⟨hf, -⟩
        · exact kJ _ _ hr
        · exact absurd (decide_eq_true q) hf
      · rcases hc with ⟨hf, -⟩ | ⟨-, hr⟩
        · first | exact absurd (of_decide_eq_true hf) q | exact absurd q (of_decide_eq_true hf)
        · exact kN _ hr
  case ifnull off =>
    obtain ⟨rfl, ht⟩ := of_decide_eq_true hB
    rcases se_null h with ⟨x, st', rfl, ⟨-, hr⟩ | ⟨h9, -⟩⟩ | ⟨st', rfl, ⟨-, hr⟩ | ⟨h9, -⟩⟩
    · exact lv_ifnull hx hb hd (kN _ hr)
    · cases h9
    · exact lv_ifnullN hx hb hd ht (kJ _ _ hr)
    · cases h9
  case ifnonnull off =>
    obtain ⟨rfl, ht⟩ := of_decide_eq_true hB
    rcases se_null h with ⟨x, st', rfl, ⟨h9, -⟩ | ⟨-, hr⟩⟩ | ⟨st', rfl, ⟨h9, -⟩ | ⟨-, hr⟩⟩
    · cases h9
    · exact lv_ifnonnull hx hb hd ht (kJ _ _ hr)
    · cases h9
    · exact lv_ifnonnullN hx hb hd (kN _ hr)
  case goto off =>
    obtain ⟨rfl, ht⟩ := of_decide_eq_true hB
    cases h
    exact lv_goto hx hb hd ht (kJ _ _ rfl)
  case tableswitch d lo hi offs =>
    obtain ⟨x, st', b, rfl, hf, hr⟩ := se_sw h
    split at hf
    · rename_i ho
      obtain ⟨o, h1, h2⟩ := pTb_of _ _ hB 0 b (by rw [← List.head?_eq_getElem?]; exact hf)
      cases h1
      exact lv_tableOut hx hb hd ho h2 (kJ _ _ hr)
    · rename_i ho
      obtain ⟨o, h1, h2⟩ := pTb_of _ _ hB _ b hf
      refine lv_tableIn hx hb hd (fun q => ho (Or.inl q)) (fun q => ho (Or.inr q)) (off := o) ?_ h2 (kJ _ _ hr)
      simpa using h1
  case lookupswitch d ps =>
    obtain ⟨x, st', b, rfl, hf, hr⟩ := se_sw h
    simp only [pBrOK, Bool.and_eq_true, decide_eq_true_eq] at hB
    exact lv_lookup hx hb hd hB.1.1 rfl (pLk_of hB.1.2 _ _ hB.2 hf) (kJ _ _ hr)
  all_goals cases hB
end SD
