/-! EACH INSTRUCTION: the pure step is the machine's -/
section SA
variable {base : Nat} {sp : Nat → Nat}
def lR (base : Nat) (sp : Nat → Nat) (ls : pLo) (Ls : Array Slot) (nL : Nat) : Prop := ls.length = nL ∧ Ls.size = nL ∧ lv_wf Ls ∧ ∀ (i : Nat) (v : Value), ls[i]? = some (some v) → pCat1 v = true ∧ Ls[i]? = some (.val (pTr base sp v))
def lPr (base : Nat) (sp : Nat → Nat) (ls : pLo) : List (Nat × Value) := (List.range ls.length).filterMap (fun i => match ls[i]? with
  | some (some v) => some (i, pTr base sp v)
  | _ => none)
theorem lPr_mem {ls : pLo} {q : Nat × Value} : q ∈ lPr base sp ls ↔ ∃ v, ls[q.1]? = some (some v) ∧ q.2 = pTr base sp v := by
  unfold lPr
  rw [List.mem_filterMap]
  constructor
  · rintro ⟨i, hi, h⟩
    split at h
    · rename_i v hv
      cases h
      exact ⟨v, hv, rfl⟩
    · cases h
  · rintro ⟨v, hv, h2⟩
    have hlt : q.1 < ls.length := (List.getElem?_eq_some_iff.mp hv).1
    exact ⟨q.1, List.mem_range.mpr hlt, by rw [hv]; dsimp only; rw [← h2]⟩
theorem pTr_cat {v : Value} (h : pCat1 v = true) : (pTr base sp v).category = 1 := by
  cases v <;> first | rfl | cases h
theorem pTr_cat' (v : Value) : (pTr base sp v).category = v.category := by
  cases v <;> rfl
theorem lR.has {ls : pLo} {Ls : Array Slot} {nL : Nat} (h : lR base sp ls Ls nL) : lv_has Ls nL (lPr base sp ls) := by
  refine ⟨h.2.1, h.2.2.1, fun q hq => ?_⟩
  obtain ⟨v, hv, h2⟩ := lPr_mem.mp hq
  rw [h2]
  exact (h.2.2.2 _ _ hv).2
theorem lR.set {ls : pLo} {Ls Ls' : Array Slot} {nL k : Nat} {v : Value} {w : Value} (h : lR base sp ls Ls nL) (hw : w = pTr base sp v) (hc : pCat1 v = true) (h' : lv_has Ls' nL ((k, w) :: (lPr base sp ls).filter (fun q => !(q.1 == k) && !(q.1 + 1 == k && q.2.category == 2)))) : lR base sp (ls.set k (some v)) Ls' nL := by
  obtain ⟨a1, a2, a3⟩ := h'
  refine ⟨by rw [List.length_set]; exact h.1, a1, a2, fun i u hi => ?_⟩
  by_cases e : k = i
  · subst e
    have hlt : k < ls.length := by
      have := (List.getElem?_eq_some_iff.mp hi).1
      rw [List.length_set] at this
      exact this
    rw [List.getElem?_set_self hlt] at hi
    cases hi
    exact ⟨hc, by rw [← hw]; exact a3 _ List.mem_cons_self⟩
  · rw [List.getElem?_set_ne e] at hi
    refine ⟨(h.2.2.2 _ _ hi).1, a3 (i, pTr base sp u) (List.mem_cons_of_mem _ (List.mem_filter.mpr ⟨lPr_mem.mpr ⟨u, hi, rfl⟩, ?_⟩))⟩
    have hc2 : (pTr base sp u).category = 1 := pTr_cat (h.2.2.2 _ _ hi).1
    have e2 : (i == k) = false := by simp; omega
    simp [e2, hc2]
/-- what a catch leaves: the handler's local is forgotten -/
theorem lR.drop {ls : pLo} {Ls Ls' : Array Slot} {nL k : Nat} {w : Value} (h : lR base sp ls Ls nL) (h' : lv_has Ls' nL ((k, w) :: (lPr base sp ls).filter (fun q => !(q.1 == k) && !(q.1 + 1 == k && q.2.category == 2)))) : lR base sp (ls.set k none) Ls' nL := by
  obtain ⟨a1, a2, a3⟩ := h'
  refine ⟨by rw [List.length_set]; exact h.1, a1, a2, fun i u hi => ?_⟩
  by_cases e : k = i
  · subst e
    have hlt : k < ls.length := by
      have := (List.getElem?_eq_some_iff.mp hi).1
      rw [List.length_set] at this
      exact this
    rw [List.getElem?_set_self hlt] at hi
    cases hi
  · rw [List.getElem?_set_ne e] at hi
    refine ⟨(h.2.2.2 _ _ hi).1, a3 (i, pTr base sp u) (List.mem_cons_of_mem _ (List.mem_filter.mpr ⟨lPr_mem.mpr ⟨u, hi, rfl⟩, ?_⟩))⟩
    have hc2 : (pTr base sp u).category = 1 := pTr_cat (h.2.2.2 _ _ hi).1
    have e2 : (i == k) = false := by simp; omega
    simp [e2, hc2]
end SA
/-- the lengths of the instructions that the pure machine knows -/
def pLen1 : Instr → Nat
  | .iconst _ => 1
  | .bipush _ => 2
  | .sipush _ => 3
  | .lconst _ => 1
  | .aconst_null => 1
  | .ldc _ => 2
  | .ldc_w _ => 3
  | .iload _ => 2
  | .iload_n _ => 1
  | .aload _ => 2
  | .aload_n _ => 1
  | .istore _ => 2
  | .istore_n _ => 1
  | .astore _ => 2
  | .astore_n _ => 1
  | .iinc _ _ => 3
  | .iadd => 1
  | .isub => 1
  | .imul => 1
  | .iand => 1
  | .ior => 1
  | .ixor => 1
  | .ishl => 1
  | .ishr => 1
  | .iushr => 1
  | .idiv => 1
  | .irem => 1
  | .ineg => 1
  | .i2l => 1
  | .lcmp => 1
  | .dup => 1
  | .dup2 => 1
  | .pop => 1
  | .ifCond _ _ => 3
  | .if_icmp _ _ => 3
  | .ifnull _ => 3
  | .ifnonnull _ => 3
  | .goto _ => 3
  | .getfield _ => 3
  | .putfield _ => 3
  | .iaload => 1
  | .iastore => 1
  | .laload => 1
  | .lastore => 1
  | .aaload => 1
  | .aastore => 1
  | .arraylength => 1
  | .newarray _ => 2
  | .anewarray _ => 3
  | .new _ => 3
  | .invokespecial _ => 3
  | .invokevirtual _ => 3
  | .invokestatic _ => 3
  | .ireturn => 1
  | .areturn => 1
  | .return_ => 1
  | _ => 0
section SB
variable {p : Program} {l : Launch} {e : Env} {R : Room} {s : State} {m : MethodId} {args : Array Value} {below : List Frame} {meth : Method} {c : Code} {H : Heap} {locs : List Loc} {cells slots : Nat} {Q : State → Prop}
variable {base : Nat} {sp : Nat → Nat} {cc : ByteArray} {pc : Nat} {Ls : Array Slot} {nL : Nat} {ls ls' : pLo} {st st' : List Value} {M M' : pMem}
/-- the instructions that touch locals and stack alone -/
def pEasy : Instr → Bool
  | .iconst _ => true
  | .bipush n => decide ((Int8.ofInt n).toInt32 = iN n)
  | .sipush n => decide ((Int16.ofInt n).toInt32 = iN n)
  | .lconst _ => true
  | .aconst_null => true
  | .iload _ => true
  | .iload_n _ => true
  | .aload _ => true
  | .aload_n _ => true
  | .istore _ => true
  | .istore_n _ => true
  | .astore _ => true
  | .astore_n _ => true
  | .iinc _ _ => true
  | .iadd => true
  | .isub => true
  | .imul => true
  | .iand => true
  | .ior => true
  | .ixor => true
  | .ishl => true
  | .ishr => true
  | .iushr => true
  | .idiv => true
  | .irem => true
  | .ineg => true
  | .i2l => true
  | .lcmp => true
  | .dup => true
  | .dup2 => true
  | .pop => true
  | _ => false
theorem se_push {v w : Value} (h : pPush (ls, st, M) v = some (.inl (ls', st', M'))) (hw : w = pTr base sp v)
    (kk : ∀ Ls', lR base sp ls' Ls' nL → W p l e R s m args below meth c H locs cells slots Q (F0 m pc Ls' (st'.map (pTr base sp)))) (hL : lR base sp ls Ls nL) : M' = M ∧ W p l e R s m args below meth c H locs cells slots Q (F0 m pc Ls (w :: st.map (pTr base sp))) := by
  cases h
  subst hw
  exact ⟨rfl, kk Ls hL⟩
theorem se_ldI {k : Nat} (h : pLdI (ls, st, M) k = some (.inl (ls', st', M'))) (hL : lR base sp ls Ls nL) : ∃ x, ls' = ls ∧ st' = .int x :: st ∧ M' = M ∧ Ls[k]? = some (.val (.int x)) := by
  unfold pLdI at h
  split at h
  · rename_i x hx
    cases h
    exact ⟨x, rfl, rfl, rfl, (hL.2.2.2 _ _ hx).2⟩
  · cases h
theorem se_ldA {k : Nat} (h : pLdA (ls, st, M) k = some (.inl (ls', st', M'))) (hL : lR base sp ls Ls nL) : (∃ x, ls' = ls ∧ st' = .ref x :: st ∧ M' = M ∧ Ls[k]? = some (.val (.ref (pAd base sp x)))) ∨ (ls' = ls ∧ st' = .null :: st ∧ M' = M ∧ Ls[k]? = some (.val .null)) := by
  unfold pLdA at h
  split at h
  · rename_i x hx
    cases h
    exact Or.inl ⟨x, rfl, rfl, rfl, (hL.2.2.2 _ _ hx).2⟩
  · rename_i hx
    cases h
    exact Or.inr ⟨rfl, rfl, rfl, (hL.2.2.2 _ _ hx).2⟩
  · cases h
theorem se_stI {k : Nat} (h : pStI (ls, st, M) k = some (.inl (ls', st', M'))) : ∃ x, ls' = ls.set k (some (.int x)) ∧ st = .int x :: st' ∧ M' = M ∧ k < ls.length := by
  unfold pStI at h
  split at h
  · rename_i x r hx
    split at h
    · rename_i hk
      cases h
      exact ⟨x, rfl, hx, rfl, hk⟩
    · cases h
  · cases h
theorem se_stA {k : Nat} (h : pStA (ls, st, M) k = some (.inl (ls', st', M'))) : (∃ x, ls' = ls.set k (some (.ref x)) ∧ st = .ref x :: st' ∧ M' = M ∧ k < ls.length) ∨ (ls' = ls.set k (some .null) ∧ st = .null :: st' ∧ M' = M ∧ k < ls.length) := by
  unfold pStA at h
  split at h
  · rename_i x r hx
    split at h
    · rename_i hk
      cases h
      exact Or.inl ⟨x, rfl, hx, rfl, hk⟩
    · cases h
  · rename_i r hx
    split at h
    · rename_i hk
      cases h
      exact Or.inr ⟨rfl, hx, rfl, hk⟩
    · cases h
  · cases h
theorem se_inc {k : Nat} {n : Int} (h : pInc (ls, st, M) k n = some (.inl (ls', st', M'))) : ∃ x, ls' = ls.set k (some (.int (x + iN n))) ∧ st = st' ∧ M' = M ∧ ls[k]? = some (some (.int x)) := by
  unfold pInc at h
  split at h
  · rename_i x hx
    cases h
    exact ⟨x, rfl, rfl, rfl, hx⟩
  · cases h
theorem se_un {f : Int32 → Int32} (h : pUn (ls, st, M) f = some (.inl (ls', st', M'))) : ∃ x r, ls' = ls ∧ st = .int x :: r ∧ st' = .int (f x) :: r ∧ M' = M := by
  unfold pUn at h
  split at h
  · rename_i x r hx
    cases h
    exact ⟨x, r, rfl, hx, rfl, rfl⟩
  · cases h
theorem se_bin {f : Int32 → Int32 → Int32} (h : pBin (ls, st, M) f = some (.inl (ls', st', M'))) : ∃ x y r, ls' = ls ∧ st = .int y :: .int x :: r ∧ st' = .int (f x y) :: r ∧ M' = M := by
  unfold pBin at h
  split at h
  · rename_i x y r hx
    cases h
    exact ⟨_, _, r, rfl, hx, rfl, rfl⟩
  · cases h
theorem se_div {f : Int32 → Int32 → Int32} (h : pDiv (ls, st, M) f = some (.inl (ls', st', M'))) : ∃ x y r, ls' = ls ∧ st = .int y :: .int x :: r ∧ st' = .int (f x y) :: r ∧ M' = M ∧ ¬ y = 0 := by
  unfold pDiv at h
  split at h
  · rename_i x y r hx
    split at h
    · cases h
    · rename_i hy
      cases h
      exact ⟨_, _, r, rfl, hx, rfl, rfl, hy⟩
  · cases h
end SB
