section SC
variable {p : Program} {l : Launch} {e : Env} {R : Room} {s : State} {m : MethodId} {args : Array Value} {below : List Frame} {meth : Method} {c : Code} {H : Heap} {locs : List Loc} {cells slots : Nat} {Q : State → Prop}
variable {base : Nat} {sp : Nat → Nat} {cc : ByteArray} {pc : Nat} {Ls : Array Slot} {nL : Nat} {ls ls' : pLo} {st st' : List Value} {M M' : pMem}

theorem si_iconst {k : Int} {n : Nat} {an : List Nat} (h : stE (pc, .iconst k, n, an) (ls, st, M) = some (.inl (ls', st', M'))) (hE : pEasy (.iconst k) = true) (hn : 1 = n) (hd : decode cc pc = .ok (.iconst k, n)) (hx : p.tables.exec = Jvm.exec) (hb : c.code = cc) (hL : lR base sp ls Ls nL)
    (kk : ∀ Ls', lR base sp ls' Ls' nL → W p l e R s m args below meth c H locs cells slots Q (F0 m (pc + n) Ls' (st'.map (pTr base sp)))) : W p l e R s m args below meth c H locs cells slots Q (F0 m pc Ls (st.map (pTr base sp))) := by
  subst hn
  cases h
  exact lv_iconst hx hb hd rfl (kk Ls hL)
theorem sm_iconst {k : Int} {n : Nat} {an : List Nat} (h : stE (pc, .iconst k, n, an) (ls, st, M) = some (.inl (ls', st', M'))) : M' = M := by
  cases h
  rfl
theorem si_bipush {k : Int} {n : Nat} {an : List Nat} (h : stE (pc, .bipush k, n, an) (ls, st, M) = some (.inl (ls', st', M'))) (hE : pEasy (.bipush k) = true) (hn : 2 = n) (hd : decode cc pc = .ok (.bipush k, n)) (hx : p.tables.exec = Jvm.exec) (hb : c.code = cc) (hL : lR base sp ls Ls nL)
    (kk : ∀ Ls', lR base sp ls' Ls' nL → W p l e R s m args below meth c H locs cells slots Q (F0 m (pc + n) Ls' (st'.map (pTr base sp)))) : W p l e R s m args below meth c H locs cells slots Q (F0 m pc Ls (st.map (pTr base sp))) := by
  subst hn
  cases h
  exact lv_bipush hx hb hd (of_decide_eq_true hE) (kk Ls hL)
theorem sm_bipush {k : Int} {n : Nat} {an : List Nat} (h : stE (pc, .bipush k, n, an) (ls, st, M) = some (.inl (ls', st', M'))) : M' = M := by
  cases h
  rfl
theorem si_sipush {k : Int} {n : Nat} {an : List Nat} (h : stE (pc, .sipush k, n, an) (ls, st, M) = some (.inl (ls', st', M'))) (hE : pEasy (.sipush k) = true) (hn : 3 = n) (hd : decode cc pc = .ok (.sipush k, n)) (hx : p.tables.exec = Jvm.exec) (hb : c.code = cc) (hL : lR base sp ls Ls nL)
    (kk : ∀ Ls', lR base sp ls' Ls' nL → W p l e R s m args below meth c H locs cells slots Q (F0 m (pc + n) Ls' (st'.map (pTr base sp)))) : W p l e R s m args below meth c H locs cells slots Q (F0 m pc Ls (st.map (pTr base sp))) := by
  subst hn
  cases h
  exact lv_sipush hx hb hd (of_decide_eq_true hE) (kk Ls hL)
theorem sm_sipush {k : Int} {n : Nat} {an : List Nat} (h : stE (pc, .sipush k, n, an) (ls, st, M) = some (.inl (ls', st', M'))) : M' = M := by
  cases h
  rfl
theorem si_lconst {k : Fin 2} {n : Nat} {an : List Nat} (h : stE (pc, .lconst k, n, an) (ls, st, M) = some (.inl (ls', st', M'))) (hE : pEasy (.lconst k) = true) (hn : 1 = n) (hd : decode cc pc = .ok (.lconst k, n)) (hx : p.tables.exec = Jvm.exec) (hb : c.code = cc) (hL : lR base sp ls Ls nL)
    (kk : ∀ Ls', lR base sp ls' Ls' nL → W p l e R s m args below meth c H locs cells slots Q (F0 m (pc + n) Ls' (st'.map (pTr base sp)))) : W p l e R s m args below meth c H locs cells slots Q (F0 m pc Ls (st.map (pTr base sp))) := by
  subst hn
  cases h
  exact lv_lconst hx hb hd rfl (kk Ls hL)
theorem sm_lconst {k : Fin 2} {n : Nat} {an : List Nat} (h : stE (pc, .lconst k, n, an) (ls, st, M) = some (.inl (ls', st', M'))) : M' = M := by
  cases h
  rfl
theorem si_null {n : Nat} {an : List Nat} (h : stE (pc, .aconst_null, n, an) (ls, st, M) = some (.inl (ls', st', M'))) (hE : pEasy (.aconst_null) = true) (hn : 1 = n) (hd : decode cc pc = .ok (.aconst_null, n)) (hx : p.tables.exec = Jvm.exec) (hb : c.code = cc) (hL : lR base sp ls Ls nL)
    (kk : ∀ Ls', lR base sp ls' Ls' nL → W p l e R s m args below meth c H locs cells slots Q (F0 m (pc + n) Ls' (st'.map (pTr base sp)))) : W p l e R s m args below meth c H locs cells slots Q (F0 m pc Ls (st.map (pTr base sp))) := by
  subst hn
  cases h
  exact lv_null hx hb hd (kk Ls hL)
theorem sm_null {n : Nat} {an : List Nat} (h : stE (pc, .aconst_null, n, an) (ls, st, M) = some (.inl (ls', st', M'))) : M' = M := by
  cases h
  rfl
theorem si_iload {k : Nat} {n : Nat} {an : List Nat} (h : stE (pc, .iload k, n, an) (ls, st, M) = some (.inl (ls', st', M'))) (hE : pEasy (.iload k) = true) (hn : 2 = n) (hd : decode cc pc = .ok (.iload k, n)) (hx : p.tables.exec = Jvm.exec) (hb : c.code = cc) (hL : lR base sp ls Ls nL)
    (kk : ∀ Ls', lR base sp ls' Ls' nL → W p l e R s m args below meth c H locs cells slots Q (F0 m (pc + n) Ls' (st'.map (pTr base sp)))) : W p l e R s m args below meth c H locs cells slots Q (F0 m pc Ls (st.map (pTr base sp))) := by
  subst hn
  obtain ⟨x, rfl, rfl, rfl, hv⟩ := se_ldI h hL
  exact lv_iload hx hb hd hv (kk Ls hL)
theorem sm_iload {k : Nat} {n : Nat} {an : List Nat} (h : stE (pc, .iload k, n, an) (ls, st, M) = some (.inl (ls', st', M'))) : M' = M := by
  unfold stE pLdI at h
  dsimp only at h
  split at h
  · cases h; rfl
  · cases h
theorem si_iload_n {k : Fin 4} {n : Nat} {an : List Nat} (h : stE (pc, .iload_n k, n, an) (ls, st, M) = some (.inl (ls', st', M'))) (hE : pEasy (.iload_n k) = true) (hn : 1 = n) (hd : decode cc pc = .ok (.iload_n k, n)) (hx : p.tables.exec = Jvm.exec) (hb : c.code = cc) (hL : lR base sp ls Ls nL)
    (kk : ∀ Ls', lR base sp ls' Ls' nL → W p l e R s m args below meth c H locs cells slots Q (F0 m (pc + n) Ls' (st'.map (pTr base sp)))) : W p l e R s m args below meth c H locs cells slots Q (F0 m pc Ls (st.map (pTr base sp))) := by
  subst hn
  obtain ⟨x, rfl, rfl, rfl, hv⟩ := se_ldI h hL
  exact lv_iload_n hx hb hd rfl hv (kk Ls hL)
theorem sm_iload_n {k : Fin 4} {n : Nat} {an : List Nat} (h : stE (pc, .iload_n k, n, an) (ls, st, M) = some (.inl (ls', st', M'))) : M' = M := by
  unfold stE pLdI at h
  dsimp only at h
  split at h
  · cases h; rfl
  · cases h
theorem si_aload {k : Nat} {n : Nat} {an : List Nat} (h : stE (pc, .aload k, n, an) (ls, st, M) = some (.inl (ls', st', M'))) (hE : pEasy (.aload k) = true) (hn : 2 = n) (hd : decode cc pc = .ok (.aload k, n)) (hx : p.tables.exec = Jvm.exec) (hb : c.code = cc) (hL : lR base sp ls Ls nL)
    (kk : ∀ Ls', lR base sp ls' Ls' nL → W p l e R s m args below meth c H locs cells slots Q (F0 m (pc + n) Ls' (st'.map (pTr base sp)))) : W p l e R s m args below meth c H locs cells slots Q (F0 m pc Ls (st.map (pTr base sp))) := by
  subst hn
  rcases se_ldA h hL with ⟨x, rfl, rfl, rfl, hv⟩ | ⟨rfl, rfl, rfl, hv⟩
  · exact lv_aload hx hb hd hv (kk Ls hL)
  · exact lv_aloadN hx hb hd hv (kk Ls hL)
theorem sm_aload {k : Nat} {n : Nat} {an : List Nat} (h : stE (pc, .aload k, n, an) (ls, st, M) = some (.inl (ls', st', M'))) : M' = M := by
  unfold stE pLdA at h
  dsimp only at h
  split at h
  · cases h; rfl
  · cases h; rfl
  · cases h
theorem si_aload_n {k : Fin 4} {n : Nat} {an : List Nat} (h : stE (pc, .aload_n k, n, an) (ls, st, M) = some (.inl (ls', st', M'))) (hE : pEasy (.aload_n k) = true) (hn : 1 = n) (hd : decode cc pc = .ok (.aload_n k, n)) (hx : p.tables.exec = Jvm.exec) (hb : c.code = cc) (hL : lR base sp ls Ls nL)
    (kk : ∀ Ls', lR base sp ls' Ls' nL → W p l e R s m args below meth c H locs cells slots Q (F0 m (pc + n) Ls' (st'.map (pTr base sp)))) : W p l e R s m args below meth c H locs cells slots Q (F0 m pc Ls (st.map (pTr base sp))) := by
  subst hn
  rcases se_ldA h hL with ⟨x, rfl, rfl, rfl, hv⟩ | ⟨rfl, rfl, rfl, hv⟩
  · exact lv_aload_n hx hb hd rfl hv (kk Ls hL)
  · exact lv_aload_nN hx hb hd rfl hv (kk Ls hL)
theorem sm_aload_n {k : Fin 4} {n : Nat} {an : List Nat} (h : stE (pc, .aload_n k, n, an) (ls, st, M) = some (.inl (ls', st', M'))) : M' = M := by
  unfold stE pLdA at h
  dsimp only at h
  split at h
  · cases h; rfl
  · cases h; rfl
  · cases h
theorem si_istore {k : Nat} {n : Nat} {an : List Nat} (h : stE (pc, .istore k, n, an) (ls, st, M) = some (.inl (ls', st', M'))) (hE : pEasy (.istore k) = true) (hn : 2 = n) (hd : decode cc pc = .ok (.istore k, n)) (hx : p.tables.exec = Jvm.exec) (hb : c.code = cc) (hL : lR base sp ls Ls nL)
    (kk : ∀ Ls', lR base sp ls' Ls' nL → W p l e R s m args below meth c H locs cells slots Q (F0 m (pc + n) Ls' (st'.map (pTr base sp)))) : W p l e R s m args below meth c H locs cells slots Q (F0 m pc Ls (st.map (pTr base sp))) := by
  subst hn
  obtain ⟨x, rfl, rfl, rfl, hk⟩ := se_stI h
  exact lv_istore hx hb hd hL.has (hL.1 ▸ hk) rfl (fun Ls2 h2 => kk Ls2 (hL.set rfl rfl h2))
theorem sm_istore {k : Nat} {n : Nat} {an : List Nat} (h : stE (pc, .istore k, n, an) (ls, st, M) = some (.inl (ls', st', M'))) : M' = M := by
  obtain ⟨x, -, -, h3, -⟩ := se_stI h
  exact h3
theorem si_istore_n {k : Fin 4} {n : Nat} {an : List Nat} (h : stE (pc, .istore_n k, n, an) (ls, st, M) = some (.inl (ls', st', M'))) (hE : pEasy (.istore_n k) = true) (hn : 1 = n) (hd : decode cc pc = .ok (.istore_n k, n)) (hx : p.tables.exec = Jvm.exec) (hb : c.code = cc) (hL : lR base sp ls Ls nL)
    (kk : ∀ Ls', lR base sp ls' Ls' nL → W p l e R s m args below meth c H locs cells slots Q (F0 m (pc + n) Ls' (st'.map (pTr base sp)))) : W p l e R s m args below meth c H locs cells slots Q (F0 m pc Ls (st.map (pTr base sp))) := by
  subst hn
  obtain ⟨x, rfl, rfl, rfl, hk⟩ := se_stI h
  exact lv_istore_n hx hb hd rfl hL.has (hL.1 ▸ hk) rfl (fun Ls2 h2 => kk Ls2 (hL.set rfl rfl h2))
theorem sm_istore_n {k : Fin 4} {n : Nat} {an : List Nat} (h : stE (pc, .istore_n k, n, an) (ls, st, M) = some (.inl (ls', st', M'))) : M' = M := by
  obtain ⟨x, -, -, h3, -⟩ := se_stI h
  exact h3
theorem si_astore {k : Nat} {n : Nat} {an : List Nat} (h : stE (pc, .astore k, n, an) (ls, st, M) = some (.inl (ls', st', M'))) (hE : pEasy (.astore k) = true) (hn : 2 = n) (hd : decode cc pc = .ok (.astore k, n)) (hx : p.tables.exec = Jvm.exec) (hb : c.code = cc) (hL : lR base sp ls Ls nL)
    (kk : ∀ Ls', lR base sp ls' Ls' nL → W p l e R s m args below meth c H locs cells slots Q (F0 m (pc + n) Ls' (st'.map (pTr base sp)))) : W p l e R s m args below meth c H locs cells slots Q (F0 m pc Ls (st.map (pTr base sp))) := by
  subst hn
  rcases se_stA h with ⟨x, rfl, rfl, rfl, hk⟩ | ⟨rfl, rfl, rfl, hk⟩
  · exact lv_astore hx hb hd hL.has (hL.1 ▸ hk) rfl (fun Ls2 h2 => kk Ls2 (hL.set rfl rfl h2))
  · exact lv_astoreN hx hb hd hL.has (hL.1 ▸ hk) rfl (fun Ls2 h2 => kk Ls2 (hL.set rfl rfl h2))
theorem sm_astore {k : Nat} {n : Nat} {an : List Nat} (h : stE (pc, .astore k, n, an) (ls, st, M) = some (.inl (ls', st', M'))) : M' = M := by
  rcases se_stA h with ⟨x, -, -, h3, -⟩ | ⟨-, -, h3, -⟩ <;> exact h3
theorem si_astore_n {k : Fin 4} {n : Nat} {an : List Nat} (h : stE (pc, .astore_n k, n, an) (ls, st, M) = some (.inl (ls', st', M'))) (hE : pEasy (.astore_n k) = true) (hn : 1 = n) (hd : decode cc pc = .ok (.astore_n k, n)) (hx : p.tables.exec = Jvm.exec) (hb : c.code = cc) (hL : lR base sp ls Ls nL)
    (kk : ∀ Ls', lR base sp ls' Ls' nL → W p l e R s m args below meth c H locs cells slots Q (F0 m (pc + n) Ls' (st'.map (pTr base sp)))) : W p l e R s m args below meth c H locs cells slots Q (F0 m pc Ls (st.map (pTr base sp))) := by
  subst hn
  rcases se_stA h with ⟨x, rfl, rfl, rfl, hk⟩ | ⟨rfl, rfl, rfl, hk⟩
  · exact lv_astore_n hx hb hd rfl hL.has (hL.1 ▸ hk) rfl (fun Ls2 h2 => kk Ls2 (hL.set rfl rfl h2))
  · exact lv_astore_nN hx hb hd rfl hL.has (hL.1 ▸ hk) rfl (fun Ls2 h2 => kk Ls2 (hL.set rfl rfl h2))
theorem sm_astore_n {k : Fin 4} {n : Nat} {an : List Nat} (h : stE (pc, .astore_n k, n, an) (ls, st, M) = some (.inl (ls', st', M'))) : M' = M := by
  rcases se_stA h with ⟨x, -, -, h3, -⟩ | ⟨-, -, h3, -⟩ <;> exact h3
theorem si_iinc {k : Nat} {d : Int} {n : Nat} {an : List Nat} (h : stE (pc, .iinc k d, n, an) (ls, st, M) = some (.inl (ls', st', M'))) (hE : pEasy (.iinc k d) = true) (hn : 3 = n) (hd : decode cc pc = .ok (.iinc k d, n)) (hx : p.tables.exec = Jvm.exec) (hb : c.code = cc) (hL : lR base sp ls Ls nL)
    (kk : ∀ Ls', lR base sp ls' Ls' nL → W p l e R s m args below meth c H locs cells slots Q (F0 m (pc + n) Ls' (st'.map (pTr base sp)))) : W p l e R s m args below meth c H locs cells slots Q (F0 m pc Ls (st.map (pTr base sp))) := by
  subst hn
  obtain ⟨x, rfl, rfl, rfl, hv⟩ := se_inc h
  obtain ⟨j, hj⟩ := List.mem_iff_getElem?.mp (lPr_mem.mpr ⟨_, hv, rfl⟩ : (k, pTr base sp (.int x)) ∈ lPr base sp ls)
  exact lv_iinc hx hb hd hL.has hj rfl (hL.1 ▸ (List.getElem?_eq_some_iff.mp hv).1) rfl (fun Ls2 h2 => kk Ls2 (hL.set rfl rfl h2))
theorem sm_iinc {k : Nat} {d : Int} {n : Nat} {an : List Nat} (h : stE (pc, .iinc k d, n, an) (ls, st, M) = some (.inl (ls', st', M'))) : M' = M := by
  obtain ⟨x, -, -, h3, -⟩ := se_inc h
  exact h3
theorem si_iadd {n : Nat} {an : List Nat} (h : stE (pc, .iadd, n, an) (ls, st, M) = some (.inl (ls', st', M'))) (hE : pEasy (.iadd) = true) (hn : 1 = n) (hd : decode cc pc = .ok (.iadd, n)) (hx : p.tables.exec = Jvm.exec) (hb : c.code = cc) (hL : lR base sp ls Ls nL)
    (kk : ∀ Ls', lR base sp ls' Ls' nL → W p l e R s m args below meth c H locs cells slots Q (F0 m (pc + n) Ls' (st'.map (pTr base sp)))) : W p l e R s m args below meth c H locs cells slots Q (F0 m pc Ls (st.map (pTr base sp))) := by
  subst hn
  obtain ⟨x, y, r, rfl, rfl, rfl, rfl⟩ := se_bin h
  exact lv_iadd hx hb hd (kk Ls hL)
theorem sm_iadd {n : Nat} {an : List Nat} (h : stE (pc, .iadd, n, an) (ls, st, M) = some (.inl (ls', st', M'))) : M' = M := by
  obtain ⟨x, y, r, -, -, -, h4⟩ := se_bin h
  exact h4
theorem si_isub {n : Nat} {an : List Nat} (h : stE (pc, .isub, n, an) (ls, st, M) = some (.inl (ls', st', M'))) (hE : pEasy (.isub) = true) (hn : 1 = n) (hd : decode cc pc = .ok (.isub, n)) (hx : p.tables.exec = Jvm.exec) (hb : c.code = cc) (hL : lR base sp ls Ls nL)
    (kk : ∀ Ls', lR base sp ls' Ls' nL → W p l e R s m args below meth c H locs cells slots Q (F0 m (pc + n) Ls' (st'.map (pTr base sp)))) : W p l e R s m args below meth c H locs cells slots Q (F0 m pc Ls (st.map (pTr base sp))) := by
  subst hn
  obtain ⟨x, y, r, rfl, rfl, rfl, rfl⟩ := se_bin h
  exact lv_isub hx hb hd (kk Ls hL)
theorem sm_isub {n : Nat} {an : List Nat} (h : stE (pc, .isub, n, an) (ls, st, M) = some (.inl (ls', st', M'))) : M' = M := by
  obtain ⟨x, y, r, -, -, -, h4⟩ := se_bin h
  exact h4
theorem si_imul {n : Nat} {an : List Nat} (h : stE (pc, .imul, n, an) (ls, st, M) = some (.inl (ls', st', M'))) (hE : pEasy (.imul) = true) (hn : 1 = n) (hd : decode cc pc = .ok (.imul, n)) (hx : p.tables.exec = Jvm.exec) (hb : c.code = cc) (hL : lR base sp ls Ls nL)
    (kk : ∀ Ls', lR base sp ls' Ls' nL → W p l e R s m args below meth c H locs cells slots Q (F0 m (pc + n) Ls' (st'.map (pTr base sp)))) : W p l e R s m args below meth c H locs cells slots Q (F0 m pc Ls (st.map (pTr base sp))) := by
  subst hn
  obtain ⟨x, y, r, rfl, rfl, rfl, rfl⟩ := se_bin h
  exact lv_imul hx hb hd (kk Ls hL)
theorem sm_imul {n : Nat} {an : List Nat} (h : stE (pc, .imul, n, an) (ls, st, M) = some (.inl (ls', st', M'))) : M' = M := by
  obtain ⟨x, y, r, -, -, -, h4⟩ := se_bin h
  exact h4
theorem si_iand {n : Nat} {an : List Nat} (h : stE (pc, .iand, n, an) (ls, st, M) = some (.inl (ls', st', M'))) (hE : pEasy (.iand) = true) (hn : 1 = n) (hd : decode cc pc = .ok (.iand, n)) (hx : p.tables.exec = Jvm.exec) (hb : c.code = cc) (hL : lR base sp ls Ls nL)
    (kk : ∀ Ls', lR base sp ls' Ls' nL → W p l e R s m args below meth c H locs cells slots Q (F0 m (pc + n) Ls' (st'.map (pTr base sp)))) : W p l e R s m args below meth c H locs cells slots Q (F0 m pc Ls (st.map (pTr base sp))) := by
  subst hn
  obtain ⟨x, y, r, rfl, rfl, rfl, rfl⟩ := se_bin h
  exact lv_iand hx hb hd (kk Ls hL)
theorem sm_iand {n : Nat} {an : List Nat} (h : stE (pc, .iand, n, an) (ls, st, M) = some (.inl (ls', st', M'))) : M' = M := by
  obtain ⟨x, y, r, -, -, -, h4⟩ := se_bin h
  exact h4
theorem si_ior {n : Nat} {an : List Nat} (h : stE (pc, .ior, n, an) (ls, st, M) = some (.inl (ls', st', M'))) (hE : pEasy (.ior) = true) (hn : 1 = n) (hd : decode cc pc = .ok (.ior, n)) (hx : p.tables.exec = Jvm.exec) (hb : c.code = cc) (hL : lR base sp ls Ls nL)
    (kk : ∀ Ls', lR base sp ls' Ls' nL → W p l e R s m args below meth c H locs cells slots Q (F0 m (pc + n) Ls' (st'.map (pTr base sp)))) : W p l e R s m args below meth c H locs cells slots Q (F0 m pc Ls (st.map (pTr base sp))) := by
  subst hn
  obtain ⟨x, y, r, rfl, rfl, rfl, rfl⟩ := se_bin h
  exact lv_ior hx hb hd (kk Ls hL)
theorem sm_ior {n : Nat} {an : List Nat} (h : stE (pc, .ior, n, an) (ls, st, M) = some (.inl (ls', st', M'))) : M' = M := by
  obtain ⟨x, y, r, -, -, -, h4⟩ := se_bin h
  exact h4
theorem si_ixor {n : Nat} {an : List Nat} (h : stE (pc, .ixor, n, an) (ls, st, M) = some (.inl (ls', st', M'))) (hE : pEasy (.ixor) = true) (hn : 1 = n) (hd : decode cc pc = .ok (.ixor, n)) (hx : p.tables.exec = Jvm.exec) (hb : c.code = cc) (hL : lR base sp ls Ls nL)
    (kk : ∀ Ls', lR base sp ls' Ls' nL → W p l e R s m args below meth c H locs cells slots Q (F0 m (pc + n) Ls' (st'.map (pTr base sp)))) : W p l e R s m args below meth c H locs cells slots Q (F0 m pc Ls (st.map (pTr base sp))) := by
  subst hn
  obtain ⟨x, y, r, rfl, rfl, rfl, rfl⟩ := se_bin h
  exact lv_ixor hx hb hd (kk Ls hL)
theorem sm_ixor {n : Nat} {an : List Nat} (h : stE (pc, .ixor, n, an) (ls, st, M) = some (.inl (ls', st', M'))) : M' = M := by
  obtain ⟨x, y, r, -, -, -, h4⟩ := se_bin h
  exact h4
theorem si_ishl {n : Nat} {an : List Nat} (h : stE (pc, .ishl, n, an) (ls, st, M) = some (.inl (ls', st', M'))) (hE : pEasy (.ishl) = true) (hn : 1 = n) (hd : decode cc pc = .ok (.ishl, n)) (hx : p.tables.exec = Jvm.exec) (hb : c.code = cc) (hL : lR base sp ls Ls nL)
    (kk : ∀ Ls', lR base sp ls' Ls' nL → W p l e R s m args below meth c H locs cells slots Q (F0 m (pc + n) Ls' (st'.map (pTr base sp)))) : W p l e R s m args below meth c H locs cells slots Q (F0 m pc Ls (st.map (pTr base sp))) := by
  subst hn
  obtain ⟨x, y, r, rfl, rfl, rfl, rfl⟩ := se_bin h
  exact lv_ishl hx hb hd (kk Ls hL)
theorem sm_ishl {n : Nat} {an : List Nat} (h : stE (pc, .ishl, n, an) (ls, st, M) = some (.inl (ls', st', M'))) : M' = M := by
  obtain ⟨x, y, r, -, -, -, h4⟩ := se_bin h
  exact h4
theorem si_ishr {n : Nat} {an : List Nat} (h : stE (pc, .ishr, n, an) (ls, st, M) = some (.inl (ls', st', M'))) (hE : pEasy (.ishr) = true) (hn : 1 = n) (hd : decode cc pc = .ok (.ishr, n)) (hx : p.tables.exec = Jvm.exec) (hb : c.code = cc) (hL : lR base sp ls Ls nL)
    (kk : ∀ Ls', lR base sp ls' Ls' nL → W p l e R s m args below meth c H locs cells slots Q (F0 m (pc + n) Ls' (st'.map (pTr base sp)))) : W p l e R s m args below meth c H locs cells slots Q (F0 m pc Ls (st.map (pTr base sp))) := by
  subst hn
  obtain ⟨x, y, r, rfl, rfl, rfl, rfl⟩ := se_bin h
  exact lv_ishr hx hb hd (kk Ls hL)
theorem sm_ishr {n : Nat} {an : List Nat} (h : stE (pc, .ishr, n, an) (ls, st, M) = some (.inl (ls', st', M'))) : M' = M := by
  obtain ⟨x, y, r, -, -, -, h4⟩ := se_bin h
  exact h4
theorem si_iushr {n : Nat} {an : List Nat} (h : stE (pc, .iushr, n, an) (ls, st, M) = some (.inl (ls', st', M'))) (hE : pEasy (.iushr) = true) (hn : 1 = n) (hd : decode cc pc = .ok (.iushr, n)) (hx : p.tables.exec = Jvm.exec) (hb : c.code = cc) (hL : lR base sp ls Ls nL)
    (kk : ∀ Ls', lR base sp ls' Ls' nL → W p l e R s m args below meth c H locs cells slots Q (F0 m (pc + n) Ls' (st'.map (pTr base sp)))) : W p l e R s m args below meth c H locs cells slots Q (F0 m pc Ls (st.map (pTr base sp))) := by
  subst hn
  obtain ⟨x, y, r, rfl, rfl, rfl, rfl⟩ := se_bin h
  exact lv_iushr hx hb hd rfl (kk Ls hL)
theorem sm_iushr {n : Nat} {an : List Nat} (h : stE (pc, .iushr, n, an) (ls, st, M) = some (.inl (ls', st', M'))) : M' = M := by
  obtain ⟨x, y, r, -, -, -, h4⟩ := se_bin h
  exact h4
theorem si_idiv {n : Nat} {an : List Nat} (h : stE (pc, .idiv, n, an) (ls, st, M) = some (.inl (ls', st', M'))) (hE : pEasy (.idiv) = true) (hn : 1 = n) (hd : decode cc pc = .ok (.idiv, n)) (hx : p.tables.exec = Jvm.exec) (hb : c.code = cc) (hL : lR base sp ls Ls nL)
    (kk : ∀ Ls', lR base sp ls' Ls' nL → W p l e R s m args below meth c H locs cells slots Q (F0 m (pc + n) Ls' (st'.map (pTr base sp)))) : W p l e R s m args below meth c H locs cells slots Q (F0 m pc Ls (st.map (pTr base sp))) := by
  subst hn
  obtain ⟨x, y, r, rfl, rfl, rfl, rfl, hy⟩ := se_div h
  exact lv_idiv hx hb hd hy (kk Ls hL)
theorem sm_idiv {n : Nat} {an : List Nat} (h : stE (pc, .idiv, n, an) (ls, st, M) = some (.inl (ls', st', M'))) : M' = M := by
  obtain ⟨x, y, r, -, -, -, h4, -⟩ := se_div h
  exact h4
theorem si_irem {n : Nat} {an : List Nat} (h : stE (pc, .irem, n, an) (ls, st, M) = some (.inl (ls', st', M'))) (hE : pEasy (.irem) = true) (hn : 1 = n) (hd : decode cc pc = .ok (.irem, n)) (hx : p.tables.exec = Jvm.exec) (hb : c.code = cc) (hL : lR base sp ls Ls nL)
    (kk : ∀ Ls', lR base sp ls' Ls' nL → W p l e R s m args below meth c H locs cells slots Q (F0 m (pc + n) Ls' (st'.map (pTr base sp)))) : W p l e R s m args below meth c H locs cells slots Q (F0 m pc Ls (st.map (pTr base sp))) := by
  subst hn
  obtain ⟨x, y, r, rfl, rfl, rfl, rfl, hy⟩ := se_div h
  exact lv_irem hx hb hd hy (kk Ls hL)
theorem sm_irem {n : Nat} {an : List Nat} (h : stE (pc, .irem, n, an) (ls, st, M) = some (.inl (ls', st', M'))) : M' = M := by
  obtain ⟨x, y, r, -, -, -, h4, -⟩ := se_div h
  exact h4
theorem si_ineg {n : Nat} {an : List Nat} (h : stE (pc, .ineg, n, an) (ls, st, M) = some (.inl (ls', st', M'))) (hE : pEasy (.ineg) = true) (hn : 1 = n) (hd : decode cc pc = .ok (.ineg, n)) (hx : p.tables.exec = Jvm.exec) (hb : c.code = cc) (hL : lR base sp ls Ls nL)
    (kk : ∀ Ls', lR base sp ls' Ls' nL → W p l e R s m args below meth c H locs cells slots Q (F0 m (pc + n) Ls' (st'.map (pTr base sp)))) : W p l e R s m args below meth c H locs cells slots Q (F0 m pc Ls (st.map (pTr base sp))) := by
  subst hn
  obtain ⟨x, r, rfl, rfl, rfl, rfl⟩ := se_un h
  exact lv_ineg hx hb hd (kk Ls hL)
theorem sm_ineg {n : Nat} {an : List Nat} (h : stE (pc, .ineg, n, an) (ls, st, M) = some (.inl (ls', st', M'))) : M' = M := by
  obtain ⟨x, r, -, -, -, h4⟩ := se_un h
  exact h4
theorem si_i2l {n : Nat} {an : List Nat} (h : stE (pc, .i2l, n, an) (ls, st, M) = some (.inl (ls', st', M'))) (hE : pEasy (.i2l) = true) (hn : 1 = n) (hd : decode cc pc = .ok (.i2l, n)) (hx : p.tables.exec = Jvm.exec) (hb : c.code = cc) (hL : lR base sp ls Ls nL)
    (kk : ∀ Ls', lR base sp ls' Ls' nL → W p l e R s m args below meth c H locs cells slots Q (F0 m (pc + n) Ls' (st'.map (pTr base sp)))) : W p l e R s m args below meth c H locs cells slots Q (F0 m pc Ls (st.map (pTr base sp))) := by
  subst hn
  unfold stE at h
  dsimp only at h
  split at h
  · rename_i x r
    cases h
    exact lv_i2l hx hb hd rfl (kk Ls hL)
  · cases h
theorem sm_i2l {n : Nat} {an : List Nat} (h : stE (pc, .i2l, n, an) (ls, st, M) = some (.inl (ls', st', M'))) : M' = M := by
  unfold stE at h
  dsimp only at h
  repeat' split at h
  all_goals (first | (cases h; rfl) | cases h)
theorem si_lcmp {n : Nat} {an : List Nat} (h : stE (pc, .lcmp, n, an) (ls, st, M) = some (.inl (ls', st', M'))) (hE : pEasy (.lcmp) = true) (hn : 1 = n) (hd : decode cc pc = .ok (.lcmp, n)) (hx : p.tables.exec = Jvm.exec) (hb : c.code = cc) (hL : lR base sp ls Ls nL)
    (kk : ∀ Ls', lR base sp ls' Ls' nL → W p l e R s m args below meth c H locs cells slots Q (F0 m (pc + n) Ls' (st'.map (pTr base sp)))) : W p l e R s m args below meth c H locs cells slots Q (F0 m pc Ls (st.map (pTr base sp))) := by
  subst hn
  unfold stE at h
  dsimp only at h
  split at h
  · rename_i x y r
    cases h
    exact W.lcmp hx hb hd (kk Ls hL)
  · cases h
theorem sm_lcmp {n : Nat} {an : List Nat} (h : stE (pc, .lcmp, n, an) (ls, st, M) = some (.inl (ls', st', M'))) : M' = M := by
  unfold stE at h
  dsimp only at h
  repeat' split at h
  all_goals (first | (cases h; rfl) | cases h)
theorem si_dup {n : Nat} {an : List Nat} (h : stE (pc, .dup, n, an) (ls, st, M) = some (.inl (ls', st', M'))) (hE : pEasy (.dup) = true) (hn : 1 = n) (hd : decode cc pc = .ok (.dup, n)) (hx : p.tables.exec = Jvm.exec) (hb : c.code = cc) (hL : lR base sp ls Ls nL)
    (kk : ∀ Ls', lR base sp ls' Ls' nL → W p l e R s m args below meth c H locs cells slots Q (F0 m (pc + n) Ls' (st'.map (pTr base sp)))) : W p l e R s m args below meth c H locs cells slots Q (F0 m pc Ls (st.map (pTr base sp))) := by
  subst hn
  unfold stE at h
  dsimp only at h
  split at h
  · rename_i v r
    split at h
    · rename_i hv
      cases h
      exact lv_dup hx hb hd (pTr_cat hv) (kk Ls hL)
    · cases h
  · cases h
theorem sm_dup {n : Nat} {an : List Nat} (h : stE (pc, .dup, n, an) (ls, st, M) = some (.inl (ls', st', M'))) : M' = M := by
  unfold stE at h
  dsimp only at h
  repeat' split at h
  all_goals (first | (cases h; rfl) | cases h)
theorem si_dup2 {n : Nat} {an : List Nat} (h : stE (pc, .dup2, n, an) (ls, st, M) = some (.inl (ls', st', M'))) (hE : pEasy (.dup2) = true) (hn : 1 = n) (hd : decode cc pc = .ok (.dup2, n)) (hx : p.tables.exec = Jvm.exec) (hb : c.code = cc) (hL : lR base sp ls Ls nL)
    (kk : ∀ Ls', lR base sp ls' Ls' nL → W p l e R s m args below meth c H locs cells slots Q (F0 m (pc + n) Ls' (st'.map (pTr base sp)))) : W p l e R s m args below meth c H locs cells slots Q (F0 m pc Ls (st.map (pTr base sp))) := by
  subst hn
  unfold stE at h
  dsimp only at h
  split at h
  · rename_i v w r
    split at h
    · rename_i hv
      cases h
      exact lv_dup2_11 hx hb hd (pTr_cat hv.1) (pTr_cat hv.2) (kk Ls hL)
    · cases h
  · cases h
theorem sm_dup2 {n : Nat} {an : List Nat} (h : stE (pc, .dup2, n, an) (ls, st, M) = some (.inl (ls', st', M'))) : M' = M := by
  unfold stE at h
  dsimp only at h
  repeat' split at h
  all_goals (first | (cases h; rfl) | cases h)
theorem si_pop {n : Nat} {an : List Nat} (h : stE (pc, .pop, n, an) (ls, st, M) = some (.inl (ls', st', M'))) (hE : pEasy (.pop) = true) (hn : 1 = n) (hd : decode cc pc = .ok (.pop, n)) (hx : p.tables.exec = Jvm.exec) (hb : c.code = cc) (hL : lR base sp ls Ls nL)
    (kk : ∀ Ls', lR base sp ls' Ls' nL → W p l e R s m args below meth c H locs cells slots Q (F0 m (pc + n) Ls' (st'.map (pTr base sp)))) : W p l e R s m args below meth c H locs cells slots Q (F0 m pc Ls (st.map (pTr base sp))) := by
  subst hn
  unfold stE at h
  dsimp only at h
  split at h
  · rename_i v r
    split at h
    · rename_i hv
      cases h
      exact lv_pop hx hb hd (pTr_cat hv) (kk Ls hL)
    · cases h
  · cases h
theorem sm_pop {n : Nat} {an : List Nat} (h : stE (pc, .pop, n, an) (ls, st, M) = some (.inl (ls', st', M'))) : M' = M := by
  unfold stE at h
  dsimp only at h
  repeat' split at h
  all_goals (first | (cases h; rfl) | cases h)
theorem simE {i : Instr} {n : Nat} {an : List Nat} (h : stE (pc, i, n, an) (ls, st, M) = some (.inl (ls', st', M'))) (hE : pEasy i = true) (hn : pLen1 i = n) (hd : decode cc pc = .ok (i, n)) (hx : p.tables.exec = Jvm.exec) (hb : c.code = cc) (hL : lR base sp ls Ls nL)
    (kk : ∀ Ls', lR base sp ls' Ls' nL → W p l e R s m args below meth c H locs cells slots Q (F0 m (pc + n) Ls' (st'.map (pTr base sp)))) : W p l e R s m args below meth c H locs cells slots Q (F0 m pc Ls (st.map (pTr base sp))) := by
  cases i
  case iconst => exact si_iconst h hE hn hd hx hb hL kk
  case bipush => exact si_bipush h hE hn hd hx hb hL kk
  case sipush => exact si_sipush h hE hn hd hx hb hL kk
  case lconst => exact si_lconst h hE hn hd hx hb hL kk
  case aconst_null => exact si_null h hE hn hd hx hb hL kk
  case iload => exact si_iload h hE hn hd hx hb hL kk
  case iload_n => exact si_iload_n h hE hn hd hx hb hL kk
  case aload => exact si_aload h hE hn hd hx hb hL kk
  case aload_n => exact si_aload_n h hE hn hd hx hb hL kk
  case istore => exact si_istore h hE hn hd hx hb hL kk
  case istore_n => exact si_istore_n h hE hn hd hx hb hL kk
  case astore => exact si_astore h hE hn hd hx hb hL kk
  case astore_n => exact si_astore_n h hE hn hd hx hb hL kk
  case iinc => exact si_iinc h hE hn hd hx hb hL kk
  case iadd => exact si_iadd h hE hn hd hx hb hL kk
  case isub => exact si_isub h hE hn hd hx hb hL kk
  case imul => exact si_imul h hE hn hd hx hb hL kk
  case iand => exact si_iand h hE hn hd hx hb hL kk
  case ior => exact si_ior h hE hn hd hx hb hL kk
  case ixor => exact si_ixor h hE hn hd hx hb hL kk
  case ishl => exact si_ishl h hE hn hd hx hb hL kk
  case ishr => exact si_ishr h hE hn hd hx hb hL kk
  case iushr => exact si_iushr h hE hn hd hx hb hL kk
  case idiv => exact si_idiv h hE hn hd hx hb hL kk
  case irem => exact si_irem h hE hn hd hx hb hL kk
  case ineg => exact si_ineg h hE hn hd hx hb hL kk
  case i2l => exact si_i2l h hE hn hd hx hb hL kk
  case lcmp => exact si_lcmp h hE hn hd hx hb hL kk
  case dup => exact si_dup h hE hn hd hx hb hL kk
  case dup2 => exact si_dup2 h hE hn hd hx hb hL kk
  case pop => exact si_pop h hE hn hd hx hb hL kk
  all_goals cases hE
theorem simEM {i : Instr} {n : Nat} {an : List Nat} (h : stE (pc, i, n, an) (ls, st, M) = some (.inl (ls', st', M'))) (hE : pEasy i = true) : M' = M := by
  cases i
  case iconst => exact sm_iconst h
  case bipush => exact sm_bipush h
  case sipush => exact sm_sipush h
  case lconst => exact sm_lconst h
  case aconst_null => exact sm_null h
  case iload => exact sm_iload h
  case iload_n => exact sm_iload_n h
  case aload => exact sm_aload h
  case aload_n => exact sm_aload_n h
  case istore => exact sm_istore h
  case istore_n => exact sm_istore_n h
  case astore => exact sm_astore h
  case astore_n => exact sm_astore_n h
  case iinc => exact sm_iinc h
  case iadd => exact sm_iadd h
  case isub => exact sm_isub h
  case imul => exact sm_imul h
  case iand => exact sm_iand h
  case ior => exact sm_ior h
  case ixor => exact sm_ixor h
  case ishl => exact sm_ishl h
  case ishr => exact sm_ishr h
  case iushr => exact sm_iushr h
  case idiv => exact sm_idiv h
  case irem => exact sm_irem h
  case ineg => exact sm_ineg h
  case i2l => exact sm_i2l h
  case lcmp => exact sm_lcmp h
  case dup => exact sm_dup h
  case dup2 => exact sm_dup2 h
  case pop => exact sm_pop h
  all_goals cases hE
end SC
