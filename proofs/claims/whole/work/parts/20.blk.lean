/-! A BLOCK of the machine's code does what the pure block does -/
section BK
variable {F : Nat → List Value → pMem → Option (pOut × pMem)} {J : Nat → pCfg → Option (pOut × pMem)} {hs : List (Nat × Nat × Nat)}
theorem exB_mono (hF : ∀ z as M o M', F z as M = some (o, M') → gN M ≤ gN M' ∧ gL M ≤ gL M') (hJ : ∀ b c o M', J b c = some (o, M') → gN c.2.2 ≤ gN M' ∧ gL c.2.2 ≤ gL M') : ∀ (es : List pEnt) (c : pCfg) (o : pOut) (M' : pMem), exB F J hs es c = some (o, M') → gN c.2.2 ≤ gN M' ∧ gL c.2.2 ≤ gL M' := by
  intro es
  induction es with
  | nil => intro c o M' h; cases h
  | cons e es ih =>
    intro c o M' h
    unfold exB at h
    split at h
    · rename_i c' hc
      have h1 := stE_mono hc
      have h2 := ih c' o M' h
      exact ⟨Nat.le_trans h1.1 h2.1, Nat.le_trans h1.2 h2.2⟩
    · rename_i b c' hc
      have h1 := stE_mono hc
      have h2 := hJ b c' o M' h
      exact ⟨Nat.le_trans h1.1 h2.1, Nat.le_trans h1.2 h2.2⟩
    · rename_i y as c' hc
      have h1 := stE_mono hc
      split at h
      · rename_i v M1 hv
        have h3 := hF _ _ _ _ _ hv
        have h2 := ih _ o M' h
        exact ⟨Nat.le_trans h1.1 (Nat.le_trans h3.1 h2.1), Nat.le_trans h1.2 (Nat.le_trans h3.2 h2.2)⟩
      · rename_i k M1 hv
        have h3 := hF _ _ _ _ _ hv
        split at h
        · split at h
          · cases h
            exact ⟨Nat.le_trans h1.1 h3.1, Nat.le_trans h1.2 h3.2⟩
          · split at h
            · rename_i b k9 hb
              have h2 := hJ _ _ o M' h
              exact ⟨Nat.le_trans h1.1 (Nat.le_trans h3.1 h2.1), Nat.le_trans h1.2 (Nat.le_trans h3.2 h2.2)⟩
            · cases h
        · cases h
      · cases h
    · rename_i r hc
      cases h
      exact stE_mono hc
    · cases h
theorem exM_mono {T : List (List pEnt)} (hF : ∀ z as M o M', F z as M = some (o, M') → gN M ≤ gN M' ∧ gL M ≤ gL M') : ∀ (n b : Nat) (c : pCfg) (o : pOut) (M' : pMem), exM F T hs n b c = some (o, M') → gN c.2.2 ≤ gN M' ∧ gL c.2.2 ≤ gL M' := by
  intro n
  induction n with
  | zero => intro b c o M' h; cases h
  | succ n ih =>
    intro b c o M' h
    exact exB_mono hF ih _ c o M' h
end BK
def retAt (cc : ByteArray) (ret : Option FieldType) (pc : Nat) : Option Value → Prop
  | none => decode cc pc = .ok (.return_, 1) ∧ ret = none
  | some (.int z) => decode cc pc = .ok (.ireturn, 1) ∧ (ret = some .int ∨ (ret = some .boolean ∧ (z = 0 ∨ z = 1)))
  | some .null => decode cc pc = .ok (.areturn, 1) ∧ pIsRef ret = true
  | some (.ref _) => decode cc pc = .ok (.areturn, 1) ∧ pIsRef ret = true
  | _ => False
section BL
variable {D : va_G} {base : Nat} {sp : Nat → Nat} {s0 : State} {L : Nat} {xs : Nat → Int32} {strs : List (String × Nat × String)} {len : List Nat} {byt : List (List Int32)} {adV : Nat → Nat} {ncs : List (String × String)} {l : Launch}
variable {p : Program} {e : Env} {R : Room} {s : State} {m : MethodId} {args : Array Value} {below : List Frame} {meth : Method} {c : Code} {Q : State → Prop}
variable {cc : ByteArray} {nL : Nat} {I : List pInf} {kf : List Nat} {thr : List (String × Nat × Nat)} {own mn : String} {ret : Option FieldType} {bl : List Nat} {cv : Nat → Bool} {d n0 l0 : Nat} {o : pOut} {Mf : pMem}
variable {F : Nat → List Value → pMem → Option (pOut × pMem)} {J : Nat → pCfg → Option (pOut × pMem)} {hs : List (Nat × Nat × Nat)}
set_option maxHeartbeats 4000000 in
set_option maxRecDepth 100000 in
theorem blkSim
    (IH : ∀ z f as M v M', I[z]? = some f → F z as M = some (.inl v, M') → gN M' ≤ 700000 → ConR D base sp s0 L xs strs len byt adV ncs l f d as M v M')
    (IHT : ∀ z f as M k M', I[z]? = some f → F z as M = some (.inr k, M') → gN M' ≤ 700000 → ConT D base sp s0 L xs strs len byt adV ncs l f d as M k M')
    (hF : ∀ z as M o M', F z as M = some (o, M') → gN M ≤ gN M' ∧ gL M ≤ gL M') (hJ : ∀ b c o M', J b c = some (o, M') → gN c.2.2 ≤ gN M' ∧ gL c.2.2 ≤ gL M')
    (hI : ∀ z as M r, F z as M = some r → ∃ f, I[z]? = some f)
    (K : okK I kf) (hlen : len.length = 46) (hsc : scOK base sp s0 L xs)
    (hx : p.tables.exec = Jvm.exec) (hb : c.code = cc) (hml : c.maxLocals = nL) (hown : s.vm.findClass own = some m.cls) (hmn : meth.name = mn) (hts : ∀ w ∈ GW, w.before args s = true) (hS : pSide base sp strs len byt adV ncs s) (hs0 : ∀ q : Nat, q < base → s.heap[q]? = s0.heap[q]?) (hsz0 : base ≤ s.heap.size)
    (hrf : d + 21 ≤ R.frames) (hrl : 64 * (d + 1) + 400 ≤ R.locals) (hRc : gN Mf ≤ n0 + R.cells) (hRs : gL Mf ≤ l0 + R.slots) (hbd : gN Mf ≤ 700000)
    (HJ : ∀ b ls' st' M1 Ls' H' locs', J b (ls', st', M1) = some (o, Mf) → lR base sp ls' Ls' nL → RelH D base sp s0 L xs s M1 H' → (∀ z ∈ locs', base ≤ z.base) → n0 ≤ gN M1 → l0 ≤ gL M1 → W p l e R s m args below meth c H' locs' (gN M1 - n0) (gL M1 - l0) Q (F0 m (bl.getD b 0) Ls' (st'.map (pTr base sp))))
    (KR : ∀ pc' Ls' H' locs' x, o = .inl x → retAt cc ret pc' x → RelH D base sp s0 L xs s Mf H' → (∀ z ∈ locs', base ≤ z.base) → W p l e R s m args below meth c H' locs' (gN Mf - n0) (gL Mf - l0) Q (F0 m pc' Ls' ((x.map (pTr base sp)).toList)))
    (KT : hs = [] → ∀ k pc' Ls' H' locs' q ce st', o = .inr k → RelH D base sp s0 L xs s Mf H' → (∀ z ∈ locs', base ≤ z.base) → H'[q]? = some ce → ce.vm = .none → s.vm.findClass (exN k) = some ce.cls → vx_W p l e R s m args below meth c H' locs' (gN Mf - n0) (gL Mf - l0) Q (F0 m pc' Ls' st') q)
    (KC : hs ≠ [] → ∀ k b k9 pc' ls' Ls' H' locs' q ce st' cl sl, pHnd k hs = some (b, k9) → cv pc' = true → lR base sp ls' Ls' nL → H'[q]? = some ce → ce.vm = .none → s.vm.findClass (exN k) = some ce.cls → (∀ Ls2, lR base sp (ls'.set k9 none) Ls2 nL → W p l e R s m args below meth c H' locs' cl sl Q (F0 m (bl.getD b 0) Ls2 [])) → vx_W p l e R s m args below meth c H' locs' cl sl Q (F0 m pc' Ls' st') q)
    (KX : ∀ k pc' ik r Ls' H' locs' st' M1, o = .inr k → Mf = nx M1 → decode cc pc' = .ok (.new ik, 3) → okThr strs thr own cc pc' ik k r = true → Ls'.size = nL → RelH D base sp s0 L xs s M1 H' → (∀ z ∈ locs', base ≤ z.base) → n0 ≤ gN M1 → l0 ≤ gL M1 → pRm st' ≤ 8 → W p l e R s m args below meth c H' locs' (gN M1 - n0) (gL M1 - l0) Q (F0 m pc' Ls' (st'.map (pTr base sp)))) :
    ∀ (es : List pEnt) (pc : Nat) (ls : pLo) (st : List Value) (M : pMem) (Ls : Array Slot) (H : Heap) (locs : List Loc), exB F J hs es (ls, st, M) = some (o, Mf) → okQ I kf strs thr own mn ret cc bl cv pc es = true → lR base sp ls Ls nL → RelH D base sp s0 L xs s M H → (∀ z ∈ locs, base ≤ z.base) → n0 ≤ gN M → l0 ≤ gL M → W p l e R s m args below meth c H locs (gN M - n0) (gL M - l0) Q (F0 m pc Ls (st.map (pTr base sp))) := by
  intro es
  induction es with
  | nil => intro pc ls st M Ls H locs h; cases h
  | cons en es ih =>
    intro pc ls st M Ls H locs h ok hL hR hlo hn0 hl0
    obtain ⟨pc0, i, n, an⟩ := en
    simp only [okQ, Bool.and_eq_true, decide_eq_true_eq] at ok
    obtain ⟨⟨rfl, ok⟩, okr⟩ := ok
    unfold exB at h
    have hmo := @exB_mono F J hs hF hJ es
    have hlo2 : ∀ (l1 : Loc), base ≤ l1.base → ∀ z ∈ locs ++ [l1], base ≤ z.base := fun l1 q z hz => by
      rcases List.mem_append.mp hz with q1 | q1
      · exact hlo z q1
      · simp at q1; rw [q1]; exact q
    have hlo3 : ∀ (locs1 : List Loc), (∀ z ∈ locs1, z ∈ locs ∨ base ≤ z.base) → ∀ z ∈ locs1, base ≤ z.base := fun locs1 q z hz => (q z hz).elim (hlo z) id
    by_cases hnop : i = .nop
    · subst hnop
      unfold okE at ok
      rw [if_pos rfl] at ok
      obtain ⟨h1, h2⟩ := of_decide_eq_true ok
      have hj : J (an.headD 0) (ls, st, M) = some (o, Mf) := h
      have := HJ _ ls st M Ls H locs hj hL hR hlo hn0 hl0
      rw [h2] at this
      exact this
    · unfold okE at ok
      rw [if_neg hnop] at ok
      simp only [Bool.and_eq_true, decide_eq_true_eq] at ok
      obtain ⟨hd, ok⟩ := ok
      by_cases hbr : pBrOK pc0 i n an bl = true
      · cases hst : stE (pc0, i, n, an) (ls, st, M) with
        | none => rw [hst] at h; cases h
        | some r =>
          rw [hst] at h
          refine simBr hbr hst hd hx hb (fun st' hr => ?_) (fun b st' hr => ?_)
          · subst hr
            exact ih _ _ _ _ _ _ _ h okr hL hR hlo hn0 hl0
          · subst hr
            exact HJ _ _ _ _ _ _ _ h hL hR hlo hn0 hl0
      · by_cases hea : pEasy i = true ∧ pLen1 i = n
        · cases hst : stE (pc0, i, n, an) (ls, st, M) with
          | none => rw [hst] at h; cases h
          | some r =>
            obtain ⟨⟨ls', st', M'⟩, rfl⟩ := easy_inl hea.1 hst
            have hM : M' = M := simEM hst hea.1
            subst hM
            rw [hst] at h
            exact simE hst hea.1 hea.2 hd hx hb hL (fun Ls' hL' => ih _ _ _ _ _ _ _ h okr hL' hR hlo hn0 hl0)
        · cases hst : stE (pc0, i, n, an) (ls, st, M) with
          | none => rw [hst] at h; cases h
          | some r =>
            have hst0 := hst
            rw [hst] at h
            cases i
            case ldc idx =>
              simp only [okJ, Bool.and_eq_true, decide_eq_true_eq] at ok
              obtain ⟨rfl, ok⟩ := ok
              simp only [stE] at hst
              split at ok
              · cases hst
                exact lv_ldc hx hb hown (hts _ (gw_at (of_decide_eq_true ok) rfl)) hd (ih _ _ _ _ _ _ _ h okr hL hR hlo hn0 hl0)
              · rename_i hh
                simp only [Bool.and_eq_true, decide_eq_true_eq] at ok
                obtain ⟨ok1, ok2⟩ := ok
                split at ok2
                · rename_i q hq
                  obtain ⟨e1, e2⟩ := of_decide_eq_true ok2
                  cases hst
                  have hv := hS.2.1 _ _ hq
                  rw [e1, e2] at hv
                  have had : pAd base sp hh = sp (1 + (hh - 900001)) := by
                    unfold pAd
                    rw [if_neg (by omega)]
                    have e9 : hh - 900000 = 1 + (hh - 900001) := by omega
                    rw [e9]
                  refine va_ldcS hx hb hown hv hd ?_
                  rw [← had]
                  exact ih _ _ _ _ _ _ _ h okr hL hR hlo hn0 hl0
                · cases ok2
              · cases ok
            case ldc_w idx =>
              simp only [okJ, Bool.and_eq_true, decide_eq_true_eq] at ok
              obtain ⟨rfl, ok⟩ := ok
              simp only [stE] at hst
              split at ok
              · cases hst
                exact lv_ldcw hx hb hown (hts _ (gw_at (of_decide_eq_true ok) rfl)) hd (ih _ _ _ _ _ _ _ h okr hL hR hlo hn0 hl0)
              · cases ok
            case getfield idx =>
              simp only [okJ, Bool.and_eq_true, decide_eq_true_eq] at ok
              obtain ⟨rfl, ok⟩ := ok
              have hst : pGet (ls, st, M) an = some r := hst
              obtain ⟨⟨ls', st', M'⟩, rfl⟩ : ∃ c', r = .inl c' := by
                revert hst
                unfold pGet
                intro hst
                repeat' split at hst
                all_goals first
                  | (cases hst; exact ⟨_, rfl⟩)
                  | cases hst
              obtain ⟨rfl, rfl⟩ := simGetM hst
              exact simGet hst ok hd hx hb hown hts hS.1 hR (ih _ _ _ _ _ _ _ h okr hL hR hlo hn0 hl0)
            case putfield idx =>
              simp only [okJ, Bool.and_eq_true, decide_eq_true_eq] at ok
              obtain ⟨rfl, ok⟩ := ok
              have hst : pPut (ls, st, M) an = some r := hst
              obtain ⟨⟨ls', st', M'⟩, rfl⟩ : ∃ c', r = .inl c' := by
                revert hst
                unfold pPut
                intro hst
                repeat' split at hst
                all_goals first
                  | (cases hst; exact ⟨_, rfl⟩)
                  | cases hst
              obtain ⟨rfl, e1, e2⟩ := simPutM hst
              exact simPut hst ok hd hx hb hown hmn hts hS.1 hR (fun H1 l1 q hR1 => by
                have := ih _ _ _ _ _ _ _ h okr hL hR1 (hlo2 l1 q) (by omega) (by omega)
                rw [e1, e2] at this
                exact this)
            case iaload =>
              simp only [okJ, decide_eq_true_eq] at ok
              subst ok
              have hst : pALd (ls, st, M) = some r := hst
              obtain ⟨⟨ls', st', M'⟩, rfl⟩ : ∃ c', r = .inl c' := by
                revert hst
                unfold pALd
                intro hst
                repeat' split at hst
                all_goals first
                  | (cases hst; exact ⟨_, rfl⟩)
                  | cases hst
              obtain ⟨rfl, rfl⟩ := simALdM hst
              exact simALd hst hd hx hb hR hsc (ih _ _ _ _ _ _ _ h okr hL hR hlo hn0 hl0)
            case laload =>
              simp only [okJ, decide_eq_true_eq] at ok
              subst ok
              have hst : pLLd (ls, st, M) = some r := hst
              obtain ⟨⟨ls', st', M'⟩, rfl⟩ : ∃ c', r = .inl c' := by
                revert hst
                unfold pLLd
                intro hst
                repeat' split at hst
                all_goals first
                  | (cases hst; exact ⟨_, rfl⟩)
                  | cases hst
              obtain ⟨rfl, rfl⟩ := simLLdM hst
              exact simLLd hst hd hx hb hR (ih _ _ _ _ _ _ _ h okr hL hR hlo hn0 hl0)
            case aaload =>
              simp only [okJ, decide_eq_true_eq] at ok
              subst ok
              have hst : pQLd (ls, st, M) = some r := hst
              obtain ⟨⟨ls', st', M'⟩, rfl⟩ : ∃ c', r = .inl c' := by
                revert hst
                unfold pQLd
                intro hst
                repeat' split at hst
                all_goals first
                  | (cases hst; exact ⟨_, rfl⟩)
                  | cases hst
              obtain ⟨rfl, rfl⟩ := simQLdM hst
              exact simQLd hst hd hx hb hR (ih _ _ _ _ _ _ _ h okr hL hR hlo hn0 hl0)
            case arraylength =>
              simp only [okJ, decide_eq_true_eq] at ok
              subst ok
              have hst : pLen (ls, st, M) = some r := hst
              obtain ⟨⟨ls', st', M'⟩, rfl⟩ : ∃ c', r = .inl c' := by
                revert hst
                unfold pLen
                intro hst
                repeat' split at hst
                all_goals first
                  | (cases hst; exact ⟨_, rfl⟩)
                  | cases hst
              obtain ⟨rfl, rfl⟩ := simLenM hst
              exact simLen hst hd hx hb hR hsc (ih _ _ _ _ _ _ _ h okr hL hR hlo hn0 hl0)
            case iastore =>
              simp only [okJ, decide_eq_true_eq] at ok
              subst ok
              have hst : pASt (ls, st, M) = some r := hst
              obtain ⟨⟨ls', st', M'⟩, rfl⟩ : ∃ c', r = .inl c' := by
                revert hst
                unfold pASt
                intro hst
                repeat' split at hst
                all_goals first
                  | (cases hst; exact ⟨_, rfl⟩)
                  | cases hst
              obtain ⟨rfl, e1, e2⟩ := simAStM hst
              exact simASt hst hd hx hb hR (fun H1 l1 q hR1 => by
                have := ih _ _ _ _ _ _ _ h okr hL hR1 (hlo2 l1 q) (by omega) (by omega)
                rw [e1, e2] at this
                exact this)
            case lastore =>
              simp only [okJ, decide_eq_true_eq] at ok
              subst ok
              have hst : pLSt (ls, st, M) = some r := hst
              obtain ⟨⟨ls', st', M'⟩, rfl⟩ : ∃ c', r = .inl c' := by
                revert hst
                unfold pLSt
                intro hst
                repeat' split at hst
                all_goals first
                  | (cases hst; exact ⟨_, rfl⟩)
                  | cases hst
              obtain ⟨rfl, e1, e2⟩ := simLStM hst
              exact simLSt hst hd hx hb hR (fun H1 l1 q hR1 => by
                have := ih _ _ _ _ _ _ _ h okr hL hR1 (hlo2 l1 q) (by omega) (by omega)
                rw [e1, e2] at this
                exact this)
            case aastore =>
              simp only [okJ, decide_eq_true_eq] at ok
              subst ok
              have hst : pQSt (ls, st, M) = some r := hst
              obtain ⟨⟨ls', st', M'⟩, rfl⟩ : ∃ c', r = .inl c' := by
                revert hst
                unfold pQSt
                intro hst
                repeat' split at hst
                all_goals first
                  | (cases hst; exact ⟨_, rfl⟩)
                  | cases hst
              obtain ⟨rfl, e1, e2⟩ := simQStM hst
              exact simQSt hst hd hx hb hR (fun H1 l1 q hR1 => by
                have := ih _ _ _ _ _ _ _ h okr hL hR1 (hlo2 l1 q) (by omega) (by omega)
                rw [e1, e2] at this
                exact this)
            all_goals sorry
end BL
