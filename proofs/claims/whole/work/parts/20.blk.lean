/-! A BLOCK of the machine's code does what the pure block does -/
section BK
variable {F : Nat → List Value → pMem → Option (pOut × pMem)} {J : Nat → pCfg → Option (pOut × pMem)} {hs : List (Nat × Nat × Nat)}
theorem exB_mono (hF : ∀ z as M o M', F z as M = some (o, M') → gN M ≤ gN M' ∧ gL M ≤ gL M') (hJ : ∀ b c o M', J b c = some (o, M') → gN c.2.2 ≤ gN M' ∧ gL c.2.2 ≤ gL M') : ∀ (es : List pEnt) (c : pCfg) (o : pOut) (M' : pMem), exB F J hs es c = some (o, M') → gN c.2.2 ≤ gN M' ∧ gL c.2.2 ≤ gL M' := by
  intro es
  induction es with
  | nil => intro c o M' h; cases h
  | cons e es ih =>
    intro c o M' h
    unfold exB at h
    split at h
    · rename_i c' hc
      have h1 := stE_mono hc
      have h2 := ih c' o M' h
      exact ⟨Nat.le_trans h1.1 h2.1, Nat.le_trans h1.2 h2.2⟩
    · rename_i b c' hc
      have h1 := stE_mono hc
      have h2 := hJ b c' o M' h
      exact ⟨Nat.le_trans h1.1 h2.1, Nat.le_trans h1.2 h2.2⟩
    · rename_i y as c' hc
      have h1 := stE_mono hc
      split at h
      · rename_i v M1 hv
        have h3 := hF _ _ _ _ _ hv
        have h2 := ih _ o M' h
        exact ⟨Nat.le_trans h1.1 (Nat.le_trans h3.1 h2.1), Nat.le_trans h1.2 (Nat.le_trans h3.2 h2.2)⟩
      · rename_i k M1 hv
        have h3 := hF _ _ _ _ _ hv
        split at h
        · split at h
          · cases h
            exact ⟨Nat.le_trans h1.1 h3.1, Nat.le_trans h1.2 h3.2⟩
          · split at h
            · rename_i b k9 hb
              have h2 := hJ _ _ o M' h
              exact ⟨Nat.le_trans h1.1 (Nat.le_trans h3.1 h2.1), Nat.le_trans h1.2 (Nat.le_trans h3.2 h2.2)⟩
            · cases h
        · cases h
      · cases h
    · rename_i r hc
      cases h
      exact stE_mono hc
    · cases h
theorem exM_mono {T : List (List pEnt)} (hF : ∀ z as M o M', F z as M = some (o, M') → gN M ≤ gN M' ∧ gL M ≤ gL M') : ∀ (n b : Nat) (c : pCfg) (o : pOut) (M' : pMem), exM F T hs n b c = some (o, M') → gN c.2.2 ≤ gN M' ∧ gL c.2.2 ≤ gL M' := by
  intro n
  induction n with
  | zero => intro b c o M' h; cases h
  | succ n ih =>
    intro b c o M' h
    exact exB_mono hF ih _ c o M' h
end BK
def retAt (cc : ByteArray) (ret : Option FieldType) (pc : Nat) : Option Value → Prop
  | none => decode cc pc = .ok (.return_, 1) ∧ ret = none
  | some (.int z) => decode cc pc = .ok (.ireturn, 1) ∧ (ret = some .int ∨ (ret = some .boolean ∧ (z = 0 ∨ z = 1)))
  | some .null => decode cc pc = .ok (.areturn, 1) ∧ pIsRef ret = true
  | some (.ref _) => decode cc pc = .ok (.areturn, 1) ∧ pIsRef ret = true
  | _ => False
theorem pInvV_spec {ls : pLo} {st : List Value} {M : pMem} {n : Nat} {zs : List Nat} {r : pRes} (h : pInvV (ls, st, M) n zs = some r) : ∃ hh r9 z, st.drop n = .ref hh :: r9 ∧ pFind (gS M hh).1 zs = some z ∧ pRm r9 ≤ 8 ∧ (st.take n).length = n ∧ r = .inr (.inr (.inl (z, .ref hh :: (st.take n).reverse, (ls, r9, M)))) := by
  unfold pInvV at h
  dsimp only at h
  split at h
  · rename_i hh r9 e1
    split at h
    · rename_i z e2
      split at h
      · rename_i hg
        cases h
        exact ⟨hh, r9, z, e1, e2, hg.1, hg.2, rfl⟩
      · cases h
    · cases h
  · cases h
theorem drop_spec {st r9 : List Value} {v : Value} {n : Nat} (h : st.drop n = v :: r9) (h2 : (st.take n).length = n) : st = (st.take n).reverse.reverse ++ v :: r9 ∧ (st.take n).reverse.length = n := by
  refine ⟨?_, by rw [List.length_reverse]; exact h2⟩
  rw [List.reverse_reverse, ← h, List.take_append_drop]
theorem pObj_spec {ls : pLo} {st : List Value} {M : pMem} {r : pRes} (h : pObj (ls, st, M) = some r) : ∃ a9 r9, st = .ref a9 :: r9 ∧ pRm r9 ≤ 8 ∧ r = .inl (ls, r9, M) := by
  unfold pObj at h
  dsimp only at h
  split at h
  · rename_i a9 r9
    split at h
    · rename_i hg
      cases h
      exact ⟨_, _, rfl, hg, rfl⟩
    · cases h
  · cases h
theorem pBin_spec {ls : pLo} {st : List Value} {M : pMem} {f : Int32 → Int32 → Int32} {r : pRes} (h : pBin (ls, st, M) f = some r) : ∃ x y r9, st = .int y :: .int x :: r9 ∧ r = .inl (ls, .int (f x y) :: r9, M) := by
  unfold pBin at h
  dsimp only at h
  split at h
  · rename_i y x r9
    cases h
    exact ⟨_, _, _, rfl, rfl⟩
  · cases h
theorem rest_le {base : Nat} {sp : Nat → Nat} {a b : Value} {r : List Value} {k : Nat} (h : pRm (a :: b :: r) ≤ k) : ((r.map (pTr base sp)).map fun v => v.category).sum ≤ k := by
  rw [List.map_map]
  have : ((fun v => Value.category v) ∘ pTr base sp) = fun v => v.category := by funext v; exact pTr_cat' v
  rw [this]
  unfold pRm at h
  simp only [List.map_cons, List.sum_cons] at h
  omega
theorem map_app9 {base : Nat} {sp : Nat → Nat} {v : Option Value} {r : List Value} : (v.toList ++ r).map (pTr base sp) = (v.map (pTr base sp)).toList ++ r.map (pTr base sp) := by
  cases v <;> rfl
section BL
variable {D : va_G} {base : Nat} {sp : Nat → Nat} {s0 : State} {L : Nat} {xs : Nat → Int32} {strs : List (String × Nat × String)} {len : List Nat} {byt : List (List Int32)} {adV : Nat → Nat} {ncs : List (String × String)} {l : Launch}
variable {p : Program} {e : Env} {R : Room} {s : State} {m : MethodId} {args : Array Value} {below : List Frame} {meth : Method} {c : Code} {Q : State → Prop}
variable {cc : ByteArray} {nL : Nat} {I : List pInf} {kf : List Nat} {thr : List (String × Nat × Nat)} {own mn : String} {ret : Option FieldType} {bl : List Nat} {cv : Nat → Bool} {d n0 l0 : Nat} {o : pOut} {Mf : pMem}
variable {F : Nat → List Value → pMem → Option (pOut × pMem)} {J : Nat → pCfg → Option (pOut × pMem)} {hs : List (Nat × Nat × Nat)}
set_option maxHeartbeats 4000000 in
set_option maxRecDepth 100000 in
theorem blkSim
    (IH : ∀ z f as M v M', I[z]? = some f → F z as M = some (.inl v, M') → gN M' ≤ 700000 → ConR D base sp s0 L xs strs len byt adV ncs l f d as M v M')
    (IHT : ∀ z f as M k M', I[z]? = some f → F z as M = some (.inr k, M') → gN M' ≤ 700000 → ConT D base sp s0 L xs strs len byt adV ncs l f d as M k M')
    (hF : ∀ z as M o M', F z as M = some (o, M') → gN M ≤ gN M' ∧ gL M ≤ gL M') (hJ : ∀ b c o M', J b c = some (o, M') → gN c.2.2 ≤ gN M' ∧ gL c.2.2 ≤ gL M')
    (hI : ∀ z as M r, F z as M = some r → ∃ f, I[z]? = some f)
    (K : okK I kf) (hlen : len.length = 46) (hsc : scOK base sp s0 L xs)
    (hx : p.tables.exec = Jvm.exec) (hb : c.code = cc) (hml : c.maxLocals = nL) (hown : s.vm.findClass own = some m.cls) (hmn : meth.name = mn) (hts : ∀ w ∈ GW, w.before args s = true) (hS : pSide base sp strs len byt adV ncs s) (hs0 : ∀ q : Nat, q < base → s.heap[q]? = s0.heap[q]?) (hsz0 : base ≤ s.heap.size)
    (hrf : d + 21 ≤ R.frames) (hrl : 64 * (d + 1) + 400 ≤ R.locals) (hRc : gN Mf ≤ n0 + R.cells) (hRs : gL Mf ≤ l0 + R.slots) (hbd : gN Mf ≤ 700000)
    (HJ : ∀ b ls' st' M1 Ls' H' locs', J b (ls', st', M1) = some (o, Mf) → lR base sp ls' Ls' nL → RelH D base sp s0 L xs s M1 H' → (∀ z ∈ locs', base ≤ z.base) → n0 ≤ gN M1 → l0 ≤ gL M1 → W p l e R s m args below meth c H' locs' (gN M1 - n0) (gL M1 - l0) Q (F0 m (bl.getD b 0) Ls' (st'.map (pTr base sp))))
    (KR : ∀ pc' Ls' H' locs' x, o = .inl x → retAt cc ret pc' x → RelH D base sp s0 L xs s Mf H' → (∀ z ∈ locs', base ≤ z.base) → W p l e R s m args below meth c H' locs' (gN Mf - n0) (gL Mf - l0) Q (F0 m pc' Ls' ((x.map (pTr base sp)).toList)))
    (KT : hs = [] → ∀ k pc' Ls' H' locs' q ce st', o = .inr k → RelH D base sp s0 L xs s Mf H' → (∀ z ∈ locs', base ≤ z.base) → H'[q]? = some ce → ce.vm = .none → s.vm.findClass (exN k) = some ce.cls → vx_W p l e R s m args below meth c H' locs' (gN Mf - n0) (gL Mf - l0) Q (F0 m pc' Ls' st') q)
    (KC : hs ≠ [] → ∀ k b k9 pc' ls' Ls' H' locs' q ce st' cl sl, pHnd k hs = some (b, k9) → cv pc' = true → lR base sp ls' Ls' nL → H'[q]? = some ce → ce.vm = .none → s.vm.findClass (exN k) = some ce.cls → (∀ Ls2, lR base sp (ls'.set k9 none) Ls2 nL → W p l e R s m args below meth c H' locs' cl sl Q (F0 m (bl.getD b 0) Ls2 [])) → vx_W p l e R s m args below meth c H' locs' cl sl Q (F0 m pc' Ls' st') q)
    (KX : ∀ k pc' ik r Ls' H' locs' st' M1, o = .inr k → Mf = nx M1 → decode cc pc' = .ok (.new ik, 3) → okThr strs thr own cc pc' ik k r = true → Ls'.size = nL → RelH D base sp s0 L xs s M1 H' → (∀ z ∈ locs', base ≤ z.base) → n0 ≤ gN M1 → l0 ≤ gL M1 → pRm st' ≤ 8 → W p l e R s m args below meth c H' locs' (gN M1 - n0) (gL M1 - l0) Q (F0 m pc' Ls' (st'.map (pTr base sp)))) :
    ∀ (es : List pEnt) (pc : Nat) (ls : pLo) (st : List Value) (M : pMem) (Ls : Array Slot) (H : Heap) (locs : List Loc), exB F J hs es (ls, st, M) = some (o, Mf) → okQ I kf strs thr own mn ret cc bl cv pc es = true → lR base sp ls Ls nL → RelH D base sp s0 L xs s M H → (∀ z ∈ locs, base ≤ z.base) → n0 ≤ gN M → l0 ≤ gL M → W p l e R s m args below meth c H locs (gN M - n0) (gL M - l0) Q (F0 m pc Ls (st.map (pTr base sp))) := by
  intro es
  induction es with
  | nil => intro pc ls st M Ls H locs h; cases h
  | cons en es ih =>
    intro pc ls st M Ls H locs h ok hL hR hlo hn0 hl0
    obtain ⟨pc0, i, n, an⟩ := en
    simp only [okQ, Bool.and_eq_true, decide_eq_true_eq] at ok
    obtain ⟨⟨rfl, ok⟩, okr⟩ := ok
    unfold exB at h
    have hmo := @exB_mono F J hs hF hJ es
    have hlo2 : ∀ (l1 : Loc), base ≤ l1.base → ∀ z ∈ locs ++ [l1], base ≤ z.base := fun l1 q z hz => by
      rcases List.mem_append.mp hz with q1 | q1
      · exact hlo z q1
      · simp at q1; rw [q1]; exact q
    have hlo3 : ∀ (locs1 : List Loc), (∀ z ∈ locs1, z ∈ locs ∨ base ≤ z.base) → ∀ z ∈ locs1, base ≤ z.base := fun locs1 q z hz => (q z hz).elim (hlo z) id
    by_cases hnop : i = .nop
    · subst hnop
      unfold okE at ok
      rw [if_pos rfl] at ok
      obtain ⟨h1, h2⟩ := of_decide_eq_true ok
      have hj : J (an.headD 0) (ls, st, M) = some (o, Mf) := h
      have := HJ _ ls st M Ls H locs hj hL hR hlo hn0 hl0
      rw [h2] at this
      exact this
    · unfold okE at ok
      rw [if_neg hnop] at ok
      simp only [Bool.and_eq_true, decide_eq_true_eq] at ok
      obtain ⟨hd, ok⟩ := ok
      by_cases hbr : pBrOK pc0 i n an bl = true
      · cases hst : stE (pc0, i, n, an) (ls, st, M) with
        | none => rw [hst] at h; cases h
        | some r =>
          rw [hst] at h
          refine simBr hbr hst hd hx hb (fun st' hr => ?_) (fun b st' hr => ?_)
          · subst hr
            exact ih _ _ _ _ _ _ _ h okr hL hR hlo hn0 hl0
          · subst hr
            exact HJ _ _ _ _ _ _ _ h hL hR hlo hn0 hl0
      · by_cases hea : pEasy i = true ∧ pLen1 i = n
        · cases hst : stE (pc0, i, n, an) (ls, st, M) with
          | none => rw [hst] at h; cases h
          | some r =>
            obtain ⟨⟨ls', st', M'⟩, rfl⟩ := easy_inl hea.1 hst
            have hM : M' = M := simEM hst hea.1
            subst hM
            rw [hst] at h
            exact simE hst hea.1 hea.2 hd hx hb hL (fun Ls' hL' => ih _ _ _ _ _ _ _ h okr hL' hR hlo hn0 hl0)
        · cases hst : stE (pc0, i, n, an) (ls, st, M) with
          | none => rw [hst] at h; cases h
          | some r =>
            have hst0 := hst
            rw [hst] at h
            cases i
            case ldc idx =>
              simp only [okJ, Bool.and_eq_true, decide_eq_true_eq] at ok
              obtain ⟨rfl, ok⟩ := ok
              simp only [stE] at hst
              split at ok
              · cases hst
                exact lv_ldc hx hb hown (hts _ (gw_at (of_decide_eq_true ok) rfl)) hd (ih _ _ _ _ _ _ _ h okr hL hR hlo hn0 hl0)
              · rename_i hh
                simp only [Bool.and_eq_true, decide_eq_true_eq] at ok
                obtain ⟨ok1, ok2⟩ := ok
                split at ok2
                · rename_i q hq
                  obtain ⟨e1, e2⟩ := of_decide_eq_true ok2
                  cases hst
                  have hv := hS.2.1 _ _ hq
                  rw [e1, e2] at hv
                  have had : pAd base sp hh = sp (1 + (hh - 900001)) := by
                    unfold pAd
                    rw [if_neg (by omega)]
                    have e9 : hh - 900000 = 1 + (hh - 900001) := by omega
                    rw [e9]
                  refine va_ldcS hx hb hown hv hd ?_
                  rw [← had]
                  exact ih _ _ _ _ _ _ _ h okr hL hR hlo hn0 hl0
                · cases ok2
              · cases ok
            case ldc_w idx =>
              simp only [okJ, Bool.and_eq_true, decide_eq_true_eq] at ok
              obtain ⟨rfl, ok⟩ := ok
              simp only [stE] at hst
              split at ok
              · cases hst
                exact lv_ldcw hx hb hown (hts _ (gw_at (of_decide_eq_true ok) rfl)) hd (ih _ _ _ _ _ _ _ h okr hL hR hlo hn0 hl0)
              · cases ok
            case getfield idx =>
              simp only [okJ, Bool.and_eq_true, decide_eq_true_eq] at ok
              obtain ⟨rfl, ok⟩ := ok
              have hst : pGet (ls, st, M) an = some r := hst
              obtain ⟨⟨ls', st', M'⟩, rfl⟩ : ∃ c', r = .inl c' := by
                revert hst
                unfold pGet
                intro hst
                repeat' split at hst
                all_goals first
                  | (cases hst; exact ⟨_, rfl⟩)
                  | cases hst
              obtain ⟨rfl, rfl⟩ := simGetM hst
              exact simGet hst ok hd hx hb hown hts hS.1 hR (ih _ _ _ _ _ _ _ h okr hL hR hlo hn0 hl0)
            case putfield idx =>
              simp only [okJ, Bool.and_eq_true, decide_eq_true_eq] at ok
              obtain ⟨rfl, ok⟩ := ok
              have hst : pPut (ls, st, M) an = some r := hst
              obtain ⟨⟨ls', st', M'⟩, rfl⟩ : ∃ c', r = .inl c' := by
                revert hst
                unfold pPut
                intro hst
                repeat' split at hst
                all_goals first
                  | (cases hst; exact ⟨_, rfl⟩)
                  | cases hst
              obtain ⟨rfl, e1, e2⟩ := simPutM hst
              exact simPut hst ok hd hx hb hown hmn hts hS.1 hR (fun H1 l1 q hR1 => by
                have := ih _ _ _ _ _ _ _ h okr hL hR1 (hlo2 l1 q) (by omega) (by omega)
                rw [e1, e2] at this
                exact this)
            case iaload =>
              simp only [okJ, decide_eq_true_eq] at ok
              subst ok
              have hst : pALd (ls, st, M) = some r := hst
              obtain ⟨⟨ls', st', M'⟩, rfl⟩ : ∃ c', r = .inl c' := by
                revert hst
                unfold pALd
                intro hst
                repeat' split at hst
                all_goals first
                  | (cases hst; exact ⟨_, rfl⟩)
                  | cases hst
              obtain ⟨rfl, rfl⟩ := simALdM hst
              exact simALd hst hd hx hb hR hsc (ih _ _ _ _ _ _ _ h okr hL hR hlo hn0 hl0)
            case laload =>
              simp only [okJ, decide_eq_true_eq] at ok
              subst ok
              have hst : pLLd (ls, st, M) = some r := hst
              obtain ⟨⟨ls', st', M'⟩, rfl⟩ : ∃ c', r = .inl c' := by
                revert hst
                unfold pLLd
                intro hst
                repeat' split at hst
                all_goals first
                  | (cases hst; exact ⟨_, rfl⟩)
                  | cases hst
              obtain ⟨rfl, rfl⟩ := simLLdM hst
              exact simLLd hst hd hx hb hR (ih _ _ _ _ _ _ _ h okr hL hR hlo hn0 hl0)
            case aaload =>
              simp only [okJ, decide_eq_true_eq] at ok
              subst ok
              have hst : pQLd (ls, st, M) = some r := hst
              obtain ⟨⟨ls', st', M'⟩, rfl⟩ : ∃ c', r = .inl c' := by
                revert hst
                unfold pQLd
                intro hst
                repeat' split at hst
                all_goals first
                  | (cases hst; exact ⟨_, rfl⟩)
                  | cases hst
              obtain ⟨rfl, rfl⟩ := simQLdM hst
              exact simQLd hst hd hx hb hR (ih _ _ _ _ _ _ _ h okr hL hR hlo hn0 hl0)
            case arraylength =>
              simp only [okJ, decide_eq_true_eq] at ok
              subst ok
              have hst : pLen (ls, st, M) = some r := hst
              obtain ⟨⟨ls', st', M'⟩, rfl⟩ : ∃ c', r = .inl c' := by
                revert hst
                unfold pLen
                intro hst
                repeat' split at hst
                all_goals first
                  | (cases hst; exact ⟨_, rfl⟩)
                  | cases hst
              obtain ⟨rfl, rfl⟩ := simLenM hst
              exact simLen hst hd hx hb hR hsc (ih _ _ _ _ _ _ _ h okr hL hR hlo hn0 hl0)
            case iastore =>
              simp only [okJ, decide_eq_true_eq] at ok
              subst ok
              have hst : pASt (ls, st, M) = some r := hst
              obtain ⟨⟨ls', st', M'⟩, rfl⟩ : ∃ c', r = .inl c' := by
                revert hst
                unfold pASt
                intro hst
                repeat' split at hst
                all_goals first
                  | (cases hst; exact ⟨_, rfl⟩)
                  | cases hst
              obtain ⟨rfl, e1, e2⟩ := simAStM hst
              exact simASt hst hd hx hb hR (fun H1 l1 q hR1 => by
                have := ih _ _ _ _ _ _ _ h okr hL hR1 (hlo2 l1 q) (by omega) (by omega)
                rw [e1, e2] at this
                exact this)
            case lastore =>
              simp only [okJ, decide_eq_true_eq] at ok
              subst ok
              have hst : pLSt (ls, st, M) = some r := hst
              obtain ⟨⟨ls', st', M'⟩, rfl⟩ : ∃ c', r = .inl c' := by
                revert hst
                unfold pLSt
                intro hst
                repeat' split at hst
                all_goals first
                  | (cases hst; exact ⟨_, rfl⟩)
                  | cases hst
              obtain ⟨rfl, e1, e2⟩ := simLStM hst
              exact simLSt hst hd hx hb hR (fun H1 l1 q hR1 => by
                have := ih _ _ _ _ _ _ _ h okr hL hR1 (hlo2 l1 q) (by omega) (by omega)
                rw [e1, e2] at this
                exact this)
            case aastore =>
              simp only [okJ, decide_eq_true_eq] at ok
              subst ok
              have hst : pQSt (ls, st, M) = some r := hst
              obtain ⟨⟨ls', st', M'⟩, rfl⟩ : ∃ c', r = .inl c' := by
                revert hst
                unfold pQSt
                intro hst
                repeat' split at hst
                all_goals first
                  | (cases hst; exact ⟨_, rfl⟩)
                  | cases hst
              obtain ⟨rfl, e1, e2⟩ := simQStM hst
              exact simQSt hst hd hx hb hR (fun H1 l1 q hR1 => by
                have := ih _ _ _ _ _ _ _ h okr hL hR1 (hlo2 l1 q) (by omega) (by omega)
                rw [e1, e2] at this
                exact this)
            case newarray at9 =>
              cases at9
              case int =>
                simp only [okJ, decide_eq_true_eq] at ok
                subst ok
                have hst : pNewA (ls, st, M) 100 = some r := hst
                obtain ⟨⟨ls', st', M'⟩, rfl⟩ : ∃ c', r = .inl c' := by
                  revert hst
                  unfold pNewA
                  intro hst
                  repeat' split at hst
                  all_goals first
                    | (cases hst; exact ⟨_, rfl⟩)
                    | cases hst
                obtain ⟨rfl, e1, e2⟩ := simNewAM hst
                have hm2 := hmo _ _ _ h
                dsimp only at hm2
                refine simNewA hst hx hb ⟨own, hown, Or.inl ⟨rfl, hd, hts _ okL_ok.2.2.2.1⟩⟩ hR (by omega) (by omega) (by omega) (fun H1 hR1 => ?_)
                have := ih _ _ _ _ _ _ _ h okr hL hR1 hlo (by omega) (by omega)
                rw [show gN M' - n0 = gN M - n0 + 1 by omega, show gL M' - l0 = gL M - l0 + (gL M' - gL M) by omega] at this
                exact this
              case long =>
                simp only [okJ, decide_eq_true_eq] at ok
                subst ok
                have hst : pNewA (ls, st, M) 101 = some r := hst
                obtain ⟨⟨ls', st', M'⟩, rfl⟩ : ∃ c', r = .inl c' := by
                  revert hst
                  unfold pNewA
                  intro hst
                  repeat' split at hst
                  all_goals first
                    | (cases hst; exact ⟨_, rfl⟩)
                    | cases hst
                obtain ⟨rfl, e1, e2⟩ := simNewAM hst
                have hm2 := hmo _ _ _ h
                dsimp only at hm2
                refine simNewA hst hx hb ⟨own, hown, Or.inr (Or.inl ⟨rfl, hd, hts _ okL_ok.2.2.2.2⟩)⟩ hR (by omega) (by omega) (by omega) (fun H1 hR1 => ?_)
                have := ih _ _ _ _ _ _ _ h okr hL hR1 hlo (by omega) (by omega)
                rw [show gN M' - n0 = gN M - n0 + 1 by omega, show gL M' - l0 = gL M - l0 + (gL M' - gL M) by omega] at this
                exact this
              all_goals cases hst
            case anewarray idx =>
              simp only [okJ, Bool.and_eq_true, decide_eq_true_eq] at ok
              obtain ⟨rfl, ok⟩ := ok
              have hst : pNewA (ls, st, M) 102 = some r := hst
              obtain ⟨⟨ls', st', M'⟩, rfl⟩ : ∃ c', r = .inl c' := by
                revert hst
                unfold pNewA
                intro hst
                repeat' split at hst
                all_goals first
                  | (cases hst; exact ⟨_, rfl⟩)
                  | cases hst
              obtain ⟨rfl, e1, e2⟩ := simNewAM hst
              have hm2 := hmo _ _ _ h
              dsimp only at hm2
              refine simNewA hst hx hb ⟨own, hown, Or.inr (Or.inr ⟨rfl, idx, hd, hts _ (gw_at ok rfl), hS.2.2.1⟩)⟩ hR (by omega) (by omega) (by omega) (fun H1 hR1 => ?_)
              have := ih _ _ _ _ _ _ _ h okr hL hR1 hlo (by omega) (by omega)
              rw [show gN M' - n0 = gN M - n0 + 1 by omega, show gL M' - l0 = gL M - l0 + (gL M' - gL M) by omega] at this
              exact this
            case new idx =>
              simp only [okJ, Bool.and_eq_true, decide_eq_true_eq] at ok
              obtain ⟨rfl, ok⟩ := ok
              simp only [stE] at hst
              split at ok
              · rename_i t N p1 p2 p3 q9
                unfold okNew at ok
                split at ok
                · rename_i r0 hr0
                  obtain ⟨g1, rfl, g3, g4, g5⟩ := of_decide_eq_true ok
                  cases hst
                  have hm2 := hmo _ _ _ h
                  have hm3 : gN (nw M t 0 r0.2.2) = gN M + 1 ∧ gL (nw M t 0 r0.2.2) = gL M + r0.2.2 := ⟨rfl, rfl⟩
                  dsimp only at hm2
                  refine simNew hx hb hd hown hts g1 hr0 (hts _ (gw_at g3 rfl)) (hts _ (gw_at g4 rfl)) (hts _ (gw_at g5 rfl)) hR (by omega) (by omega) (by omega) (fun H1 hR1 => ?_)
                  have := ih _ _ _ _ _ _ _ h okr hL hR1 hlo (by omega) (by omega)
                  rw [show gN (nw M t 0 r0.2.2) - n0 = gN M - n0 + 1 by omega, show gL (nw M t 0 r0.2.2) - l0 = gL M - l0 + r0.2.2 by omega] at this
                  exact this
                · cases ok
              · rename_i k r0
                have hst : (if pRm st ≤ 8 then pEnd (.inr k) (nx M) else none) = some r := hst
                split at hst
                · rename_i hrm
                  cases hst
                  cases h
                  exact KX k pc0 idx r0 Ls H locs st M rfl rfl hd ok hL.2.1 hR hlo hn0 hl0 hrm
                · cases hst
              · cases ok
            case ireturn =>
              simp only [okJ, Bool.and_eq_true, decide_eq_true_eq] at ok
              obtain ⟨rfl, ok⟩ := ok
              simp only [stE] at hst
              split at hst
              · rename_i z
                split at hst
                · rename_i hz
                  cases hst
                  cases h
                  refine KR pc0 Ls H locs (some (.int z)) rfl ⟨hd, ?_⟩ hR hlo
                  rcases ok with ⟨q1, q2⟩ | ⟨q1, q2⟩
                  · exact Or.inl q2
                  · rcases hz with q3 | ⟨-, q3⟩
                    · rw [q1] at q3; cases q3
                    · exact Or.inr ⟨q2, q3⟩
                · cases hst
              · cases hst
            case areturn =>
              simp only [okJ, Bool.and_eq_true, decide_eq_true_eq] at ok
              obtain ⟨rfl, ok⟩ := ok
              simp only [stE] at hst
              split at hst
              · rename_i z
                cases hst
                cases h
                exact KR pc0 Ls H locs (some (.ref z)) rfl ⟨hd, ok⟩ hR hlo
              · cases hst
                cases h
                exact KR pc0 Ls H locs (some .null) rfl ⟨hd, ok⟩ hR hlo
              · cases hst
            case return_ =>
              simp only [okJ, decide_eq_true_eq] at ok
              obtain ⟨rfl, ok⟩ := ok
              simp only [stE] at hst
              split at hst
              · cases hst
                cases h
                exact KR pc0 Ls H locs none rfl ⟨hd, ok⟩ hR hlo
              · cases hst
            case invokespecial idx =>
              simp only [okJ, Bool.and_eq_true, decide_eq_true_eq] at ok
              obtain ⟨rfl, ok⟩ := ok
              simp only [stE] at hst
              split at ok
              · rename_i p9 q9
                have hst : pObj (ls, st, M) = some r := hst
                obtain ⟨a9, r9, rfl, hrm, rfl⟩ := pObj_spec hst
                have hrm2 := rest_ok (base := base) (sp := sp) hrm
                refine W.objInit hx hb hown (hts _ (gw_at (of_decide_eq_true ok) rfl)) (hts _ okL_ok.2.2.1.1) (hts _ okL_ok.2.2.1.2) rfl (hL.2.1.trans hml.symm) rfl hd (by omega) (by show 2 * 0 + _ + 12 ≤ _; omega) ?_
                exact ih _ _ _ _ _ _ _ h okr hL hR hlo hn0 hl0
              · rename_i kind nn p0 p1 zs hne
                simp only [Bool.and_eq_true, decide_eq_true_eq] at ok
                obtain ⟨hk, hz⟩ := ok
                have hst : pInvV (ls, st, M) nn zs = some r := by
                  rcases hk with rfl | rfl <;> exact hst
                obtain ⟨hh, r9, z, e1, e2, e3, e4, rfl⟩ := pInvV_spec hst
                obtain ⟨hap, hlen9⟩ := drop_spec e1 e4
                dsimp only at h
                split at h
                · rename_i v M' hv
                  obtain ⟨f, hf⟩ := hI _ _ _ _ hv
                  have hm2 := hmo _ _ _ h
                  have hm1 := hF _ _ _ _ _ hv
                  dsimp only at hm2 hm1
                  have hC := IH _ _ _ _ _ _ hf hv (by omega)
                  rw [hap]
                  refine pcallI hf K (okZs_at zs hz e2) hk hx hb hml hown hts hS hs0 hR hrf hrl hC hlen9 e3 hL.2.1 hd (by omega) (by omega) (fun H1 locs1 hl1 hR1 => ?_)
                  have := ih _ _ _ _ _ _ _ h okr hL hR1 (hlo3 locs1 hl1) (by omega) (by omega)
                  rw [show gN M' - n0 = gN M - n0 + (gN M' - gN M) by omega, show gL M' - l0 = gL M - l0 + (gL M' - gL M) by omega, map_app9] at this
                  exact this
                · split at h
                  · rename_i q9
                    rcases hk with rfl | rfl <;> (dsimp only [List.headD] at q9; omega)
                  · cases h
                · cases h
              · cases ok
            case invokevirtual idx =>
              simp only [okJ, Bool.and_eq_true, decide_eq_true_eq] at ok
              obtain ⟨⟨rfl, hcv⟩, ok⟩ := ok
              simp only [stE] at hst
              split at ok
              · rename_i kind nn p0 p1 zs
                simp only [Bool.and_eq_true, decide_eq_true_eq] at ok
                obtain ⟨hk, hz⟩ := ok
                have hst : pInvV (ls, st, M) nn zs = some r := hst
                obtain ⟨hh, r9, z, e1, e2, e3, e4, rfl⟩ := pInvV_spec hst
                obtain ⟨hap, hlen9⟩ := drop_spec e1 e4
                have hcall := okZs_at zs hz e2
                dsimp only at h
                split at h
                · rename_i v M' hv
                  obtain ⟨f, hf⟩ := hI _ _ _ _ hv
                  have hm2 := hmo _ _ _ h
                  have hm1 := hF _ _ _ _ _ hv
                  dsimp only at hm2 hm1
                  have hC := IH _ _ _ _ _ _ hf hv (by omega)
                  rw [hap]
                  have fin : ∀ (H1 : Heap) (locs1 : List Loc), (∀ z ∈ locs1, z ∈ locs ∨ base ≤ z.base) → RelH D base sp s0 L xs s M' H1 → W p l e R s m args below meth c H1 locs1 (gN M - n0 + (gN M' - gN M)) (gL M - l0 + (gL M' - gL M)) Q (F0 m (pc0 + 3) Ls ((v.map (pTr base sp)).toList ++ r9.map (pTr base sp))) := fun H1 locs1 hl1 hR1 => by
                    have := ih _ _ _ _ _ _ _ h okr hL hR1 (hlo3 locs1 hl1) (by omega) (by omega)
                    rw [show gN M' - n0 = gN M - n0 + (gN M' - gN M) by omega, show gL M' - l0 = gL M - l0 + (gL M' - gL M) by omega, map_app9] at this
                    exact this
                  by_cases h19 : kind = 19
                  · subst h19
                    have ht : (gS M hh).1 = 104 := by
                      unfold okCall at hcall
                      rw [hf] at hcall
                      simp only [Bool.and_eq_true, decide_eq_true_eq] at hcall
                      exact hcall.2.2.2.2.2
                    obtain ⟨b1, b2⟩ := hR.str (k := hh) (n := (gS M hh).2) (by rw [← ht])
                    rw [ht] at hcall
                    exact pcallStr hf K hcall (j := hh - 900001) (by omega) (by omega) hx hb hml hown hts hS hs0 hsz0 hR hrf hrl hC hlen9 e3 hL.2.1 hd (by omega) (by omega) fin
                  · exact pcallV hf K hcall (by omega) hx hb hml hown hts hS hs0 hR hrf hrl hC rfl hlen9 e3 hL.2.1 hd (by omega) (by omega) fin
                · rename_i k M' hv
                  obtain ⟨f, hf⟩ := hI _ _ _ _ hv
                  have hm1 := hF _ _ _ _ _ hv
                  (try dsimp only at hm1)
                  split at h
                  · rename_i q9
                    have h10 : kind = 10 := by
                      rcases q9 with q9 | q9
                      · exact q9
                      · have q9 : kind = 20 := q9
                        omega
                    subst h10
                    split at h
                    · cases h
                      have hC := IHT _ _ _ _ _ _ hf hv hbd
                      rw [hap]
                      refine pcallVX hf K hcall hx hb hml hown hts hS hs0 hR hrf hrl hC rfl hlen9 e3 hL.2.1 hd (by omega) (by omega) (fun H1 locs1 q ce hl1 hR1 c1 c2 c3 => ?_)
                      have := KT rfl k pc0 Ls H1 locs1 q ce (r9.map (pTr base sp)) rfl hR1 (hlo3 locs1 hl1) c1 c2 c3
                      rw [show gN Mf - n0 = gN M - n0 + (gN Mf - gN M) by omega, show gL Mf - l0 = gL M - l0 + (gL Mf - gL M) by omega] at this
                      exact this
                    · rename_i hs9 hne9
                      split at h
                      · rename_i b9 k9 hb9
                        have hj := hJ _ _ _ _ h
                        dsimp only at hj
                        have hC := IHT _ _ _ _ _ _ hf hv (by omega)
                        rw [hap]
                        refine pcallVX hf K hcall hx hb hml hown hts hS hs0 hR hrf hrl hC rfl hlen9 e3 hL.2.1 hd (by omega) (by omega) (fun H1 locs1 q ce hl1 hR1 c1 c2 c3 => ?_)
                        refine KC (fun q => hne9 q) k b9 k9 pc0 ls Ls H1 locs1 q ce _ _ _ hb9 hcv hL c1 c2 c3 (fun Ls2 hL2 => ?_)
                        have := HJ _ _ _ _ Ls2 H1 locs1 h hL2 hR1 (hlo3 locs1 hl1) (by omega) (by omega)
                        rw [show gN M' - n0 = gN M - n0 + (gN M' - gN M) by omega, show gL M' - l0 = gL M - l0 + (gL M' - gL M) by omega] at this
                        exact this
                      · cases h
                  · cases h
                · cases h
              · cases ok
            case invokestatic idx =>
              simp only [okJ, Bool.and_eq_true, decide_eq_true_eq] at ok
              obtain ⟨⟨rfl, hcv⟩, ok⟩ := ok
              simp only [stE] at hst
              split at ok
              · rename_i p9 q9
                have hst : (if pRm st ≤ 16 then pBin (ls, st, M) (fun x y => if x < y then y else x) else none) = some r := hst
                split at hst
                · rename_i hrm
                  obtain ⟨x, y, r9, rfl, rfl⟩ := pBin_spec hst
                  have hrm2 := rest_le (base := base) (sp := sp) hrm
                  refine va_mmax hx hb (hml.trans hL.2.1.symm) hown (hts _ (gw_at (of_decide_eq_true ok) rfl)) (hts _ okL_ok.1.1) (hts _ okL_ok.1.2.2.1) (hts _ okL_ok.1.2.2.2.1) (by omega) (by omega) (by have := hmo _ _ _ h; dsimp only at this; omega) (by have := hmo _ _ _ h; dsimp only at this; omega) hd ?_
                  exact ih _ _ _ _ _ _ _ h okr hL hR hlo hn0 hl0
                · cases hst
              · rename_i p9 q9
                have hst : (if pRm st ≤ 16 then pBin (ls, st, M) (fun x y => if y < x then y else x) else none) = some r := hst
                split at hst
                · rename_i hrm
                  obtain ⟨x, y, r9, rfl, rfl⟩ := pBin_spec hst
                  have hrm2 := rest_le (base := base) (sp := sp) hrm
                  refine va_mmin hx hb (hml.trans hL.2.1.symm) hown (hts _ (gw_at (of_decide_eq_true ok) rfl)) (hts _ okL_ok.1.2.1) (hts _ okL_ok.1.2.2.1) (hts _ okL_ok.1.2.2.2.2) (by omega) (by omega) (by have := hmo _ _ _ h; dsimp only at this; omega) (by have := hmo _ _ _ h; dsimp only at this; omega) hd ?_
                  exact ih _ _ _ _ _ _ _ h okr hL hR hlo hn0 hl0
                · cases hst
              · rename_i p9 q9
                have hst : pCpy (ls, st, M) = some r := hst
                obtain ⟨⟨ls', st', M'⟩, rfl⟩ : ∃ c', r = .inl c' := by
                  revert hst
                  unfold pCpy
                  intro hst
                  repeat' split at hst
                  all_goals first
                    | (cases hst; exact ⟨_, rfl⟩)
                    | cases hst
                obtain ⟨rfl, e1, e2⟩ := simCpyM hst
                have hnf : nativeFrameWords "java/lang/System" "arraycopy" 5 ≤ 100 := by decide +kernel
                refine simCpy hst hx hb (hml.trans hL.2.1.symm) hd hown (hts _ (gw_at (of_decide_eq_true ok) rfl)) (hts _ okL_ok.2.1.1) (hts _ okL_ok.2.1.2.1) (hts _ okL_ok.2.1.2.2) hR (by omega) (by omega) (fun H1 locs1 hl1 hR1 => ?_)
                have := ih _ _ _ _ _ _ _ h okr hL hR1 (hlo3 locs1 hl1) (by omega) (by omega)
                rw [e1, e2] at this
                exact this
              · rename_i kind nn p0 p1 z q9 hne1 hne2 hne3
                simp only [Bool.and_eq_true, decide_eq_true_eq] at ok
                obtain ⟨hk, hcall⟩ := ok
                have hst : pInvS (ls, st, M) nn z = some r := by
                  rcases hk with rfl | rfl | rfl <;> exact hst
                unfold pInvS at hst
                dsimp only at hst
                split at hst
                · rename_i hg
                  obtain ⟨e3, e4⟩ := hg
                  cases hst
                  have hap : st = (List.take nn st).reverse.reverse ++ List.drop nn st := by rw [List.reverse_reverse, List.take_append_drop]
                  have hlen9 : (List.take nn st).reverse.length = nn := by rw [List.length_reverse]; exact e4
                  dsimp only at h
                  split at h
                  · rename_i v M' hv
                    obtain ⟨f, hf⟩ := hI _ _ _ _ hv
                    have hm2 := hmo _ _ _ h
                    have hm1 := hF _ _ _ _ _ hv
                    dsimp only at hm2 hm1
                    have hC := IH _ _ _ _ _ _ hf hv (by omega)
                    rw [hap]
                    refine pcallS hf K hcall hk hx hb hml hown hts hS hs0 hR hrf hrl hC hlen9 e3 hL.2.1 hd (by omega) (by omega) (fun H1 locs1 hl1 hR1 => ?_)
                    have := ih _ _ _ _ _ _ _ h okr hL hR1 (hlo3 locs1 hl1) (by omega) (by omega)
                    rw [show gN M' - n0 = gN M - n0 + (gN M' - gN M) by omega, show gL M' - l0 = gL M - l0 + (gL M' - gL M) by omega, map_app9] at this
                    exact this
                  · rename_i k M' hv
                    obtain ⟨f, hf⟩ := hI _ _ _ _ hv
                    have hm1 := hF _ _ _ _ _ hv
                    (try dsimp only at hm1)
                    split at h
                    · rename_i q9
                      have h20 : kind = 20 := by
                        rcases q9 with q9 | q9
                        · have q9 : kind = 10 := q9
                          omega
                        · exact q9
                      subst h20
                      split at h
                      · cases h
                        have hC := IHT _ _ _ _ _ _ hf hv hbd
                        rw [hap]
                        refine pcallSX hf K hcall hx hb hml hown hts hS hs0 hR hrf hrl hC hlen9 e3 hL.2.1 hd (by omega) (by omega) (fun H1 locs1 q ce hl1 hR1 c1 c2 c3 => ?_)
                        have := KT rfl k pc0 Ls H1 locs1 q ce ((List.drop nn st).map (pTr base sp)) rfl hR1 (hlo3 locs1 hl1) c1 c2 c3
                        rw [show gN Mf - n0 = gN M - n0 + (gN Mf - gN M) by omega, show gL Mf - l0 = gL M - l0 + (gL Mf - gL M) by omega] at this
                        exact this
                      · rename_i hs9 hne9
                        split at h
                        · rename_i b9 k9 hb9
                          have hj := hJ _ _ _ _ h
                          dsimp only at hj
                          have hC := IHT _ _ _ _ _ _ hf hv (by omega)
                          rw [hap]
                          refine pcallSX hf K hcall hx hb hml hown hts hS hs0 hR hrf hrl hC hlen9 e3 hL.2.1 hd (by omega) (by omega) (fun H1 locs1 q ce hl1 hR1 c1 c2 c3 => ?_)
                          refine KC (fun q => hne9 q) k b9 k9 pc0 ls Ls H1 locs1 q ce _ _ _ hb9 hcv hL c1 c2 c3 (fun Ls2 hL2 => ?_)
                          have := HJ _ _ _ _ Ls2 H1 locs1 h hL2 hR1 (hlo3 locs1 hl1) (by omega) (by omega)
                          rw [show gN M' - n0 = gN M - n0 + (gN M' - gN M) by omega, show gL M' - l0 = gL M - l0 + (gL M' - gL M) by omega] at this
                          exact this
                        · cases h
                    · cases h
                  · cases h
                · cases hst
              · cases ok
            all_goals first
              | (cases ok; done)
              | (simp only [okJ, Bool.or_eq_true, Bool.and_eq_true, decide_eq_true_eq] at ok; exact ok.elim (fun q1 => absurd q1 hbr) (fun q1 => absurd q1 hea))
              | (exact absurd rfl hnop)
end BL
