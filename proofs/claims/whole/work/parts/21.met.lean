/-! A METHOD's contract, out of its pure run -/
theorem pMetH {l : Launch} {y : MethodName} {ws ws' : List Cond} {rm : Room} {Pc : Array Value → State → Prop} {Qc : Array Value → State → Outcome → State → Prop} {mc ms : Nat} {free : Addr → Prop} {cc : ByteArray} {maxL : Nat} {ret : Option FieldType} {hh : List (Nat × Nat × Nat × Nat)}
    (hy : plainName y.cls = true) (hw : ws = Cond.codeWith y cc maxL ret hh :: ws')
    (body : ∀ p e s m args below meth c s₁, BodyLoose p l y (headSpec ws rm) cc maxL ret e s m args below meth c s₁ → c.maxLocals = maxL → Pc args s →
      W p l e (headSpec ws rm).room s m args below meth c s.heap [] 0 0 (MQ below Qc args s mc ms free) (entryFrame m args maxL)) : Met l y ws rm Pc Qc mc ms free := by
  refine MetFree.of_bodyS (code := cc) (maxLocals := maxL) (ret := ret) hy ?_ ?_
  · intro args s m h hn
    obtain ⟨m9, meth, c, hn9, h1, h2, h3, h4, -, h5, h6, -⟩ := Cond.codeWith_spec (atoms_spec (ws := ws) h _ (by rw [hw]; exact List.mem_cons_self))
    cases hn.symm.trans hn9
    exact ⟨meth, c, h1, h2, h3, h4, h5, h6⟩
  · intro p e s m args below meth c s₁ B hml hP _
    have hh0 : s₁.heap = s.heap := by rw [B.state]; rfl
    obtain ⟨t, a1, o, b1, b2, b3⟩ := body p e s m args below meth c s₁ B hml hP s₁ hh0 (Stand.of_body B)
    exact ⟨t, o, a1, b1, b2, b3⟩
theorem lg_sl1 {base : Nat} {sp : Nat → Nat} : ∀ (as : List Value), as.all pCat1 = true → lg_sl (as.map (pTr base sp)) = (as.map (pTr base sp)).map Slot.val := by
  intro as
  induction as with
  | nil => intro _; rfl
  | cons v as ih =>
    intro h
    simp only [List.all_cons, Bool.and_eq_true] at h
    have hc : ¬ (pTr base sp v).category = 2 := by rw [pTr_cat h.1]; decide
    have := ih h.2
    simp only [lg_sl, List.map_cons, List.flatMap_cons] at this ⊢
    rw [if_neg hc, this]
    rfl
theorem lv_args1 {base : Nat} {sp : Nat → Nat} : ∀ (as : List Value) (i : Nat), as.all pCat1 = true → ∀ (j : Nat) (v : Value), as[j]? = some v → (i + j, pTr base sp v) ∈ lv_args i (as.map (pTr base sp)) := by
  intro as
  induction as with
  | nil => intro i _ j v h; simp at h
  | cons a as ih =>
    intro i h j v hj
    simp only [List.all_cons, Bool.and_eq_true] at h
    have hc : ¬ (pTr base sp a).category = 2 := by rw [pTr_cat h.1]; decide
    simp only [List.map_cons, lv_args]
    rw [if_neg hc]
    cases j with
    | zero => simp at hj; subst hj; simp
    | succ j =>
      have := ih (i + 1) h.2 j v (by simpa using hj)
      rw [show i + (j + 1) = i + 1 + j by omega]
      exact List.mem_cons_of_mem _ this
/-- the entry's locals -/
theorem lR_entry {base : Nat} {sp : Nat → Nat} {as : List Value} {nL : Nat} {m : MethodId} (h1 : as.length ≤ nL) (h2 : as.all pCat1 = true) : ∃ Ls, entryFrame m (as.map (pTr base sp)).toArray nL = F0 m 0 Ls [] ∧ lR base sp (as.map some ++ List.replicate (nL - as.length) none) Ls nL := by
  have hl : (lg_sl (as.map (pTr base sp))).length = as.length := by rw [lg_sl1 as h2]; simp
  refine ⟨_, lg_entry_eq m _ nL, ?_⟩
  obtain ⟨a1, a2, a3⟩ := lv_entry (as.map (pTr base sp)) (n := nL) (by rw [hl]; exact h1)
  refine ⟨by simp; omega, a1, a2, fun i v hi => ?_⟩
  have hlt : i < as.length := by
    rcases Nat.lt_or_ge i as.length with q | q
    · exact q
    · rw [List.getElem?_append_right (by simpa using q)] at hi
      simp at hi
      rw [List.getElem?_replicate] at hi
      split at hi <;> cases hi
  rw [List.getElem?_append_left (by simpa using hlt)] at hi
  have hv : as[i]? = some v := by
    rw [List.getElem?_map] at hi
    cases hq : as[i]? with
    | none => rw [hq] at hi; cases hi
    | some w => rw [hq] at hi; cases hi; rfl
  refine ⟨List.all_eq_true.mp h2 v (List.mem_of_getElem? hv), ?_⟩
  have := a3 _ (lv_args1 (base := base) (sp := sp) as 0 h2 i v hv)
  simpa using this
/-- which program counters the handlers cover -/
def cvOf (hh : List (Nat × Nat × Nat × Nat)) (pc : Nat) : Bool := (tableOf hh).all (fun x => covers x pc)
/-- the handlers, as the pure machine has them -/
def okH1 (own : String) (cc : ByteArray) (bl : List Nat) (hp ct k blk k9 : Nat) : Bool := decide (ct ≠ 0) && lw_tb2.contains (.classLink own ct (exN k)) && lw_tb2.contains (.castable (exN k) (exN k)) &&
    (match decode cc hp with
    | .ok (.astore j, 2) => decide (j = k9 ∧ bl.getD blk 0 = hp + 2)
    | .ok (.astore_n j, 1) => decide ((j : Nat) = k9 ∧ bl.getD blk 0 = hp + 1)
    | _ => false)
def okH (ncs : List (String × String)) (own : String) (cc : ByteArray) (nL : Nat) (bl : List Nat) : List (Nat × Nat × Nat × Nat) → List (Nat × Nat × Nat) → Bool
  | [], [] => true
  | [(_, _, hp, ct)], [(k, blk, k9)] => okH1 own cc bl hp ct k blk k9 && decide (k9 < nL)
  | [(_, _, hp, ct), (_, _, hp2, ct2)], [(k, blk, k9), (k2, blk2, k92)] => okH1 own cc bl hp ct k blk k9 && okH1 own cc bl hp2 ct2 k2 blk2 k92 && ncs.contains (exN k2, exN k) && decide (k9 < nL ∧ k92 < nL ∧ k ≠ k2)
  | _, _ => false
section MC
variable {base : Nat} {sp : Nat → Nat} {strs : List (String × Nat × String)} {len : List Nat} {byt : List (List Int32)} {adV : Nat → Nat} {ncs : List (String × String)} {l : Launch}
variable {p : Program} {e : Env} {R : Room} {s : State} {m : MethodId} {args : Array Value} {below : List Frame} {meth : Method} {c : Code} {Q : State → Prop}
/-- a handler's first instruction -/
theorem catch1 {own : String} {cc : ByteArray} {bl : List Nat} {hp ct k blk k9 nL : Nat} {ls' : pLo} {Ls' : Array Slot} {H' : Heap} {locs' : List Loc} {q : Addr} {cl sl : Nat} (ok : okH1 own cc bl hp ct k blk k9 = true) (hk9 : k9 < nL) (hx : p.tables.exec = Jvm.exec) (hb : c.code = cc) (hL : lR base sp ls' Ls' nL)
    (kk : ∀ Ls2, lR base sp (ls'.set k9 none) Ls2 nL → W p l e R s m args below meth c H' locs' cl sl Q (F0 m (bl.getD blk 0) Ls2 [])) : W p l e R s m args below meth c H' locs' cl sl Q (F0 m hp Ls' [.ref q]) := by
  unfold okH1 at ok
  simp only [Bool.and_eq_true] at ok
  obtain ⟨-, ok⟩ := ok
  split at ok
  · rename_i j hd
    obtain ⟨rfl, e1⟩ := of_decide_eq_true ok
    refine lv_astore hx hb hd hL.has hk9 rfl (fun Ls2 h2 => ?_)
    rw [← e1]
    exact kk Ls2 (hL.drop h2)
  · rename_i j hd
    obtain ⟨rfl, e1⟩ := of_decide_eq_true ok
    refine lv_astore_n hx hb hd rfl hL.has hk9 rfl (fun Ls2 h2 => ?_)
    rw [← e1]
    exact kk Ls2 (hL.drop h2)
  · cases ok
theorem okH1_facts {own : String} {cc : ByteArray} {bl : List Nat} {hp ct k blk k9 : Nat} (ok : okH1 own cc bl hp ct k blk k9 = true) (hts : ∀ w ∈ GW, w.before args s = true) (hsw : ∀ w ∈ SW, va_Nw w s) : ct ≠ 0 ∧ (Cond.classLink own ct (exN k)).before args s = true ∧ (Cond.castable (exN k) (exN k)).before args s = true := by
  unfold okH1 at ok
  simp only [Bool.and_eq_true, decide_eq_true_eq] at ok
  obtain ⟨⟨⟨h1, h2⟩, h3⟩, -⟩ := ok
  exact ⟨h1, hts _ (gw_has h2 rfl), (hsw _ (sw_has h3 rfl)).use rfl⟩
theorem catchH {own : String} {cc : ByteArray} {nL : Nat} {bl : List Nat} {hh : List (Nat × Nat × Nat × Nat)} {hs : List (Nat × Nat × Nat)} (ok : okH ncs own cc nL bl hh hs = true) (hx : p.tables.exec = Jvm.exec) (hb : c.code = cc) (hown : s.vm.findClass own = some m.cls) (htab : c.exceptionTable.toList = tableOf hh) (hts : ∀ w ∈ GW, w.before args s = true) (hsw : ∀ w ∈ SW, va_Nw w s) (hnc : ∀ q ∈ ncs, va_Nc q.1 q.2 s)
    (k b k9 pc' : Nat) (ls' : pLo) (Ls' : Array Slot) (H' : Heap) (locs' : List Loc) (q : Addr) (ce : Cell) (st' : List Value) (cl sl : Nat) (hk : pHnd k hs = some (b, k9)) (hcv : cvOf hh pc' = true) (hL : lR base sp ls' Ls' nL) (h1 : H'[q]? = some ce) (h2 : ce.vm = .none) (h3 : s.vm.findClass (exN k) = some ce.cls)
    (kk : ∀ Ls2, lR base sp (ls'.set k9 none) Ls2 nL → W p l e R s m args below meth c H' locs' cl sl Q (F0 m (bl.getD b 0) Ls2 [])) : vx_W p l e R s m args below meth c H' locs' cl sl Q (F0 m pc' Ls' st') q := by
  unfold okH at ok
  split at ok
  · cases hk
  · rename_i a0 a1 hp ct k0 blk k90
    simp only [Bool.and_eq_true, decide_eq_true_eq] at ok
    obtain ⟨ok, hk9⟩ := ok
    obtain ⟨f1, f2, f3⟩ := okH1_facts ok hts hsw
    simp only [pHnd, List.find?] at hk
    split at hk
    · rename_i hq
      cases hk
      simp only [decide_eq_true_eq] at hq
      subst hq
      simp only [cvOf, tableOf, List.map, List.all_cons, List.all_nil, Bool.and_true] at hcv
      exact vx_catch hown [] _ [] htab (fun z hz => nomatch hz) hcv f1 f2 f3 h1 h2 h3 (catch1 ok hk9 hx hb hL kk)
    · cases hk
  · rename_i a0 a1 hp ct a2 a3 hp2 ct2 k0 blk k90 k2 blk2 k92
    simp only [Bool.and_eq_true, decide_eq_true_eq] at ok
    obtain ⟨⟨⟨ok, ok2⟩, onc⟩, hk9, hk92, hne⟩ := ok
    obtain ⟨f1, f2, f3⟩ := okH1_facts ok hts hsw
    obtain ⟨g1, g2, g3⟩ := okH1_facts ok2 hts hsw
    simp only [cvOf, tableOf, List.map, List.all_cons, List.all_nil, Bool.and_true, Bool.and_eq_true] at hcv
    simp only [pHnd, List.find?] at hk
    split at hk
    · rename_i hq
      cases hk
      simp only [decide_eq_true_eq] at hq
      subst hq
      exact vx_catch hown [] _ [_] htab (fun z hz => nomatch hz) (by unfold covers; simp only [Bool.and_eq_true]; exact hcv.1) f1 f2 f3 h1 h2 h3 (catch1 ok hk9 hx hb hL kk)
    · split at hk
      · rename_i hq
        cases hk
        simp only [decide_eq_true_eq] at hq
        subst hq
        refine vx_catch hown [_] _ [] htab (fun z hz => ?_) (by unfold covers; simp only [Bool.and_eq_true]; exact hcv.2) g1 g2 g3 h1 h2 h3 (catch1 ok2 hk92 hx hb hL kk)
        simp only [List.mem_cons, List.not_mem_nil, or_false] at hz
        subst hz
        exact Or.inr ⟨f1, _, f2, hnc (exN k2, exN k0) (by simpa using onc)⟩
      · cases hk
  · cases ok
end MC
section ME
variable {D : va_G} {base : Nat} {sp : Nat → Nat} {s0 : State} {L : Nat} {xs : Nat → Int32} {strs : List (String × Nat × String)} {len : List Nat} {byt : List (List Int32)} {adV : Nat → Nat} {ncs : List (String × String)} {l : Launch}
variable {p : Program} {e : Env} {R : Room} {s : State} {m : MethodId} {args : Array Value} {below : List Frame} {meth : Method} {c : Code} {Q : State → Prop}
variable {cc : ByteArray} {nL : Nat} {I : List pInf} {kf : List Nat} {thr : List (String × Nat × Nat)} {own mn : String} {ret : Option FieldType} {bl : List Nat} {cv : Nat → Bool} {d n0 l0 : Nat} {o : pOut} {Mf : pMem}
variable {F : Nat → List Value → pMem → Option (pOut × pMem)} {hs : List (Nat × Nat × Nat)}
set_option maxHeartbeats 4000000 in
set_option maxRecDepth 100000 in
/-- all blocks of a method, from any of them -/
theorem exMSim {T : List (List pEnt)}
    (IH : ∀ z f as M v M', I[z]? = some f → F z as M = some (.inl v, M') → gN M' ≤ 700000 → ConR D base sp s0 L xs strs len byt adV ncs l f d as M v M')
    (IHT : ∀ z f as M k M', I[z]? = some f → F z as M = some (.inr k, M') → gN M' ≤ 700000 → ConT D base sp s0 L xs strs len byt adV ncs l f d as M k M')
    (hF : ∀ z as M o M', F z as M = some (o, M') → gN M ≤ gN M' ∧ gL M ≤ gL M')
    (hI : ∀ z as M r, F z as M = some r → ∃ f, I[z]? = some f)
    (K : okK I kf) (hlen : len.length = 46) (hsc : scOK base sp s0 L xs) (hT : okT I kf strs thr own mn ret cc bl cv bl T = true)
    (hx : p.tables.exec = Jvm.exec) (hb : c.code = cc) (hml : c.maxLocals = nL) (hown : s.vm.findClass own = some m.cls) (hmn : meth.name = mn) (hts : ∀ w ∈ GW, w.before args s = true) (hS : pSide base sp strs len byt adV ncs s) (hs0 : ∀ q : Nat, q < base → s.heap[q]? = s0.heap[q]?) (hsz0 : base ≤ s.heap.size)
    (hrf : d + 21 ≤ R.frames) (hrl : 64 * (d + 1) + 400 ≤ R.locals) (hRc : gN Mf ≤ n0 + R.cells) (hRs : gL Mf ≤ l0 + R.slots) (hbd : gN Mf ≤ 700000)
    (KR : ∀ pc' Ls' H' locs' x, o = .inl x → retAt cc ret pc' x → RelH D base sp s0 L xs s Mf H' → (∀ z ∈ locs', base ≤ z.base) → W p l e R s m args below meth c H' locs' (gN Mf - n0) (gL Mf - l0) Q (F0 m pc' Ls' ((x.map (pTr base sp)).toList)))
    (KT : hs = [] → ∀ k pc' Ls' H' locs' q ce st', o = .inr k → RelH D base sp s0 L xs s Mf H' → (∀ z ∈ locs', base ≤ z.base) → H'[q]? = some ce → ce.vm = .none → s.vm.findClass (exN k) = some ce.cls → vx_W p l e R s m args below meth c H' locs' (gN Mf - n0) (gL Mf - l0) Q (F0 m pc' Ls' st') q)
    (KC : hs ≠ [] → ∀ k b k9 pc' ls' Ls' H' locs' q ce st' cl sl, pHnd k hs = some (b, k9) → cv pc' = true → lR base sp ls' Ls' nL → H'[q]? = some ce → ce.vm = .none → s.vm.findClass (exN k) = some ce.cls → (∀ Ls2, lR base sp (ls'.set k9 none) Ls2 nL → W p l e R s m args below meth c H' locs' cl sl Q (F0 m (bl.getD b 0) Ls2 [])) → vx_W p l e R s m args below meth c H' locs' cl sl Q (F0 m pc' Ls' st') q)
    (KX : ∀ k pc' ik r Ls' H' locs' st' M1, o = .inr k → Mf = nx M1 → decode cc pc' = .ok (.new ik, 3) → okThr strs thr own cc pc' ik k r = true → Ls'.size = nL → RelH D base sp s0 L xs s M1 H' → (∀ z ∈ locs', base ≤ z.base) → n0 ≤ gN M1 → l0 ≤ gL M1 → pRm st' ≤ 8 → W p l e R s m args below meth c H' locs' (gN M1 - n0) (gL M1 - l0) Q (F0 m pc' Ls' (st'.map (pTr base sp)))) :
    ∀ (n b : Nat) (ls : pLo) (st : List Value) (M : pMem) (Ls : Array Slot) (H : Heap) (locs : List Loc), exM F T hs n b (ls, st, M) = some (o, Mf) → lR base sp ls Ls nL → RelH D base sp s0 L xs s M H → (∀ z ∈ locs, base ≤ z.base) → n0 ≤ gN M → l0 ≤ gL M → W p l e R s m args below meth c H locs (gN M - n0) (gL M - l0) Q (F0 m (bl.getD b 0) Ls (st.map (pTr base sp))) := by
  intro n
  induction n with
  | zero => intro b ls st M Ls H locs h; cases h
  | succ n ih =>
    intro b ls st M Ls H locs h hL hR hlo h1 h2
    exact blkSim (J := exM F T hs n) IH IHT hF (exM_mono hF n) hI K hlen hsc hx hb hml hown hmn hts hS hs0 hsz0 hrf hrl hRc hRs hbd ih KR KT KC KX (T.getD b []) (bl.getD b 0) ls st M Ls H locs h (okT_at bl T hT b) hL hR hlo h1 h2
end ME
