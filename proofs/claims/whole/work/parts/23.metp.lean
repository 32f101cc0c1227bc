/-! EVERY METHOD: what its pure run answers, the machine answers -/
/-- a method's table, checked -/
def okPy (I : List pInf) (kf : List Nat) (strs : List (String × Nat × String)) (thr : List (String × Nat × Nat)) (ncs : List (String × String)) (f : pInf) (bl : List Nat) (q : pMeth) : Bool :=
  decide (f.2.2.1 = q.1) && plainName f.1.cls && decide (bl.getD 0 0 = 0) && okT I kf strs (match f.2.2.2.2 with | [] => thr | _ => []) f.1.cls f.1.name f.2.2.2.1 f.2.1 bl (cvOf f.2.2.2.2) bl q.2.2 && okH ncs f.1.cls f.2.1 q.1 bl f.2.2.2.2 q.2.1
def okP (G : List pMeth) (I : List pInf) (BL : List (List Nat)) (kf : List Nat) (strs : List (String × Nat × String)) (thr : List (String × Nat × Nat)) (ncs : List (String × String)) : Prop := ∀ (y : Nat) (q : pMeth), G[y]? = some q → ∃ f bl, I[y]? = some f ∧ BL[y]? = some bl ∧ okPy I kf strs thr ncs f bl q = true
theorem okT_cons {I : List pInf} {kf : List Nat} {strs : List (String × Nat × String)} {thr : List (String × Nat × Nat)} {own mn : String} {ret : Option FieldType} {cc : ByteArray} {bl : List Nat} {cv : Nat → Bool} {b : Nat} {bs : List Nat} {es : List pEnt} {T : List (List pEnt)} (h1 : okQ I kf strs thr own mn ret cc bl cv b es = true) (h2 : okT I kf strs thr own mn ret cc bl cv bs T = true) : okT I kf strs thr own mn ret cc bl cv (b :: bs) (es :: T) = true := by
  simp only [okT, h1, h2, Bool.and_self]
theorem okPy_of {I : List pInf} {kf : List Nat} {strs : List (String × Nat × String)} {thr : List (String × Nat × Nat)} {ncs : List (String × String)} {f : pInf} {bl : List Nat} {q : pMeth} (h1 : f.2.2.1 = q.1) (h2 : plainName f.1.cls = true) (h3 : bl.getD 0 0 = 0) (h0 : f.2.2.2.2 = []) (h4 : okT I kf strs thr f.1.cls f.1.name f.2.2.2.1 f.2.1 bl (cvOf f.2.2.2.2) bl q.2.2 = true) (h5 : okH ncs f.1.cls f.2.1 q.1 bl f.2.2.2.2 q.2.1 = true) : okPy I kf strs thr ncs f bl q = true := by
  unfold okPy
  rw [h0] at h4 h5 ⊢
  dsimp only
  simp only [Bool.and_eq_true, decide_eq_true_eq]
  exact ⟨⟨⟨⟨h1, h2⟩, h3⟩, h4⟩, h5⟩
theorem exP_mono {G : List pMeth} {B : Nat → List Value → pMem → Option (pOut × pMem)} (hB : ∀ z as M o M', B z as M = some (o, M') → gN M ≤ gN M' ∧ gL M ≤ gL M') : ∀ (d n z : Nat) (as : List Value) (M : pMem) (o : pOut) (M' : pMem), exP G B d n z as M = some (o, M') → gN M ≤ gN M' ∧ gL M ≤ gL M' := by
  intro d
  induction d with
  | zero => intro n z as M o M' h; cases h
  | succ d ih =>
    intro n z as M o M' h
    unfold exP at h
    split at h
    · split at h
      · exact exM_mono (fun z as M o M' h => ih n z as M o M' h) n 0 _ o M' h
      · cases h
    · exact hB _ _ _ _ _ h
theorem okH_nil {ncs : List (String × String)} {own : String} {cc : ByteArray} {nL : Nat} {bl : List Nat} {hh : List (Nat × Nat × Nat × Nat)} {hs : List (Nat × Nat × Nat)} (h : okH ncs own cc nL bl hh hs = true) : hh = [] ↔ hs = [] := by
  unfold okH at h
  split at h
  · simp
  · simp
  · simp
  · cases h
section MP
variable {D : va_G} {base : Nat} {sp : Nat → Nat} {s0 : State} {L : Nat} {xs : Nat → Int32} {strs : List (String × Nat × String)} {len : List Nat} {byt : List (List Int32)} {adV : Nat → Nat} {ncs : List (String × String)} {l : Launch}
variable {G : List pMeth} {I : List pInf} {BL : List (List Nat)} {kf : List Nat} {thr : List (String × Nat × Nat)} {B : Nat → List Value → pMem → Option (pOut × pMem)}
set_option maxHeartbeats 4000000 in
set_option maxRecDepth 100000 in
theorem metP (hP : okP G I BL kf strs thr ncs) (K : okK I kf) (hW : okW thr) (hlen : len.length = 46) (hsc : scOK base sp s0 L xs) (hl : l.stackTraces = false)
    (hB : ∀ z as M o M', B z as M = some (o, M') → gN M ≤ gN M' ∧ gL M ≤ gL M') (hBI : ∀ z as M r, B z as M = some r → ∃ f, I[z]? = some f)
    (hBC : ∀ z f as M o M' d, G[z]? = none → I[z]? = some f → B z as M = some (o, M') → ∃ v, o = .inl v ∧ ConR D base sp s0 L xs strs len byt adV ncs l f (d + 1) as M v M') :
    ∀ (d n y : Nat) (f : pInf) (as : List Value) (M : pMem) (o : pOut) (M' : pMem), I[y]? = some f → exP G B d n y as M = some (o, M') → gN M' ≤ 700000 →
      (∀ v, o = .inl v → ConR D base sp s0 L xs strs len byt adV ncs l f d as M v M') ∧ (∀ k, o = .inr k → ConT D base sp s0 L xs strs len byt adV ncs l f d as M k M') := by
  intro d
  induction d with
  | zero => intro n y f as M o M' _ h; cases h
  | succ d ih =>
    intro n y f as M o Mf hI h hbd
    have hmono := exP_mono hB (d + 1) n y as M o Mf h
    unfold exP at h
    split at h
    · rename_i nL hs T hG
      split at h
      · rename_i hlen9
        obtain ⟨f', bl, hf', hbl, ok⟩ := hP y _ hG
        cases hI.symm.trans hf'
        obtain ⟨nm, cc, maxL, ret, hh⟩ := f
        simp only [okPy, Bool.and_eq_true, decide_eq_true_eq] at ok
        obtain ⟨⟨⟨⟨e1, e2⟩, e3⟩, okt⟩, okh⟩ := ok
        subst e1
        have hI' : ∀ z as M r, exP G B d n z as M = some r → ∃ f, I[z]? = some f := by
          intro z as M r hz
          cases d with
          | zero => cases hz
          | succ d =>
            unfold exP at hz
            split at hz
            · rename_i q1 q2 q3 hG9
              obtain ⟨f9, bl9, hf9, -⟩ := hP z _ hG9
              exact ⟨f9, hf9⟩
            · exact hBI _ _ _ _ hz
        have hnil := okH_nil okh
        have hrelK : ∀ {s : State}, RelH D base sp s0 L xs s M s.heap → base ≤ s.heap.size := fun {s} hR => by rw [hR.1.1]; omega
        refine ⟨fun v hv => ?_, fun k hk => ?_⟩
        · subst hv
          have body : ∀ (p : Program) (e : Env) (s : State) (m : MethodId) (args : Array Value) (below : List Frame) (meth : Method) (c : Code), p.tables.exec = Jvm.exec → c.code = cc → c.maxLocals = maxL → s.vm.findClass nm.cls = some m.cls → meth.name = nm.name → (∀ w ∈ GW, w.before args s = true) → meth.sig.returnType = ret → meth.locks = false → c.exceptionTable.toList = tableOf hh → pcY D base sp s0 L xs strs len byt adV ncs as M args s →
              W p l e (rmD (d + 1) (gN Mf - gN M) (gL Mf - gL M)) s m args below meth c s.heap [] 0 0 (MQ below (qcY D base sp s0 L xs v Mf) args s (gN Mf - gN M) (gL Mf - gL M) (fun q => base ≤ q)) (entryFrame m args maxL) := by
            intro p e s m args below meth c hx hb hml hown hmn hts hret hlocks htab hPc
            obtain ⟨rfl, hR, hS⟩ := hPc
            obtain ⟨Ls, hent, hL⟩ := lR_entry (base := base) (sp := sp) (m := m) hlen9.1 hlen9.2
            rw [hent]
            have key := exMSim (p := p) (l := l) (e := e) (R := rmD (d + 1) (gN Mf - gN M) (gL Mf - gL M)) (s := s) (m := m) (args := (as.map (pTr base sp)).toArray) (below := below) (meth := meth) (c := c) (Q := MQ below (qcY D base sp s0 L xs v Mf) (as.map (pTr base sp)).toArray s (gN Mf - gN M) (gL Mf - gL M) (fun q => base ≤ q)) (cc := cc) (n0 := gN M) (l0 := gL M) (o := .inl v) (Mf := Mf) (d := d)
              (fun z f as M v M' hz hv hb9 => (ih n z f as M _ M' hz hv hb9).1 v rfl) (fun z f as M k M' hz hv hb9 => (ih n z f as M _ M' hz hv hb9).2 k rfl) (fun z as M o M' hz => exP_mono hB d n z as M o M' hz) hI' K hlen hsc okt hx hb hml hown hmn hts hS hR.2.1 (hrelK hR) (Nat.le_refl _) (Nat.le_refl _) (by show _ ≤ gN M + (gN Mf - gN M); omega) (by show _ ≤ gL M + (gL Mf - gL M); omega) hbd
              (fun pc' Ls' H' locs' x hx9 hra hR' hlo' => by
                cases hx9
                cases v with
                | none =>
                  obtain ⟨q1, q2⟩ := hra
                  refine W.vret hx hb (hret.trans q2) (fun t ht hw => ⟨rfl, ?_⟩) hlo' q1 hlocks
                  rw [ht]; exact hR'.moved hw.alike
                | some v =>
                  cases v with
                  | int z =>
                    obtain ⟨q1, q2⟩ := hra
                    rcases q2 with q2 | ⟨q2, q3⟩
                    · refine W.iret hx hb (hret.trans q2) (fun t ht hw => ⟨rfl, ?_⟩) hlo' q1 hlocks
                      rw [ht]; exact hR'.moved hw.alike
                    · refine W.zret hx hb (hret.trans q2) (by rcases q3 with rfl | rfl <;> rfl) (fun t ht hw => ⟨rfl, ?_⟩) hlo' q1 hlocks
                      rw [ht]; exact hR'.moved hw.alike
                  | null =>
                    obtain ⟨q1, q2⟩ := hra
                    cases hr : ret with
                    | none => rw [hr] at q2; cases q2
                    | some rt =>
                      rw [hr] at q2
                      refine W.aret (v := .null) hx hb (hret.trans hr) (by unfold pIsRef pRefTy at q2; cases rt <;> first | exact Or.inl ⟨_, rfl⟩ | exact Or.inr ⟨_, rfl⟩ | cases q2) (Or.inl rfl) (fun t ht hw => ⟨rfl, ?_⟩) hlo' q1 hlocks
                      rw [ht]; exact hR'.moved hw.alike
                  | ref z =>
                    obtain ⟨q1, q2⟩ := hra
                    cases hr : ret with
                    | none => rw [hr] at q2; cases q2
                    | some rt =>
                      rw [hr] at q2
                      refine W.aret (v := .ref (pAd base sp z)) hx hb (hret.trans hr) (by unfold pIsRef pRefTy at q2; cases rt <;> first | exact Or.inl ⟨_, rfl⟩ | exact Or.inr ⟨_, rfl⟩ | cases q2) (Or.inr ⟨_, rfl⟩) (fun t ht hw => ⟨rfl, ?_⟩) hlo' q1 hlocks
                      rw [ht]; exact hR'.moved hw.alike
                  | _ => exact hra.elim)
              (fun _ k _ _ _ _ _ _ _ hk9 => nomatch hk9)
              (fun hne k b k9 pc' ls' Ls' H' locs' q ce st' cl sl a1 a2 a3 a4 a5 a6 a7 => catchH okh hx hb hown htab hts hS.1 hS.2.2.2.1 k b k9 pc' ls' Ls' H' locs' q ce st' cl sl a1 a2 a3 a4 a5 a6 a7)
              (fun k _ _ _ _ _ _ _ _ hk9 => nomatch hk9)
              n 0 _ [] M Ls s.heap [] h hL hR (fun z hz => nomatch hz) (Nat.le_refl _) (Nat.le_refl _)
            rw [Nat.sub_self, Nat.sub_self, e3] at key
            exact key
          cases hh with
          | nil =>
            unfold ConR
            rw [wY_nil rfl]
            refine Met.ofW (cc := cc) (maxL := maxL) (ret := ret) e2 rfl ?_
            intro p e s m args below meth c s₁ BB hml hPc
            have hts0 : ∀ w ∈ Cond.code nm cc maxL ret :: GW, w.before args s = true := atoms_spec (ws := Cond.code nm cc maxL ret :: GW) BB.pre
            have htab : c.exceptionTable.toList = [] := by
              obtain ⟨meth9, c9, h1, h2, -, -, -, -, h7, -⟩ := Cond.code_spec BB.named (hts0 _ List.mem_cons_self)
              cases Option.some.inj (h1.symm.trans BB.method)
              cases Option.some.inj (h2.symm.trans (Stand.of_body BB).code)
              rw [Array.isEmpty_iff.mp h7]
            exact body p e s m args below meth c BB.exec BB.bytes hml (findClass_of_methodNamed BB.named) (name_of_methodNamed BB.named BB.method).1 (fun w hw => hts0 w (List.mem_cons_of_mem _ hw)) BB.returns BB.notSynchronized htab hPc
          | cons h0 hr =>
            unfold ConR
            rw [wY_cons (by simp)]
            refine pMetH (cc := cc) (maxL := maxL) (ret := ret) e2 rfl ?_
            intro p e s m args below meth c s₁ BB hml hPc
            have hts0 : ∀ w ∈ Cond.codeWith nm cc maxL ret (h0 :: hr) :: GW, w.before args s = true := atoms_spec (ws := Cond.codeWith nm cc maxL ret (h0 :: hr) :: GW) BB.pre
            exact body p e s m args below meth c BB.exec BB.bytes hml (findClass_of_methodNamed BB.named) (name_of_methodNamed BB.named BB.method).1 (fun w hw => hts0 w (List.mem_cons_of_mem _ hw)) BB.returns BB.notSynchronized (vx_table (x := nm) BB (hts0 _ List.mem_cons_self)) hPc
        · subst hk
          have body : ∀ (p : Program) (e : Env) (s : State) (m : MethodId) (args : Array Value) (below : List Frame) (meth : Method) (c : Code), p.tables.exec = Jvm.exec → c.code = cc → c.maxLocals = maxL → s.vm.findClass nm.cls = some m.cls → meth.name = nm.name → (∀ w ∈ GW, w.before args s = true) → meth.locks = false → c.exceptionTable.toList = tableOf hh → pcY D base sp s0 L xs strs len byt adV ncs as M args s →
              W p l e (rmD (d + 1) (gN Mf - gN M) (gL Mf - gL M)) s m args below meth c s.heap [] 0 0 (vx_MQ below (fun _ _ _ _ => False) (xcY D base sp s0 L xs k Mf) args s (gN Mf - gN M) (gL Mf - gL M) (fun q => base ≤ q)) (entryFrame m args maxL) := by
            intro p e s m args below meth c hx hb hml hown hmn hts hlocks htab hPc
            obtain ⟨rfl, hR, hS⟩ := hPc
            obtain ⟨Ls, hent, hL⟩ := lR_entry (base := base) (sp := sp) (m := m) hlen9.1 hlen9.2
            rw [hent]
            have key := exMSim (p := p) (l := l) (e := e) (R := rmD (d + 1) (gN Mf - gN M) (gL Mf - gL M)) (s := s) (m := m) (args := (as.map (pTr base sp)).toArray) (below := below) (meth := meth) (c := c) (Q := vx_MQ below (fun _ _ _ _ => False) (xcY D base sp s0 L xs k Mf) (as.map (pTr base sp)).toArray s (gN Mf - gN M) (gL Mf - gL M) (fun q => base ≤ q)) (cc := cc) (n0 := gN M) (l0 := gL M) (o := .inr k) (Mf := Mf) (d := d)
              (fun z f as M v M' hz hv hb9 => (ih n z f as M _ M' hz hv hb9).1 v rfl) (fun z f as M k M' hz hv hb9 => (ih n z f as M _ M' hz hv hb9).2 k rfl) (fun z as M o M' hz => exP_mono hB d n z as M o M' hz) hI' K hlen hsc okt hx hb hml hown hmn hts hS hR.2.1 (hrelK hR) (Nat.le_refl _) (Nat.le_refl _) (by show _ ≤ gN M + (gN Mf - gN M); omega) (by show _ ≤ gL M + (gL Mf - gL M); omega) hbd
              (fun _ _ _ _ _ hx9 => nomatch hx9)
              (fun h9 k' pc' Ls' H' locs' q ce st' hk9 hR' hlo' c1 c2 c3 => by
                cases hk9
                have hh9 := hnil.mpr h9
                subst hh9
                refine vx_out (E := exN k) (fun x hx => ?_) hlocks c1 c2 c3 (fun t ht hw => ⟨rfl, ?_⟩) hlo' (Nat.le_refl _) (Nat.le_refl _)
                · rw [htab] at hx; cases hx
                · rw [ht]; exact hR'.moved hw)
              (fun hne k b k9 pc' ls' Ls' H' locs' q ce st' cl sl a1 a2 a3 a4 a5 a6 a7 => catchH okh hx hb hown htab hts hS.1 hS.2.2.2.1 k b k9 pc' ls' Ls' H' locs' q ce st' cl sl a1 a2 a3 a4 a5 a6 a7)
              (fun k' pc' ik r Ls' H' locs' st' M1 hk9 hM1 hd9 okt9 hsz9 hR' hlo' hn1 hl1 hst' => by
                cases hk9
                subst hM1
                cases hh with
                | nil =>
                  have hnx : gN (nx M1) = gN M1 + 1 ∧ gL (nx M1) = gL M1 + 6 := ⟨rfl, rfl⟩
                  exact thrRow (d := d) (nL := maxL) hW hl hx hb hml hown hts hS hR (Nat.le_refl _) (Nat.le_refl _) (fun x hx => by rw [htab] at hx; cases hx) hlocks hd9 okt9 hsz9 hR' hlo' hn1 hst' (by omega) (by show _ ≤ gN (nx M1) - gN M; omega) (by show _ ≤ gL (nx M1) - gL M; omega) (by omega) (by omega)
                | cons h0 hr =>
                  exfalso
                  unfold okThr at okt9
                  split at okt9
                  · simp at okt9
                  · cases okt9)
              n 0 _ [] M Ls s.heap [] h hL hR (fun z hz => nomatch hz) (Nat.le_refl _) (Nat.le_refl _)
            rw [Nat.sub_self, Nat.sub_self, e3] at key
            exact key
          cases hh with
          | nil =>
            unfold ConT
            rw [wY_nil rfl]
            refine vx_ofW (cc := cc) (maxL := maxL) (ret := ret) e2 rfl ?_
            intro p e s m args below meth c s₁ BB hml htab0 hPc
            have hts0 : ∀ w ∈ Cond.code nm cc maxL ret :: GW, w.before args s = true := atoms_spec (ws := Cond.code nm cc maxL ret :: GW) BB.pre
            have htab : c.exceptionTable.toList = [] := List.eq_nil_iff_forall_not_mem.mpr htab0
            exact body p e s m args below meth c BB.exec BB.bytes hml (findClass_of_methodNamed BB.named) (name_of_methodNamed BB.named BB.method).1 (fun w hw => hts0 w (List.mem_cons_of_mem _ hw)) BB.notSynchronized htab hPc
          | cons h0 hr =>
            unfold ConT
            rw [wY_cons (by simp)]
            refine vx_ofWH (cc := cc) (maxL := maxL) (ret := ret) e2 rfl ?_
            intro p e s m args below meth c s₁ BB hml hPc
            have hts0 : ∀ w ∈ Cond.codeWith nm cc maxL ret (h0 :: hr) :: GW, w.before args s = true := atoms_spec (ws := Cond.codeWith nm cc maxL ret (h0 :: hr) :: GW) BB.pre
            exact body p e s m args below meth c BB.exec BB.bytes hml (findClass_of_methodNamed BB.named) (name_of_methodNamed BB.named BB.method).1 (fun w hw => hts0 w (List.mem_cons_of_mem _ hw)) BB.notSynchronized (vx_table (x := nm) BB (hts0 _ List.mem_cons_self)) hPc
      · cases h
    · rename_i hG
      obtain ⟨v, rfl, hC⟩ := hBC y f as M o Mf d hG hI h
      exact ⟨fun v' hv => by cases hv; exact hC, fun k hk => nomatch hk⟩
end MP
