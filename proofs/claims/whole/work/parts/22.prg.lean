/-! THE PROGRAM: every method meets what its pure run says -/
section PX
variable {D : va_G} {base : Nat} {sp : Nat → Nat} {s0 : State} {L : Nat} {xs : Nat → Int32} {strs : List (String × Nat × String)} {len : List Nat} {byt : List (List Int32)} {adV : Nat → Nat} {ncs : List (String × String)} {l : Launch}
variable {p : Program} {e : Env} {R : Room} {s : State} {m : MethodId} {args : Array Value} {below : List Frame} {meth : Method} {c : Code}
theorem va_S_of {M0 M : pMem} {H : Heap} {locs : List Loc} (h0 : RelH D base sp s0 L xs s M0 s.heap) (hR : RelH D base sp s0 L xs s M H) (hn : gN M0 ≤ gN M) (hlo : ∀ z ∈ locs, base ≤ z.base) : va_S (fun q => base ≤ q) s.heap H locs := by
  refine ⟨by rw [h0.1.1, hR.1.1]; omega, fun q _ h2 => ?_, hlo⟩
  have h2 : ¬ base ≤ q := h2
  rw [hR.2.1 q (by omega), h0.2.1 q (by omega)]
/-- 'throw new NoSuchElementException("text")' -/
theorem px_throw3 {cc : ByteArray} {pc : Nat} (hexec : p.tables.exec = Jvm.exec) (hb : c.code = cc) (hl : l.stackTraces = false) {own text : String} {ik is ic mc ms sa w : Nat} {A : Nat → Prop} {ls : Array Slot} {rest : List Value} {H : Heap} {locs : List Loc} {cells slots : Nat} {free : Addr → Prop} {Qc : Array Value → State → Outcome → State → Prop} {XC : String → State → State → Prop}
    (hown : s.vm.findClass own = some m.cls) (hk : (Cond.classLink own ik (exN 3)).before args s = true) (hini : (Cond.initialized (exN 3)).before args s = true) (hstr : vk_R own is text sa s) (hts : ∀ w ∈ GW, w.before args s = true) (hsw : ∀ w ∈ SW, va_Nw w s) (hat9 : ∀ w ∈ (L13 own ic).filter vx_no, w ∈ GW ∨ w ∈ SW)
    (hU : vx_Zq Bundle.tN "UNASSIGNED_STACK" Bundle.steD A s s.heap) (hN : vx_Zq Bundle.tN "SUPPRESSED_SENTINEL" Bundle.listD A s s.heap) (hS : va_S A s.heap H locs) (hsize : ls.size = c.maxLocals)
    (d0 : decode cc pc = .ok (.new ik, 3)) (d3 : decode cc (pc + 3) = .ok (.dup, 1)) (d4 : (w = 0 ∧ decode cc (pc + 4) = .ok (.ldc is, 2) ∧ decode cc (pc + 6) = .ok (.invokespecial ic, 3) ∧ decode cc (pc + 9) = .ok (.athrow, 1)) ∨ (w ≠ 0 ∧ decode cc (pc + 4) = .ok (.ldc_w is, 3) ∧ decode cc (pc + 7) = .ok (.invokespecial ic, 3) ∧ decode cc (pc + 10) = .ok (.athrow, 1)))
    (hout : ∀ x ∈ c.exceptionTable.toList, False) (hRframes : 20 ≤ R.frames) (hRlocals : (rest.map fun v => v.category).sum + 300 ≤ R.locals) (hRcells : cells + 1 ≤ R.cells) (hRslots : slots + 6 ≤ R.slots) (hlocks : meth.locks = false)
    (hx : ∀ t : State, s.vm.Alike t.vm → t.heap.size = H.size + 1 → (∀ q : Nat, q < H.size → t.heap[q]? = H[q]?) → XC (exN 3) s t)
    (hf : ∀ z ∈ locs, free z.base) (hc : cells + 1 ≤ mc) (hs : slots + 6 ≤ ms) :
    W p l e R s m args below meth c H locs cells slots (vx_MQ below Qc XC args s mc ms free) (F0 m pc ls rest) := by
  intro T hT X
  have htr : e.platform.stackTraces = false := (show e.platform.stackTraces = l.stackTraces by rw [X.admits.platform]).trans hl
  have Y := vx_rebase X (R' := { frames := R.frames, locals := R.locals, cells := 1, slots := 6 }) (Nat.le_refl _) (Nat.le_refl _) hRcells hRslots
  obtain ⟨s', hA⟩ : ∃ z, z = (T.setVm s.vm).setFrames (.invoking m args :: below) := ⟨_, rfl⟩
  rw [← hA] at Y
  have hvm : s'.vm = s.vm := by rw [hA]; rfl
  have hhp : s'.heap = H := by rw [hA]; exact hT
  have hW0 : s.WarmedH s'.vm := by rw [hvm]; exact State.WarmedH.refl s
  have hg9 : ∀ w, (w ∈ GW ∨ w ∈ SW) → w.before args s' = true := fun w hw => hw.elim (fun h => vx_ot_at hW0 hvm.symm (by unfold vx_ot; rw [(List.mem_filter.mp h).2]; simp) (hts w h)) (fun h => vx_ot_at hW0 hvm.symm (by unfold vx_ot; rw [sw_ot h]; rfl) ((hsw w h).use (A := args) (sw_ot h)))
  have hk' : (Cond.classLink own ik (exN 3)).before args s' = true := vx_ot_at hW0 hvm.symm rfl hk
  have hini' : (Cond.initialized (exN 3)).before args s' = true := vx_ot_at hW0 hvm.symm rfl hini
  have hU' : vx_Zq Bundle.tN "UNASSIGNED_STACK" Bundle.steD A s' s'.heap := by rw [hhp]; exact vx_Zq.moved hW0.alike (hU.kept hS.2.1)
  have hN' : vx_Zq Bundle.tN "SUPPRESSED_SENTINEL" Bundle.listD A s' s'.heap := by rw [hhp]; exact vx_Zq.moved hW0.alike (hN.kept hS.2.1)
  have h : ∀ w ∈ L13 own ic, w.before args s' = true := vx_own (fun w hw => hg9 w (hat9 w hw)) (vx_isRefq hU'.1) (vx_isRefq hN'.1) hU'.2.word hN'.2.word
  have hown' : s'.vm.findClass own = some m.cls := by rw [hvm]; exact hown
  have hins : (Cond.instantiable nE3 6).before args s' = true := h _ (by simp [L13, tl13])
  obtain ⟨vm₁, cX, kX, hfX, hkX, -, -, X₁, st1⟩ := Y.newCold hexec (own := own) (C := nE3) (index := ik) (n := 6) hown' hk' hins hini'
    (g := F0 m pc ls rest) rfl (by rw [hb]; exact d0) (Nat.le_refl _) (Nat.le_refl _)
  generalize hT1 : (T.setVm vm₁).pushCell { cls := cX, slots := kX.instanceTypes.map defaultValue, vm := .none } = T1 at X₁ st1
  have hcat : (Value.ref T.heap.size).category = 1 := rfl
  have hcellA : T1.heap[T.heap.size]? = some (freshCell cX kX) := by rw [← hT1]; exact State.heap_pushCell_size _ _
  have d3' : decode c.code (pc + 3) = .ok (.dup, 1) := by rw [hb]; exact d3
  have hstr' : vk_R own is text sa s' := vk_R.warm hW0 hstr
  have go : ∀ pc6, decode cc pc6 = .ok (.invokespecial ic, 3) → decode cc (pc6 + 3) = .ok (.athrow, 1) → (∀ U, Steps p.tables e below (T1.setTop { method := m, pc := pc6, locals := ls, stack := .ref sa :: .ref T.heap.size :: .ref T.heap.size :: rest, locked := none }) U → Steps p.tables e below (T.setTop (F0 m pc ls rest)) U) → ∃ t, Steps p.tables e below (T.setTop (F0 m pc ls rest)) t ∧ vx_MQ below Qc XC args s mc ms free t := by
    intro pc6 d6 d9 hst
    obtain ⟨U, hsteps, hrun, hend, hW, hsame, ce, hce, hvn, hcls⟩ := px_ctor13 X₁ hexec htr (own := own) (ic := ic) hown' h (fun x hx => nomatch hx) hfX hkX hcellA (by rw [hhp, hT]; exact Nat.le_refl _) (msg := .ref sa) rfl
      (g := { method := m, pc := pc6, locals := ls, stack := .ref sa :: .ref T.heap.size :: .ref T.heap.size :: rest, locked := none }) rfl hsize rfl rfl (rest := rest) rfl
      (by rw [hb]; exact d6) (by rw [hb]; exact d9) (fun x hx => (hout x hx).elim) (by show 5 < R.frames; omega) (by simp only [List.map_cons, List.sum_cons, hcat]; show 2 * (0 : Nat) + _ + _ ≤ R.locals; omega) hlocks
    obtain ⟨f1, f2⟩ := vx_frame hsame
    have fz : U.heap.size = H.size + 1 := by
      have z1 : U.heap.size ≤ s'.heap.size + (0 + 1) := hsame.2.2.1
      have z2 : T.heap.size < U.heap.size := (Array.getElem?_eq_some_iff.mp hce).1
      rw [hhp] at z1
      rw [hT] at z2
      omega
    rw [hhp] at f1 f2
    have hWs : s.WarmedH U.vm := State.WarmedH.trans hW0 hW
    have hcl : s.vm.findClass (exN 3) = some ce.cls := by
      have h9 := hcls
      rw [hvm] at h9
      exact h9
    have hall : s.sameButNew ({ U with vm := s.vm } : State) locs mc ms := by
      subst hA
      obtain ⟨e1, e2⟩ := hsame
      rw [State.setFrames_setFrames] at e1
      have h2 : (T.setVm s.vm).sameButNew ({ U with vm := s.vm } : State) [] (0 + 1) (0 + 6) := ⟨e1, e2⟩
      have h3 := X.same.trans h2
      rw [List.append_nil] at h3
      exact h3.mono hc hs
    exact ⟨U, hst U hsteps, .threw T.heap.size, hrun, hend, Or.inr ⟨T.heap.size, rfl, exN 3, ce, locs, hx U hWs.alike fz (fun q hq => f2 q hq (fun z hz => nomatch hz)), hce, hvn, hcl, hWs, hall, hf⟩⟩
  rcases d4 with ⟨-, d4, d6, d9⟩ | ⟨-, d4, d6, d9⟩
  · refine go (pc + 6) d6 d9 fun U hU => st1 _ ?_
    have d4' : decode c.code (pc + 4) = .ok (.ldc is, 2) := by rw [hb]; exact d4
    show Steps p.tables e below (T1.setTop { method := m, pc := pc + 3, locals := ls, stack := .ref T.heap.size :: rest, locked := none }) _
    jvm_step X₁.here [X₁.here.top, hexec, d3', Value.category]
    exact X₁.ldcString hexec (own := own) (text := text) (index := is) (a := sa) hown' hstr'.1 hstr'.2
      (g := { method := m, pc := pc + 4, locals := ls, stack := .ref T.heap.size :: .ref T.heap.size :: rest, locked := none }) rfl d4' _ hU
  · refine go (pc + 7) d6 d9 fun U hU => st1 _ ?_
    have d4' : decode c.code (pc + 4) = .ok (.ldc_w is, 3) := by rw [hb]; exact d4
    show Steps p.tables e below (T1.setTop { method := m, pc := pc + 3, locals := ls, stack := .ref T.heap.size :: rest, locked := none }) _
    jvm_step X₁.here [X₁.here.top, hexec, d3', Value.category]
    exact X₁.ldcStringW hexec (own := own) (text := text) (index := is) (a := sa) hown' hstr'.1 hstr'.2
      (g := { method := m, pc := pc + 4, locals := ls, stack := .ref T.heap.size :: .ref T.heap.size :: rest, locked := none }) rfl d4' _ hU
set_option maxHeartbeats 4000000 in
set_option maxRecDepth 100000 in
/-- a throw of its own -/
theorem thrRow {thr : List (String × Nat × Nat)} {own : String} {cc : ByteArray} {nL d k pc ik mc ms cells slots : Nat} {r : List Nat} {Ls : Array Slot} {H : Heap} {locs : List Loc} {st : List Value} {M0 M : pMem} {Qc : Array Value → State → Outcome → State → Prop}
    (hW : okW thr) (hl : l.stackTraces = false) (hx : p.tables.exec = Jvm.exec) (hb : c.code = cc) (hml : c.maxLocals = nL) (hown : s.vm.findClass own = some m.cls) (hts : ∀ w ∈ GW, w.before args s = true) (hS : pSide base sp strs len byt adV ncs s) (h0 : RelH D base sp s0 L xs s M0 s.heap) (hrf : d + 21 ≤ R.frames) (hrl : 64 * (d + 1) + 400 ≤ R.locals) (hout : ∀ x ∈ c.exceptionTable.toList, False) (hlocks : meth.locks = false)
    (hd : decode cc pc = .ok (.new ik, 3)) (ok : okThr strs thr own cc pc ik k r = true) (hsz : Ls.size = nL) (hR : RelH D base sp s0 L xs s M H) (hlo : ∀ z ∈ locs, base ≤ z.base) (hn : gN M0 ≤ gN M) (hst : pRm st ≤ 8) (hbd : gN M < 900000) (hRc : cells + 1 ≤ R.cells) (hRs : slots + 6 ≤ R.slots) (hmc : cells + 1 ≤ mc) (hms : slots + 6 ≤ ms) :
    W p l e R s m args below meth c H locs cells slots (vx_MQ below Qc (xcY D base sp s0 L xs k (nx M)) args s mc ms (fun q => base ≤ q)) (F0 m pc Ls (st.map (pTr base sp))) := by
  unfold okThr at ok
  split at ok
  · rename_i p0 w js ic q9
    simp only [Bool.and_eq_true, decide_eq_true_eq, List.contains_iff_mem] at ok
    obtain ⟨⟨g1, g2, g3⟩, g4⟩ := ok
    split at g4
    · rename_i q hq
      simp only [Bool.and_eq_true, decide_eq_true_eq] at g4
      obtain ⟨g5, g6⟩ := g4
      obtain ⟨w0, w1, w2, w3⟩ := hW _ g1
      dsimp only at w0 w1 w2 w3
      have hstr := hS.2.1 _ _ hq
      rw [g5] at hstr
      have hrest := rest_ok (base := base) (sp := sp) hst
      have hxx : ∀ t : State, s.vm.Alike t.vm → t.heap.size = H.size + 1 → (∀ q : Nat, q < H.size → t.heap[q]? = H[q]?) → xcY D base sp s0 L xs k (nx M) (exN k) s t := fun t h1 h2 h3 => ⟨rfl, (hR.pushX h2 h3 hbd).moved h1⟩
      have hvS := va_S_of h0 hR hn hlo
      have hcl : (Cond.classLink own ik (exN k)).before args s = true := hts _ (gw_at g2 rfl)
      have hout' : ∀ (n : Nat), ∀ x ∈ c.exceptionTable.toList, covers x n = false := fun n x hx => (hout x hx).elim
      by_cases hk3 : k < 3
      · unfold pAtS at w2
        rw [if_pos hk3] at w2
        have hat : ∀ w ∈ vx_atS own ic (exN k) pNms, w.before args s = true := fun w hw => (w2 w hw).elim (fun h => hts w h) (fun h => (hS.1 w h).use (sw_ot h))
        have hgood : ∀ w ∈ Cond.classLink own ik (exN k) :: Cond.initialized (exN k) :: vx_atS own ic (exN k) pNms, vx_ot w = true := by
          intro w hw
          simp only [List.mem_cons] at hw
          rcases hw with rfl | rfl | hw
          · rfl
          · rfl
          · rcases w2 w hw with h | h
            · unfold vx_ot; rw [(List.mem_filter.mp h).2]; simp
            · unfold vx_ot; rw [sw_ot h]; rfl
        split at g6
        · obtain ⟨e4, e6, e9⟩ := of_decide_eq_true g6
          exact px_throwS hx hb hl hown w1 pNms_fit hcl (hts _ w3) hstr hat hgood hS.2.2.2.2.1.1 hS.2.2.2.2.1.2 hvS (hsz.trans hml.symm) hd g3 e4 e6 e9 (hout' _) (by show 2 + 3 < _; omega) (by show _ + (13 * (2 + 1) + 43) ≤ _; omega) hRc hRs hlocks hxx hlo hmc hms
        · obtain ⟨e4, e6, e9⟩ := of_decide_eq_true g6
          exact px_throwSW hx hb hl hown w1 pNms_fit hcl (hts _ w3) hstr hat hgood hS.2.2.2.2.1.1 hS.2.2.2.2.1.2 hvS (hsz.trans hml.symm) hd g3 e4 e6 e9 (hout' _) (by show 2 + 3 < _; omega) (by show _ + (13 * (2 + 1) + 43) ≤ _; omega) hRc hRs hlocks hxx hlo hmc hms
      · have hk : k = 3 := by omega
        subst hk
        have hdd : (w = 0 ∧ decode cc (pc + 4) = .ok (.ldc q.2.1, 2) ∧ decode cc (pc + 6) = .ok (.invokespecial ic, 3) ∧ decode cc (pc + 9) = .ok (.athrow, 1)) ∨ (w ≠ 0 ∧ decode cc (pc + 4) = .ok (.ldc_w q.2.1, 3) ∧ decode cc (pc + 7) = .ok (.invokespecial ic, 3) ∧ decode cc (pc + 10) = .ok (.athrow, 1)) := by
          split at g6
          · rename_i hw
            exact Or.inl ⟨hw, of_decide_eq_true g6⟩
          · rename_i hw
            exact Or.inr ⟨hw, of_decide_eq_true g6⟩
        unfold pAtS at w2
        rw [if_neg (by omega)] at w2
        exact px_throw3 hx hb hl hown hcl (hts _ w3) hstr hts hS.1 w2 hS.2.2.2.2.1.1 hS.2.2.2.2.1.2 hvS (hsz.trans hml.symm) hd g3 hdd hout (by omega) (by omega) hRc hRs hlocks hxx hlo hmc hms
    · cases g4
  · cases ok
end PX
