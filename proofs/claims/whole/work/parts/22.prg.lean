/-! THE PROGRAM: every method meets what its pure run says -/
section PX
variable {D : va_G} {base : Nat} {sp : Nat → Nat} {s0 : State} {L : Nat} {xs : Nat → Int32} {strs : List (String × Nat × String)} {len : List Nat} {byt : List (List Int32)} {adV : Nat → Nat} {ncs : List (String × String)} {l : Launch}
variable {p : Program} {e : Env} {R : Room} {s : State} {m : MethodId} {args : Array Value} {below : List Frame} {meth : Method} {c : Code}
theorem va_S_of {M0 M : pMem} {H : Heap} {locs : List Loc} (h0 : RelH D base sp s0 L xs s M0 s.heap) (hR : RelH D base sp s0 L xs s M H) (hn : gN M0 ≤ gN M) (hlo : ∀ z ∈ locs, base ≤ z.base) : va_S (fun q => base ≤ q) s.heap H locs := by
  refine ⟨by rw [h0.1.1, hR.1.1]; omega, fun q _ h2 => ?_, hlo⟩
  have h2 : ¬ base ≤ q := h2
  rw [hR.2.1 q (by omega), h0.2.1 q (by omega)]
/-- 'throw new NoSuchElementException("text")' -/
theorem px_throw3 {cc : ByteArray} {pc : Nat} (hexec : p.tables.exec = Jvm.exec) (hb : c.code = cc) (hl : l.stackTraces = false) {own text : String} {ik is ic mc ms sa w : Nat} {A : Nat → Prop} {ls : Array Slot} {rest : List Value} {H : Heap} {locs : List Loc} {cells slots : Nat} {free : Addr → Prop} {Qc : Array Value → State → Outcome → State → Prop} {XC : String → State → State → Prop}
    (hown : s.vm.findClass own = some m.cls) (hk : (Cond.classLink own ik (exN 3)).before args s = true) (hini : (Cond.initialized (exN 3)).before args s = true) (hstr : vk_R own is text sa s) (hts : ∀ w ∈ GW, w.before args s = true) (hsw : ∀ w ∈ SW, va_Nw w s)
    (hU : vx_Zq Bundle.tN "UNASSIGNED_STACK" Bundle.steD A s s.heap) (hN : vx_Zq Bundle.tN "SUPPRESSED_SENTINEL" Bundle.listD A s s.heap) (hS : va_S A s.heap H locs) (hsize : ls.size = c.maxLocals)
    (d0 : decode cc pc = .ok (.new ik, 3)) (d3 : decode cc (pc + 3) = .ok (.dup, 1)) (d4 : (w = 0 ∧ decode cc (pc + 4) = .ok (.ldc is, 2) ∧ decode cc (pc + 6) = .ok (.invokespecial ic, 3) ∧ decode cc (pc + 9) = .ok (.athrow, 1)) ∨ (w ≠ 0 ∧ decode cc (pc + 4) = .ok (.ldc_w is, 3) ∧ decode cc (pc + 7) = .ok (.invokespecial ic, 3) ∧ decode cc (pc + 10) = .ok (.athrow, 1)))
    (hout : ∀ x ∈ c.exceptionTable.toList, False) (hRframes : 20 ≤ R.frames) (hRlocals : (rest.map fun v => v.category).sum + 300 ≤ R.locals) (hRcells : cells + 1 ≤ R.cells) (hRslots : slots + 6 ≤ R.slots) (hlocks : meth.locks = false)
    (hx : ∀ t : State, s.vm.Alike t.vm → t.heap.size = H.size + 1 → (∀ q : Nat, q < H.size → t.heap[q]? = H[q]?) → XC (exN 3) s t)
    (hf : ∀ z ∈ locs, free z.base) (hc : cells + 1 ≤ mc) (hs : slots + 6 ≤ ms) :
    W p l e R s m args below meth c H locs cells slots (vx_MQ below Qc XC args s mc ms free) (F0 m pc ls rest) := by
  sorry
set_option maxHeartbeats 4000000 in
set_option maxRecDepth 100000 in
/-- a throw of its own -/
theorem thrRow {thr : List (String × Nat × Nat)} {own : String} {cc : ByteArray} {nL d k pc ik mc ms cells slots : Nat} {r : List Nat} {Ls : Array Slot} {H : Heap} {locs : List Loc} {st : List Value} {M0 M : pMem} {Qc : Array Value → State → Outcome → State → Prop}
    (hW : okW thr) (hl : l.stackTraces = false) (hx : p.tables.exec = Jvm.exec) (hb : c.code = cc) (hml : c.maxLocals = nL) (hown : s.vm.findClass own = some m.cls) (hts : ∀ w ∈ GW, w.before args s = true) (hS : pSide base sp strs len byt adV ncs s) (h0 : RelH D base sp s0 L xs s M0 s.heap) (hrf : d + 21 ≤ R.frames) (hrl : 64 * (d + 1) + 400 ≤ R.locals) (hout : ∀ x ∈ c.exceptionTable.toList, False) (hlocks : meth.locks = false)
    (hd : decode cc pc = .ok (.new ik, 3)) (ok : okThr strs thr own cc pc ik k r = true) (hsz : Ls.size = nL) (hR : RelH D base sp s0 L xs s M H) (hlo : ∀ z ∈ locs, base ≤ z.base) (hn : gN M0 ≤ gN M) (hst : pRm st ≤ 8) (hbd : gN M < 900000) (hRc : cells + 1 ≤ R.cells) (hRs : slots + 6 ≤ R.slots) (hmc : cells + 1 ≤ mc) (hms : slots + 6 ≤ ms) :
    W p l e R s m args below meth c H locs cells slots (vx_MQ below Qc (xcY D base sp s0 L xs k (nx M)) args s mc ms (fun q => base ≤ q)) (F0 m pc Ls (st.map (pTr base sp))) := by
  unfold okThr at ok
  split at ok
  · rename_i p0 w js ic q9
    simp only [Bool.and_eq_true, decide_eq_true_eq, List.contains_iff_mem] at ok
    obtain ⟨⟨g1, g2, g3⟩, g4⟩ := ok
    split at g4
    · rename_i q hq
      simp only [Bool.and_eq_true, decide_eq_true_eq] at g4
      obtain ⟨g5, g6⟩ := g4
      obtain ⟨w0, w1, w2, w3⟩ := hW _ g1
      dsimp only at w0 w1 w2 w3
      have hstr := hS.2.1 _ _ hq
      rw [g5] at hstr
      have hrest := rest_ok (base := base) (sp := sp) hst
      have hxx : ∀ t : State, s.vm.Alike t.vm → t.heap.size = H.size + 1 → (∀ q : Nat, q < H.size → t.heap[q]? = H[q]?) → xcY D base sp s0 L xs k (nx M) (exN k) s t := fun t h1 h2 h3 => ⟨rfl, (hR.pushX h2 h3 hbd).moved h1⟩
      have hvS := va_S_of h0 hR hn hlo
      have hcl : (Cond.classLink own ik (exN k)).before args s = true := hts _ (gw_at g2 rfl)
      have hout' : ∀ (n : Nat), ∀ x ∈ c.exceptionTable.toList, covers x n = false := fun n x hx => (hout x hx).elim
      by_cases hk3 : k < 3
      · unfold pAtS at w2
        rw [if_pos hk3] at w2
        have hat : ∀ w ∈ vx_atS own ic (exN k) pNms, w.before args s = true := fun w hw => (w2 w hw).elim (fun h => hts w h) (fun h => (hS.1 w h).use (sw_ot h))
        have hgood : ∀ w ∈ Cond.classLink own ik (exN k) :: Cond.initialized (exN k) :: vx_atS own ic (exN k) pNms, vx_ot w = true := by
          intro w hw
          simp only [List.mem_cons] at hw
          rcases hw with rfl | rfl | hw
          · rfl
          · rfl
          · rcases w2 w hw with h | h
            · unfold vx_ot; rw [(List.mem_filter.mp h).2]; simp
            · unfold vx_ot; rw [sw_ot h]; rfl
        split at g6
        · obtain ⟨e4, e6, e9⟩ := of_decide_eq_true g6
          exact px_throwS hx hb hl hown w1 pNms_fit hcl (hts _ w3) hstr hat hgood hS.2.2.2.2.1.1 hS.2.2.2.2.1.2 hvS (hsz.trans hml.symm) hd g3 e4 e6 e9 (hout' _) (by show 2 + 3 < _; omega) (by show _ + (13 * (2 + 1) + 43) ≤ _; omega) hRc hRs hlocks hxx hlo hmc hms
        · obtain ⟨e4, e6, e9⟩ := of_decide_eq_true g6
          exact px_throwSW hx hb hl hown w1 pNms_fit hcl (hts _ w3) hstr hat hgood hS.2.2.2.2.1.1 hS.2.2.2.2.1.2 hvS (hsz.trans hml.symm) hd g3 e4 e6 e9 (hout' _) (by show 2 + 3 < _; omega) (by show _ + (13 * (2 + 1) + 43) ≤ _; omega) hRc hRs hlocks hxx hlo hmc hms
      · have hk : k = 3 := by omega
        subst hk
        have hdd : (w = 0 ∧ decode cc (pc + 4) = .ok (.ldc q.2.1, 2) ∧ decode cc (pc + 6) = .ok (.invokespecial ic, 3) ∧ decode cc (pc + 9) = .ok (.athrow, 1)) ∨ (w ≠ 0 ∧ decode cc (pc + 4) = .ok (.ldc_w q.2.1, 3) ∧ decode cc (pc + 7) = .ok (.invokespecial ic, 3) ∧ decode cc (pc + 10) = .ok (.athrow, 1)) := by
          split at g6
          · rename_i hw
            exact Or.inl ⟨hw, of_decide_eq_true g6⟩
          · rename_i hw
            exact Or.inr ⟨hw, of_decide_eq_true g6⟩
        exact px_throw3 hx hb hl hown hcl (hts _ w3) hstr hts hS.1 hS.2.2.2.2.1.1 hS.2.2.2.2.1.2 hvS (hsz.trans hml.symm) hd g3 hdd hout (by omega) (by omega) hRc hRs hlocks hxx hlo hmc hms
    · cases g4
  · cases ok
end PX
