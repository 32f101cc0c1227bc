/-! length and charAt of text constants: seven members of the JDK, walked -/
section JD
variable {D : va_G} {base : Nat} {sp : Nat → Nat} {s0 : State} {L : Nat} {xs : Nat → Int32} {strs : List (String × Nat × String)} {len : List Nat} {byt : List (List Int32)} {adV : Nat → Nat} {ncs : List (String × String)} {l : Launch}
/-- a contract that leaves the memory as it is -/
def ConG (D : va_G) (base : Nat) (sp : Nat → Nat) (s0 : State) (L : Nat) (xs : Nat → Int32) (strs : List (String × Nat × String)) (len : List Nat) (byt : List (List Int32)) (adV : Nat → Nat) (ncs : List (String × String)) (l : Launch) (r : Nat) (y : MethodName) (bytes : ByteArray) (maxL : Nat) (ret : Option FieldType) (av : List Value) (M : pMem) (x : Option Value) : Prop :=
  Met l y (Cond.code y bytes maxL ret :: GW) { frames := r + 1, cells := 0, slots := 0, locals := 50 * (r + 1) } (va_Pc av (fun U => RelH D base sp s0 L xs U M U.heap ∧ pSide base sp strs len byt adV ncs U)) (qcY D base sp s0 L xs x M) 0 0 (fun q => base ≤ q)
variable {p : Program} {e : Env} {R : Room} {s : State} {m : MethodId} {args : Array Value} {below : List Frame} {meth : Method} {c : Code} {H : Heap} {locs : List Loc} {cells slots : Nat} {Q : State → Prop}
variable {pc r : Nat} {Ls : Array Slot} {M : pMem} {rest av : List Value} {cc : ByteArray} {nL : Nat} {own : String} {idx n j : Nat} {y : MethodName} {bytes : ByteArray} {maxL : Nat} {ret : Option FieldType} {x : Option Value} {i : Int32}
theorem g_blind : FrameBlind (va_Pc av (fun U => RelH D base sp s0 L xs U M U.heap ∧ pSide base sp strs len byt adV ncs U)) := by
  rintro a U g mk ⟨h1, h2, h3⟩
  exact ⟨h1, RelH.moved (s := U) (U := U.calling g mk a) (Vm.Alike.refl U.vm) h2, pSide.same (s := U) (U := U.calling g mk a) rfl rfl h3⟩
theorem g_pre (hR : RelH D base sp s0 L xs s M H) (hS : pSide base sp strs len byt adV ncs s) (hs0 : ∀ q : Nat, q < base → s.heap[q]? = s0.heap[q]?) : ∀ U : State, U.heap = H → s.WarmedH U.vm → va_Pc av (fun U => RelH D base sp s0 L xs U M U.heap ∧ pSide base sp strs len byt adV ncs U) av.toArray U := by
  intro U hU hW
  refine ⟨rfl, ?_, pSide.warm hW (fun q hq => ?_) hS⟩
  · rw [hU]
    exact hR.moved hW.alike
  · rw [hU, hR.2.1 q hq, hs0 q hq]
theorem g_callS (hC : ConG D base sp s0 L xs strs len byt adV ncs l r y bytes maxL ret av M x) (hx : p.tables.exec = Jvm.exec) (hb : c.code = cc) (hml : c.maxLocals = nL) (hown : s.vm.findClass own = some m.cls) (hts : ∀ w ∈ GW, w.before args s = true) (hS : pSide base sp strs len byt adV ncs s) (hs0 : ∀ q : Nat, q < base → s.heap[q]? = s0.heap[q]?) (hR : RelH D base sp s0 L xs s M H)
    (w1 : Cond.methodLink own idx y ∈ GW) (w2 : Cond.static y ∈ GW) (w3 : Cond.initialized y.cls ∈ GW) (w4 : Cond.code y bytes maxL ret ∈ GW) (hd9 : y.cls ≠ "java/lang/invoke/MethodHandle" ∧ y.cls ≠ "java/lang/invoke/VarHandle" ∧ (parseMethodDescriptor y.desc).map (fun d => d.parameters.length) = some n)
    (hrm : r + 1 + 1 ≤ R.frames ∧ 8 + (maxL + 11) + 50 * (r + 1) ≤ R.locals) (hn : av.length = n) (hrest : (rest.map fun v => v.category).sum ≤ 8) (hsz : Ls.size = nL) (hd : decode cc pc = .ok (.invokestatic idx, 3)) (hc : cells + 0 ≤ R.cells) (hsl : slots + 0 ≤ R.slots)
    (kk : ∀ (H1 : Heap) (locs1 : List Loc), (∀ z ∈ locs1, z ∈ locs ∨ base ≤ z.base) → RelH D base sp s0 L xs s M H1 → W p l e R s m args below meth c H1 locs1 (cells + 0) (slots + 0) Q (F0 m (pc + 3) Ls ((x.map (pTr base sp)).toList ++ rest))) :
    W p l e R s m args below meth c H locs cells slots Q (F0 m pc Ls (av.reverse ++ rest)) := by
  have S : CallFix p m c cc nL s args GW own := ⟨hx, hb, hml, hown, hts⟩
  have hG : GoodIn GW (va_wsS own idx y (Cond.code y bytes maxL ret :: GW)) := good_app (fun w hw => by
    simp only [List.mem_cons, List.not_mem_nil, or_false] at hw
    rcases hw with rfl | rfl | rfl
    · exact w1
    · exact w2
    · exact w3) (fun w hw => by
    rcases List.mem_cons.mp hw with rfl | hw
    · exact w4
    · exact hw)
  exact pcall (va_runS S hC (va_cwS n hts hG rfl rfl rfl hd9 hrm) ⟨g_blind, fun U hU hW => g_pre hR hS hs0 U hU hW⟩ rfl hn hsz rfl (lv_room hrest) hd ⟨hc, hsl⟩) kk
theorem g_callV (hC : ConG D base sp s0 L xs strs len byt adV ncs l r y bytes maxL ret (.ref (sp (1 + j)) :: av) M x) (hj : j < len.length) (hcls : y.cls = "java/lang/String") (hx : p.tables.exec = Jvm.exec) (hb : c.code = cc) (hml : c.maxLocals = nL) (hown : s.vm.findClass own = some m.cls) (hts : ∀ w ∈ GW, w.before args s = true) (hS : pSide base sp strs len byt adV ncs s) (hs0 : ∀ q : Nat, q < base → s.heap[q]? = s0.heap[q]?) (hR : RelH D base sp s0 L xs s M H)
    (w1 : Cond.methodLink own idx y ∈ GW) (w2 : Cond.instanceMethod y ∈ GW) (w3 : Cond.initialized y.cls ∈ GW) (w4 : Cond.code y bytes maxL ret ∈ GW) (w5 : Cond.selects y.cls y y ∈ GW) (hd9 : y.cls ≠ "java/lang/invoke/MethodHandle" ∧ y.cls ≠ "java/lang/invoke/VarHandle" ∧ (parseMethodDescriptor y.desc).map (fun d => d.parameters.length) = some n)
    (hrm : r + 1 + 1 ≤ R.frames ∧ 8 + (maxL + 11) + 50 * (r + 1) ≤ R.locals) (hn : av.length = n) (hrest : (rest.map fun v => v.category).sum ≤ 8) (hsz : Ls.size = nL) (hd : decode cc pc = .ok (.invokevirtual idx, 3)) (hc : cells + 0 ≤ R.cells) (hsl : slots + 0 ≤ R.slots)
    (kk : ∀ (H1 : Heap) (locs1 : List Loc), (∀ z ∈ locs1, z ∈ locs ∨ base ≤ z.base) → RelH D base sp s0 L xs s M H1 → W p l e R s m args below meth c H1 locs1 (cells + 0) (slots + 0) Q (F0 m (pc + 3) Ls ((x.map (pTr base sp)).toList ++ rest))) :
    W p l e R s m args below meth c H locs cells slots Q (F0 m pc Ls (av.reverse ++ .ref (sp (1 + j)) :: rest)) := by
  have S : CallFix p m c cc nL s args GW own := ⟨hx, hb, hml, hown, hts⟩
  obtain ⟨cell, c1, c2, c3, c4⟩ := (hS.2.2.2.2.2.1.1 j hj).1
  have q6 : ∃ cell : Cell, H[sp (1 + j)]? = some cell ∧ cell.vm.isStatics = false ∧ s.vm.findClass y.cls = some cell.cls := ⟨cell, by rw [hR.2.1 _ (Nat.not_le.mp c4), ← hs0 _ (Nat.not_le.mp c4)]; exact c1, c2, by rw [hcls]; exact c3⟩
  have hG : GoodIn GW (wsV own idx y.cls y (Cond.code y bytes maxL ret :: GW)) := good_app (fun w hw => by
    simp only [List.mem_cons, List.not_mem_nil, or_false] at hw
    rcases hw with rfl | rfl | rfl | rfl
    · exact w1
    · exact w2
    · exact w5
    · exact w3) (fun w hw => by
    rcases List.mem_cons.mp hw with rfl | hw
    · exact w4
    · exact hw)
  exact pcall (va_runV S hC (cwV n hts hG rfl rfl rfl ⟨rfl, hd9⟩ hrm) ⟨g_blind, q6, fun U hU hW => g_pre hR hS hs0 U hU hW⟩ rfl hn hsz rfl (lv_room hrest) hd ⟨hc, hsl⟩) kk
def yCoder : MethodName := ⟨"java/lang/String", "coder", "()B"⟩
def yLat : MethodName := ⟨"java/lang/String", "isLatin1", "()Z"⟩
def yLen : MethodName := ⟨"java/lang/String", "length", "()I"⟩
def yChr : MethodName := ⟨"java/lang/String", "charAt", "(I)C"⟩
def yLch : MethodName := ⟨"java/lang/StringLatin1", "charAt", "([BI)C"⟩
def yIdx : MethodName := ⟨"java/lang/String", "checkIndex", "(II)V"⟩
def yPre : MethodName := ⟨"jdk/internal/util/Preconditions", "checkIndex", "(IILjava/util/function/BiFunction;)I"⟩
abbrev bCoder : ByteArray := prog_25_method_152_code
abbrev bLat : ByteArray := prog_25_method_154_code
abbrev bLen : ByteArray := prog_25_method_54_code
abbrev bChr : ByteArray := prog_25_method_56_code
abbrev bLch : ByteArray := prog_26_method_2_code
abbrev bIdx : ByteArray := prog_25_method_155_code
abbrev bPre : ByteArray := prog_35_method_11_code
theorem shr0 (x : Int32) : x >>> ((0 : Int32) &&& 31) = x := by
  apply Int32.toBitVec_inj.mp
  rw [Int32.toBitVec_shiftRight]
  simp
set_option maxRecDepth 100000 in
theorem j_coder (hj : j < len.length) : ConG D base sp s0 L xs strs len byt adV ncs l 0 yCoder bCoder 1 (some .byte) [.ref (sp (1 + j))] M (some (.int 0)) := by
  refine Met.ofW (cc := bCoder) (maxL := 1) (ret := some .byte) (by decide +kernel) rfl ?_
  intro p e s m args below meth c s₁ BB hml hPc
  obtain ⟨rfl, hR, hS⟩ := hPc
  have hts0 := atoms_spec (ws := Cond.code yCoder bCoder 1 (some .byte) :: GW) BB.pre
  have hts : ∀ w ∈ GW, w.before ([.ref (sp (1 + j))] : List Value).toArray s = true := fun w hw => hts0 w (List.mem_cons_of_mem _ hw)
  have hown := findClass_of_methodNamed BB.named
  have hx := BB.exec
  have hb := BB.bytes
  have hret := BB.returns
  have hlk := BB.notSynchronized
  have hs0 := hR.2.1
  have hl := lv_entry ([.ref (sp (1 + j))] : List Value) (n := 1) (Nat.le_of_ble_eq_true rfl)
  rw [lg_entry_eq]
  generalize (lg_sl ([.ref (sp (1 + j))] : List Value) ++ List.replicate (1 - (lg_sl ([.ref (sp (1 + j))] : List Value)).length) Slot.unset).toArray = ls at hl ⊢
  have hl : lv_has ls 1 [(0, .ref (sp (1 + j)))] := hl
  have hv : va_S (fun q => base ≤ q) s.heap s.heap [] := va_S.rf
  obtain ⟨hO, hC, hV, hT⟩ := hS.2.2.2.2.2.1.1 j hj
  have hZ := hS.2.2.2.2.2.2.1
  refine va_gets hx hb hZ hv hown (hts _ (gw_at (w := Cond.fieldLink "java/lang/String" 38 "java/lang/String" "COMPACT_STRINGS" "Z") (i := 758) (by decide +kernel) rfl)) (fun _ h => h) (show decode bCoder 0 = .ok (.getstatic 38, 3) from by decide +kernel) ?_
  refine lv_if_eq hx hb (show decode bCoder 3 = .ok (.ifCond .eq 10, 3) from by decide +kernel) (tgt := 13) (by decide) (fun h => absurd h (by decide)) (fun _ => ?_)
  refine lv_aload_n hx hb (show decode bCoder 6 = .ok (.aload_n 0, 1) from by decide +kernel) rfl (lv_at hl 0 rfl) ?_
  refine vk_getf hx hb hC hv hown (hts _ (gw_at (w := Cond.fieldLink "java/lang/String" 15 "java/lang/String" "coder" "B") (i := 1989) (by decide +kernel) rfl)) (fun _ h => h) (show decode bCoder 7 = .ok (.getfield 15, 3) from by decide +kernel) ?_
  refine lv_goto hx hb (show decode bCoder 10 = .ok (.goto 4, 3) from by decide +kernel) (tgt := 14) (by decide) ?_
  refine W.zret hx hb hret rfl (fun t ht hw => ⟨rfl, ?_⟩) (fun q hq => nomatch hq) (show decode bCoder 14 = .ok (.ireturn, 1) from by decide +kernel) hlk
  rw [ht]; exact hR.moved hw.alike
set_option maxRecDepth 100000 in
theorem j_lat (hj : j < len.length) : ConG D base sp s0 L xs strs len byt adV ncs l 0 yLat bLat 1 (some .boolean) [.ref (sp (1 + j))] M (some (.int 1)) := by
  refine Met.ofW (cc := bLat) (maxL := 1) (ret := some .boolean) (by decide +kernel) rfl ?_
  intro p e s m args below meth c s₁ BB hml hPc
  obtain ⟨rfl, hR, hS⟩ := hPc
  have hts0 := atoms_spec (ws := Cond.code yLat bLat 1 (some .boolean) :: GW) BB.pre
  have hts : ∀ w ∈ GW, w.before ([.ref (sp (1 + j))] : List Value).toArray s = true := fun w hw => hts0 w (List.mem_cons_of_mem _ hw)
  have hown := findClass_of_methodNamed BB.named
  have hx := BB.exec
  have hb := BB.bytes
  have hret := BB.returns
  have hlk := BB.notSynchronized
  have hs0 := hR.2.1
  have hl := lv_entry ([.ref (sp (1 + j))] : List Value) (n := 1) (Nat.le_of_ble_eq_true rfl)
  rw [lg_entry_eq]
  generalize (lg_sl ([.ref (sp (1 + j))] : List Value) ++ List.replicate (1 - (lg_sl ([.ref (sp (1 + j))] : List Value)).length) Slot.unset).toArray = ls at hl ⊢
  have hl : lv_has ls 1 [(0, .ref (sp (1 + j)))] := hl
  have hv : va_S (fun q => base ≤ q) s.heap s.heap [] := va_S.rf
  obtain ⟨hO, hC, hV, hT⟩ := hS.2.2.2.2.2.1.1 j hj
  have hZ := hS.2.2.2.2.2.2.1
  refine va_gets hx hb hZ hv hown (hts _ (gw_at (w := Cond.fieldLink "java/lang/String" 38 "java/lang/String" "COMPACT_STRINGS" "Z") (i := 758) (by decide +kernel) rfl)) (fun _ h => h) (show decode bLat 0 = .ok (.getstatic 38, 3) from by decide +kernel) ?_
  refine lv_if_eq hx hb (show decode bLat 3 = .ok (.ifCond .eq 14, 3) from by decide +kernel) (tgt := 17) (by decide) (fun h => absurd h (by decide)) (fun _ => ?_)
  refine lv_aload_n hx hb (show decode bLat 6 = .ok (.aload_n 0, 1) from by decide +kernel) rfl (lv_at hl 0 rfl) ?_
  refine vk_getf hx hb hC hv hown (hts _ (gw_at (w := Cond.fieldLink "java/lang/String" 15 "java/lang/String" "coder" "B") (i := 1989) (by decide +kernel) rfl)) (fun _ h => h) (show decode bLat 7 = .ok (.getfield 15, 3) from by decide +kernel) ?_
  refine lv_if_ne hx hb (show decode bLat 10 = .ok (.ifCond .ne 7, 3) from by decide +kernel) (tgt := 17) (by decide) (fun h => absurd rfl h) (fun _ => ?_)
  refine lv_iconst hx hb (show decode bLat 13 = .ok (.iconst 1, 1) from by decide +kernel) (v := 1) rfl ?_
  refine lv_goto hx hb (show decode bLat 14 = .ok (.goto 4, 3) from by decide +kernel) (tgt := 18) (by decide) ?_
  refine W.zret hx hb hret rfl (fun t ht hw => ⟨rfl, ?_⟩) (fun q hq => nomatch hq) (show decode bLat 18 = .ok (.ireturn, 1) from by decide +kernel) hlk
  rw [ht]; exact hR.moved hw.alike
set_option maxRecDepth 100000 in
theorem j_pre0 {k : Int32} (h1 : ¬ i < 0) (h2 : i < k) : ConG D base sp s0 L xs strs len byt adV ncs l 0 yPre bPre 3 (some .int) [.int i, .int k, .null] M (some (.int i)) := by
  refine Met.ofW (cc := bPre) (maxL := 3) (ret := some .int) (by decide +kernel) rfl ?_
  intro p e s m args below meth c s₁ BB hml hPc
  obtain ⟨rfl, hR, hS⟩ := hPc
  have hts0 := atoms_spec (ws := Cond.code yPre bPre 3 (some .int) :: GW) BB.pre
  have hts : ∀ w ∈ GW, w.before ([.int i, .int k, .null] : List Value).toArray s = true := fun w hw => hts0 w (List.mem_cons_of_mem _ hw)
  have hown := findClass_of_methodNamed BB.named
  have hx := BB.exec
  have hb := BB.bytes
  have hret := BB.returns
  have hlk := BB.notSynchronized
  have hs0 := hR.2.1
  have hl := lv_entry ([.int i, .int k, .null] : List Value) (n := 3) (Nat.le_of_ble_eq_true rfl)
  rw [lg_entry_eq]
  generalize (lg_sl ([.int i, .int k, .null] : List Value) ++ List.replicate (3 - (lg_sl ([.int i, .int k, .null] : List Value)).length) Slot.unset).toArray = ls at hl ⊢
  have hl : lv_has ls 3 [(0, .int i), (1, .int k), (2, .null)] := hl
  have hv : va_S (fun q => base ≤ q) s.heap s.heap [] := va_S.rf
  refine lv_iload_n hx hb (show decode bPre 0 = .ok (.iload_n 0, 1) from by decide +kernel) rfl (lv_at hl 0 rfl) ?_
  refine lv_if_lt hx hb (show decode bPre 1 = .ok (.ifCond .lt 8, 3) from by decide +kernel) (tgt := 9) (by decide) (fun h => absurd h h1) (fun _ => ?_)
  refine lv_iload_n hx hb (show decode bPre 4 = .ok (.iload_n 0, 1) from by decide +kernel) rfl (lv_at hl 0 rfl) ?_
  refine lv_iload_n hx hb (show decode bPre 5 = .ok (.iload_n 1, 1) from by decide +kernel) rfl (lv_at hl 1 rfl) ?_
  refine lv_icmp_lt hx hb (show decode bPre 6 = .ok (.if_icmp .lt 10, 3) from by decide +kernel) (tgt := 16) (by decide) (fun _ => ?_) (fun h => absurd h2 h)
  refine lv_iload_n hx hb (show decode bPre 16 = .ok (.iload_n 0, 1) from by decide +kernel) rfl (lv_at hl 0 rfl) ?_
  refine W.iret hx hb hret (fun t ht hw => ⟨rfl, ?_⟩) (fun q hq => nomatch hq) (show decode bPre 17 = .ok (.ireturn, 1) from by decide +kernel) hlk
  rw [ht]; exact hR.moved hw.alike
set_option maxRecDepth 100000 in
theorem j_pre1 {k : Int32} {t : Nat} (h1 : ¬ i < 0) (h2 : i < k) : ConG D base sp s0 L xs strs len byt adV ncs l 0 yPre bPre 3 (some .int) [.int i, .int k, .ref t] M (some (.int i)) := by
  refine Met.ofW (cc := bPre) (maxL := 3) (ret := some .int) (by decide +kernel) rfl ?_
  intro p e s m args below meth c s₁ BB hml hPc
  obtain ⟨rfl, hR, hS⟩ := hPc
  have hts0 := atoms_spec (ws := Cond.code yPre bPre 3 (some .int) :: GW) BB.pre
  have hts : ∀ w ∈ GW, w.before ([.int i, .int k, .ref t] : List Value).toArray s = true := fun w hw => hts0 w (List.mem_cons_of_mem _ hw)
  have hown := findClass_of_methodNamed BB.named
  have hx := BB.exec
  have hb := BB.bytes
  have hret := BB.returns
  have hlk := BB.notSynchronized
  have hs0 := hR.2.1
  have hl := lv_entry ([.int i, .int k, .ref t] : List Value) (n := 3) (Nat.le_of_ble_eq_true rfl)
  rw [lg_entry_eq]
  generalize (lg_sl ([.int i, .int k, .ref t] : List Value) ++ List.replicate (3 - (lg_sl ([.int i, .int k, .ref t] : List Value)).length) Slot.unset).toArray = ls at hl ⊢
  have hl : lv_has ls 3 [(0, .int i), (1, .int k), (2, .ref t)] := hl
  have hv : va_S (fun q => base ≤ q) s.heap s.heap [] := va_S.rf
  refine lv_iload_n hx hb (show decode bPre 0 = .ok (.iload_n 0, 1) from by decide +kernel) rfl (lv_at hl 0 rfl) ?_
  refine lv_if_lt hx hb (show decode bPre 1 = .ok (.ifCond .lt 8, 3) from by decide +kernel) (tgt := 9) (by decide) (fun h => absurd h h1) (fun _ => ?_)
  refine lv_iload_n hx hb (show decode bPre 4 = .ok (.iload_n 0, 1) from by decide +kernel) rfl (lv_at hl 0 rfl) ?_
  refine lv_iload_n hx hb (show decode bPre 5 = .ok (.iload_n 1, 1) from by decide +kernel) rfl (lv_at hl 1 rfl) ?_
  refine lv_icmp_lt hx hb (show decode bPre 6 = .ok (.if_icmp .lt 10, 3) from by decide +kernel) (tgt := 16) (by decide) (fun _ => ?_) (fun h => absurd h2 h)
  refine lv_iload_n hx hb (show decode bPre 16 = .ok (.iload_n 0, 1) from by decide +kernel) rfl (lv_at hl 0 rfl) ?_
  refine W.iret hx hb hret (fun t ht hw => ⟨rfl, ?_⟩) (fun q hq => nomatch hq) (show decode bPre 17 = .ok (.ireturn, 1) from by decide +kernel) hlk
  rw [ht]; exact hR.moved hw.alike
set_option maxRecDepth 100000 in
theorem j_idx {k : Int32} (h1 : ¬ i < 0) (h2 : i < k) : ConG D base sp s0 L xs strs len byt adV ncs l 1 yIdx bIdx 2 (none) [.int i, .int k] M (none) := by
  refine Met.ofW (cc := bIdx) (maxL := 2) (ret := none) (by decide +kernel) rfl ?_
  intro p e s m args below meth c s₁ BB hml hPc
  obtain ⟨rfl, hR, hS⟩ := hPc
  have hts0 := atoms_spec (ws := Cond.code yIdx bIdx 2 (none) :: GW) BB.pre
  have hts : ∀ w ∈ GW, w.before ([.int i, .int k] : List Value).toArray s = true := fun w hw => hts0 w (List.mem_cons_of_mem _ hw)
  have hown := findClass_of_methodNamed BB.named
  have hx := BB.exec
  have hb := BB.bytes
  have hret := BB.returns
  have hlk := BB.notSynchronized
  have hs0 := hR.2.1
  have hl := lv_entry ([.int i, .int k] : List Value) (n := 2) (Nat.le_of_ble_eq_true rfl)
  rw [lg_entry_eq]
  generalize (lg_sl ([.int i, .int k] : List Value) ++ List.replicate (2 - (lg_sl ([.int i, .int k] : List Value)).length) Slot.unset).toArray = ls at hl ⊢
  have hl : lv_has ls 2 [(0, .int i), (1, .int k)] := hl
  have hv : va_S (fun q => base ≤ q) s.heap s.heap [] := va_S.rf
  have hZ := hS.2.2.2.2.2.2.2
  refine lv_iload_n hx hb (show decode bIdx 0 = .ok (.iload_n 0, 1) from by decide +kernel) rfl (lv_at hl 0 rfl) ?_
  refine lv_iload_n hx hb (show decode bIdx 1 = .ok (.iload_n 1, 1) from by decide +kernel) rfl (lv_at hl 1 rfl) ?_
  rcases hZ with hZ | ⟨t, hZ⟩
  · refine va_gets hx hb hZ hv hown (hts _ (gw_at (w := Cond.fieldLink "java/lang/String" 1053 "jdk/internal/util/Preconditions" "SIOOBE_FORMATTER" "Ljava/util/function/BiFunction;") (i := 774) (by decide +kernel) rfl)) (fun _ h => h) (show decode bIdx 2 = .ok (.getstatic 1053, 3) from by decide +kernel) ?_
    refine g_callS (rest := []) (r := 0) (n := 3) (j_pre0 h1 h2) hx hb hml hown hts hS hs0 hR (gw_at (w := Cond.methodLink "java/lang/String" 1059 yPre) (i := 776) (by decide +kernel) rfl) (gw_at (w := Cond.static yPre) (i := 777) (by decide +kernel) rfl) (gw_at (w := Cond.initialized yPre.cls) (i := 107) (by decide +kernel) rfl) (gw_at (w := Cond.code yPre bPre 3 (some .int)) (i := 778) (by decide +kernel) rfl) (by decide +kernel) ⟨Nat.le_refl _, Nat.le_of_ble_eq_true rfl⟩ rfl (Nat.zero_le _) hl.1 (show decode bIdx 5 = .ok (.invokestatic 1059, 3) from by decide +kernel) (Nat.le_refl _) (Nat.le_refl _) (fun H1 locs1 hlo hR1 => ?_)
    refine lv_pop hx hb (show decode bIdx 8 = .ok (.pop, 1) from by decide +kernel) rfl ?_
    refine W.vret hx hb hret (fun t ht hw => ⟨rfl, ?_⟩) (fun q hq => (hlo q hq).elim (fun h => nomatch h) id) (show decode bIdx 9 = .ok (.return_, 1) from by decide +kernel) hlk
    rw [ht]; exact hR1.moved hw.alike
  · refine va_gets hx hb hZ hv hown (hts _ (gw_at (w := Cond.fieldLink "java/lang/String" 1053 "jdk/internal/util/Preconditions" "SIOOBE_FORMATTER" "Ljava/util/function/BiFunction;") (i := 774) (by decide +kernel) rfl)) (fun _ h => h) (show decode bIdx 2 = .ok (.getstatic 1053, 3) from by decide +kernel) ?_
    refine g_callS (rest := []) (r := 0) (n := 3) (j_pre1 h1 h2) hx hb hml hown hts hS hs0 hR (gw_at (w := Cond.methodLink "java/lang/String" 1059 yPre) (i := 776) (by decide +kernel) rfl) (gw_at (w := Cond.static yPre) (i := 777) (by decide +kernel) rfl) (gw_at (w := Cond.initialized yPre.cls) (i := 107) (by decide +kernel) rfl) (gw_at (w := Cond.code yPre bPre 3 (some .int)) (i := 778) (by decide +kernel) rfl) (by decide +kernel) ⟨Nat.le_refl _, Nat.le_of_ble_eq_true rfl⟩ rfl (Nat.zero_le _) hl.1 (show decode bIdx 5 = .ok (.invokestatic 1059, 3) from by decide +kernel) (Nat.le_refl _) (Nat.le_refl _) (fun H1 locs1 hlo hR1 => ?_)
    refine lv_pop hx hb (show decode bIdx 8 = .ok (.pop, 1) from by decide +kernel) rfl ?_
    refine W.vret hx hb hret (fun t ht hw => ⟨rfl, ?_⟩) (fun q hq => (hlo q hq).elim (fun h => nomatch h) id) (show decode bIdx 9 = .ok (.return_, 1) from by decide +kernel) hlk
    rw [ht]; exact hR1.moved hw.alike
set_option maxRecDepth 100000 in
theorem j_lch {v : Int32} (hj : j < len.length) (hi : pIn i (len.getD j 0) = true) (hln : len.getD j 0 < 100000) (hby : (((byt.getD j []).getD (pIx i) 0 &&& 255).toUInt32 % 65536).toInt32 = v) (hv9 : narrow .char (.int v) = .int v) : ConG D base sp s0 L xs strs len byt adV ncs l 2 yLch bLch 2 (some .char) [.ref (adV j), .int i] M (some (.int v)) := by
  refine Met.ofW (cc := bLch) (maxL := 2) (ret := some .char) (by decide +kernel) rfl ?_
  intro p e s m args below meth c s₁ BB hml hPc
  obtain ⟨rfl, hR, hS⟩ := hPc
  have hts0 := atoms_spec (ws := Cond.code yLch bLch 2 (some .char) :: GW) BB.pre
  have hts : ∀ w ∈ GW, w.before ([.ref (adV j), .int i] : List Value).toArray s = true := fun w hw => hts0 w (List.mem_cons_of_mem _ hw)
  have hown := findClass_of_methodNamed BB.named
  have hx := BB.exec
  have hb := BB.bytes
  have hret := BB.returns
  have hlk := BB.notSynchronized
  have hs0 := hR.2.1
  have hl := lv_entry ([.ref (adV j), .int i] : List Value) (n := 2) (Nat.le_of_ble_eq_true rfl)
  rw [lg_entry_eq]
  generalize (lg_sl ([.ref (adV j), .int i] : List Value) ++ List.replicate (2 - (lg_sl ([.ref (adV j), .int i] : List Value)).length) Slot.unset).toArray = ls at hl ⊢
  have hl : lv_has ls 2 [(0, .ref (adV j)), (1, .int i)] := hl
  have hv : va_S (fun q => base ≤ q) s.heap s.heap [] := va_S.rf
  obtain ⟨hO, hC, hV, hT⟩ := hS.2.2.2.2.2.1.1 j hj
  have hZ := hS.2.2.2.2.2.2.1
  have hin := of_decide_eq_true hi
  have h1 : ¬ i < 0 := by rw [Int32.lt_iff_toInt_lt]; show ¬ i.toInt < 0; omega
  have h2 : i < Int32.ofNat (len.getD j 0) := by
    rw [Int32.lt_iff_toInt_lt, Int32.toInt_ofNat_of_lt (by omega)]
    exact hin.2
  refine lv_iload_n hx hb (show decode bLch 0 = .ok (.iload_n 1, 1) from by decide +kernel) rfl (lv_at hl 1 rfl) ?_
  refine lv_aload_n hx hb (show decode bLch 1 = .ok (.aload_n 0, 1) from by decide +kernel) rfl (lv_at hl 0 rfl) ?_
  refine va_tlen hx hb hT hv rfl (show decode bLch 2 = .ok (.arraylength, 1) from by decide +kernel) ?_
  refine g_callS (rest := []) (r := 1) (n := 2) (j_idx h1 h2) hx hb hml hown hts hS hs0 hR (gw_at (w := Cond.methodLink "java/lang/StringLatin1" 9 yIdx) (i := 771) (by decide +kernel) rfl) (gw_at (w := Cond.static yIdx) (i := 772) (by decide +kernel) rfl) (gw_at (w := Cond.initialized yIdx.cls) (i := 105) (by decide +kernel) rfl) (gw_at (w := Cond.code yIdx bIdx 2 none) (i := 773) (by decide +kernel) rfl) (by decide +kernel) ⟨Nat.le_refl _, Nat.le_of_ble_eq_true rfl⟩ rfl (Nat.zero_le _) hl.1 (show decode bLch 3 = .ok (.invokestatic 9, 3) from by decide +kernel) (Nat.le_refl _) (Nat.le_refl _) (fun H1 locs1 hlo hR1 => ?_)
  have hlo1 : ∀ z ∈ locs1, base ≤ z.base := fun q hq => (hlo q hq).elim (fun h => nomatch h) id
  have hv1 := va_S_of hR hR1 (Nat.le_refl _) hlo1
  refine lv_aload_n hx hb (show decode bLch 6 = .ok (.aload_n 0, 1) from by decide +kernel) rfl (lv_at hl 0 rfl) ?_
  refine lv_iload_n hx hb (show decode bLch 7 = .ok (.iload_n 1, 1) from by decide +kernel) rfl (lv_at hl 1 rfl) ?_
  refine va_tb hx hb hT hv1 (pIn_vp hi) (v := .int ((byt.getD j []).getD (pIx i) 0)) rfl (show decode bLch 8 = .ok (.baload, 1) from by decide +kernel) ?_
  refine lv_sipush hx hb (show decode bLch 9 = .ok (.sipush 255, 3) from by decide +kernel) (v := 255) rfl ?_
  refine lv_iand hx hb (show decode bLch 12 = .ok (.iand, 1) from by decide +kernel) ?_
  refine lv_i2c hx hb (show decode bLch 13 = .ok (.i2c, 1) from by decide +kernel) (v := v) hby ?_
  refine W.zret hx hb hret hv9 (fun t ht hw => ⟨rfl, ?_⟩) hlo1 (show decode bLch 14 = .ok (.ireturn, 1) from by decide +kernel) hlk
  rw [ht]; exact hR1.moved hw.alike
set_option maxRecDepth 100000 in
theorem j_len (d : Nat) (hj : j < len.length) : Met l yLen (Cond.code yLen bLen 1 (some .int) :: GW) (rmD (d + 1) 0 0) (va_Pc [.ref (sp (1 + j))] (fun U => RelH D base sp s0 L xs U M U.heap ∧ pSide base sp strs len byt adV ncs U)) (qcY D base sp s0 L xs (some (.int (Int32.ofNat (len.getD j 0)))) M) 0 0 (fun q => base ≤ q) := by
  refine Met.ofW (cc := bLen) (maxL := 1) (ret := some .int) (by decide +kernel) rfl ?_
  intro p e s m args below meth c s₁ BB hml hPc
  obtain ⟨rfl, hR, hS⟩ := hPc
  have hts0 := atoms_spec (ws := Cond.code yLen bLen 1 (some .int) :: GW) BB.pre
  have hts : ∀ w ∈ GW, w.before ([.ref (sp (1 + j))] : List Value).toArray s = true := fun w hw => hts0 w (List.mem_cons_of_mem _ hw)
  have hown := findClass_of_methodNamed BB.named
  have hx := BB.exec
  have hb := BB.bytes
  have hret := BB.returns
  have hlk := BB.notSynchronized
  have hs0 := hR.2.1
  have hl := lv_entry ([.ref (sp (1 + j))] : List Value) (n := 1) (Nat.le_of_ble_eq_true rfl)
  rw [lg_entry_eq]
  generalize (lg_sl ([.ref (sp (1 + j))] : List Value) ++ List.replicate (1 - (lg_sl ([.ref (sp (1 + j))] : List Value)).length) Slot.unset).toArray = ls at hl ⊢
  have hl : lv_has ls 1 [(0, .ref (sp (1 + j)))] := hl
  have hv : va_S (fun q => base ≤ q) s.heap s.heap [] := va_S.rf
  obtain ⟨hO, hC, hV, hT⟩ := hS.2.2.2.2.2.1.1 j hj
  have hZ := hS.2.2.2.2.2.2.1
  refine lv_aload_n hx hb (show decode bLen 0 = .ok (.aload_n 0, 1) from by decide +kernel) rfl (lv_at hl 0 rfl) ?_
  refine vk_getf hx hb hV hv hown (hts _ (gw_at (w := Cond.fieldLink "java/lang/String" 9 "java/lang/String" "value" "[B") (i := 1988) (by decide +kernel) rfl)) (fun _ h => h) (show decode bLen 1 = .ok (.getfield 9, 3) from by decide +kernel) ?_
  refine va_tlen hx hb hT hv rfl (show decode bLen 4 = .ok (.arraylength, 1) from by decide +kernel) ?_
  refine lv_aload_n hx hb (show decode bLen 5 = .ok (.aload_n 0, 1) from by decide +kernel) rfl (lv_at hl 0 rfl) ?_
  refine g_callV (av := []) (r := 0) (n := 0) (y := yCoder) (j_coder hj) hj rfl hx hb hml hown hts hS hs0 hR (gw_at (w := Cond.methodLink "java/lang/String" 335 yCoder) (i := 754) (by decide +kernel) rfl) (gw_at (w := Cond.instanceMethod yCoder) (i := 755) (by decide +kernel) rfl) (gw_at (w := Cond.initialized yCoder.cls) (i := 105) (by decide +kernel) rfl) (gw_at (w := Cond.code yCoder bCoder 1 (some .byte)) (i := 757) (by decide +kernel) rfl) (gw_at (w := Cond.selects yCoder.cls yCoder yCoder) (i := 756) (by decide +kernel) rfl) (by decide +kernel) ⟨(by show 2 ≤ d + 1 + 20; omega), (by show 70 ≤ 64 * (d + 1) + 400; omega)⟩ rfl (Nat.le_of_ble_eq_true rfl) hl.1 (show decode bLen 6 = .ok (.invokevirtual 335, 3) from by decide +kernel) (Nat.le_refl _) (Nat.le_refl _) (fun H1 locs1 hlo hR1 => ?_)
  refine lv_ishr hx hb (show decode bLen 9 = .ok (.ishr, 1) from by decide +kernel) ?_
  rw [shr0]
  refine W.iret hx hb hret (fun t ht hw => ⟨rfl, ?_⟩) (fun q hq => (hlo q hq).elim (fun h => nomatch h) id) (show decode bLen 10 = .ok (.ireturn, 1) from by decide +kernel) hlk
  rw [ht]; exact hR1.moved hw.alike
set_option maxRecDepth 100000 in
theorem j_chr {v : Int32} (d : Nat) (hj : j < len.length) (hi : pIn i (len.getD j 0) = true) (hln : len.getD j 0 < 100000) (hby : (((byt.getD j []).getD (pIx i) 0 &&& 255).toUInt32 % 65536).toInt32 = v) (hv9 : narrow .char (.int v) = .int v) : Met l yChr (Cond.code yChr bChr 2 (some .char) :: GW) (rmD (d + 1) 0 0) (va_Pc [.ref (sp (1 + j)), .int i] (fun U => RelH D base sp s0 L xs U M U.heap ∧ pSide base sp strs len byt adV ncs U)) (qcY D base sp s0 L xs (some (.int v)) M) 0 0 (fun q => base ≤ q) := by
  refine Met.ofW (cc := bChr) (maxL := 2) (ret := some .char) (by decide +kernel) rfl ?_
  intro p e s m args below meth c s₁ BB hml hPc
  obtain ⟨rfl, hR, hS⟩ := hPc
  have hts0 := atoms_spec (ws := Cond.code yChr bChr 2 (some .char) :: GW) BB.pre
  have hts : ∀ w ∈ GW, w.before ([.ref (sp (1 + j)), .int i] : List Value).toArray s = true := fun w hw => hts0 w (List.mem_cons_of_mem _ hw)
  have hown := findClass_of_methodNamed BB.named
  have hx := BB.exec
  have hb := BB.bytes
  have hret := BB.returns
  have hlk := BB.notSynchronized
  have hs0 := hR.2.1
  have hl := lv_entry ([.ref (sp (1 + j)), .int i] : List Value) (n := 2) (Nat.le_of_ble_eq_true rfl)
  rw [lg_entry_eq]
  generalize (lg_sl ([.ref (sp (1 + j)), .int i] : List Value) ++ List.replicate (2 - (lg_sl ([.ref (sp (1 + j)), .int i] : List Value)).length) Slot.unset).toArray = ls at hl ⊢
  have hl : lv_has ls 2 [(0, .ref (sp (1 + j))), (1, .int i)] := hl
  have hv : va_S (fun q => base ≤ q) s.heap s.heap [] := va_S.rf
  obtain ⟨hO, hC, hV, hT⟩ := hS.2.2.2.2.2.1.1 j hj
  have hZ := hS.2.2.2.2.2.2.1
  refine lv_aload_n hx hb (show decode bChr 0 = .ok (.aload_n 0, 1) from by decide +kernel) rfl (lv_at hl 0 rfl) ?_
  refine g_callV (av := []) (rest := []) (r := 0) (n := 0) (y := yLat) (j_lat hj) hj rfl hx hb hml hown hts hS hs0 hR (gw_at (w := Cond.methodLink "java/lang/String" 492 yLat) (i := 764) (by decide +kernel) rfl) (gw_at (w := Cond.instanceMethod yLat) (i := 765) (by decide +kernel) rfl) (gw_at (w := Cond.initialized yLat.cls) (i := 105) (by decide +kernel) rfl) (gw_at (w := Cond.code yLat bLat 1 (some .boolean)) (i := 767) (by decide +kernel) rfl) (gw_at (w := Cond.selects yLat.cls yLat yLat) (i := 766) (by decide +kernel) rfl) (by decide +kernel) ⟨(by show 2 ≤ d + 1 + 20; omega), (by show 70 ≤ 64 * (d + 1) + 400; omega)⟩ rfl (Nat.zero_le _) hl.1 (show decode bChr 1 = .ok (.invokevirtual 492, 3) from by decide +kernel) (Nat.le_refl _) (Nat.le_refl _) (fun H1 locs1 hlo hR1 => ?_)
  have hlo1 : ∀ z ∈ locs1, base ≤ z.base := fun q hq => (hlo q hq).elim (fun h => nomatch h) id
  have hv1 := va_S_of hR hR1 (Nat.le_refl _) hlo1
  refine lv_if_eq hx hb (show decode bChr 4 = .ok (.ifCond .eq 12, 3) from by decide +kernel) (tgt := 16) (by decide) (fun h => absurd h (by decide)) (fun _ => ?_)
  refine lv_aload_n hx hb (show decode bChr 7 = .ok (.aload_n 0, 1) from by decide +kernel) rfl (lv_at hl 0 rfl) ?_
  refine vk_getf hx hb hV hv1 hown (hts _ (gw_at (w := Cond.fieldLink "java/lang/String" 9 "java/lang/String" "value" "[B") (i := 1988) (by decide +kernel) rfl)) (fun _ h => h) (show decode bChr 8 = .ok (.getfield 9, 3) from by decide +kernel) ?_
  refine lv_iload_n hx hb (show decode bChr 11 = .ok (.iload_n 1, 1) from by decide +kernel) rfl (lv_at hl 1 rfl) ?_
  refine g_callS (av := [.ref (adV j), .int i]) (rest := []) (r := 2) (n := 2) (j_lch hj hi hln hby hv9) hx hb hml hown hts hS hs0 hR1 (gw_at (w := Cond.methodLink "java/lang/String" 495 yLch) (i := 768) (by decide +kernel) rfl) (gw_at (w := Cond.static yLch) (i := 769) (by decide +kernel) rfl) (gw_at (w := Cond.initialized yLch.cls) (i := 106) (by decide +kernel) rfl) (gw_at (w := Cond.code yLch bLch 2 (some .char)) (i := 770) (by decide +kernel) rfl) (by decide +kernel) ⟨(by show 4 ≤ d + 1 + 20; omega), (by show 171 ≤ 64 * (d + 1) + 400; omega)⟩ rfl (Nat.zero_le _) hl.1 (show decode bChr 12 = .ok (.invokestatic 495, 3) from by decide +kernel) (Nat.le_refl _) (Nat.le_refl _) (fun H2 locs2 hlo2 hR2 => ?_)
  refine W.zret hx hb hret hv9 (fun t ht hw => ⟨rfl, ?_⟩) (fun q hq => (hlo2 q hq).elim (fun h => hlo1 q h) id) (show decode bChr 15 = .ok (.ireturn, 1) from by decide +kernel) hlk
  rw [ht]; exact hR2.moved hw.alike
end JD
