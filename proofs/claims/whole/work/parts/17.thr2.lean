section TI
variable {D : va_G} {base : Nat} {sp : Nat → Nat} {s0 : State} {L : Nat} {xs : Nat → Int32} {strs : List (String × Nat × String)} {len : List Nat} {byt : List (List Int32)} {adV : Nat → Nat} {ncs : List (String × String)} {l : Launch}
variable {p : Program} {e : Env} {R : Room} {s : State} {m : MethodId} {args : Array Value} {below : List Frame} {meth : Method} {c : Code} {H : Heap} {locs : List Loc} {cells slots : Nat} {Q : State → Prop}
variable {pc : Nat} {Ls : Array Slot} {M M' : pMem} {st st' : List Value} {as : List Value} {cc : ByteArray} {nL : Nat} {I : List pInf} {kf : List Nat} {own : String} {idx kind n p0 p1 t z d : Nat} {f : pInf} {h k : Nat}
set_option maxRecDepth 100000 in
/-- a call on an object, that throws -/
theorem pcallVX (I0 : I[z]? = some f) (K : okK I kf) (ok : okCall I kf own idx 10 n p0 p1 t z = true) (hx : p.tables.exec = Jvm.exec) (hb : c.code = cc) (hml : c.maxLocals = nL) (hown : s.vm.findClass own = some m.cls) (hts : ∀ w ∈ GW, w.before args s = true) (hS : pSide base sp strs len byt adV ncs s) (hs0 : ∀ q : Nat, q < base → s.heap[q]? = s0.heap[q]?) (hR : RelH D base sp s0 L xs s M H)
    (hrf : d + 21 ≤ R.frames) (hrl : 64 * (d + 1) + 400 ≤ R.locals) (hC : ConT D base sp s0 L xs strs len byt adV ncs l f d (.ref h :: as) M k M') (ht : (gS M h).1 = t) (hn : as.length = n) (hrest : pRm st' ≤ 8) (hsz : Ls.size = nL) (hd : decode cc pc = .ok (.invokevirtual idx, 3)) (hc : cells + (gN M' - gN M) ≤ R.cells) (hsl : slots + (gL M' - gL M) ≤ R.slots)
    (kk : ∀ (H1 : Heap) (locs1 : List Loc) (q : Addr) (ce : Cell), (∀ z ∈ locs1, z ∈ locs ∨ base ≤ z.base) → RelH D base sp s0 L xs s M' H1 → H1[q]? = some ce → ce.vm = .none → s.vm.findClass (exN k) = some ce.cls → vx_W p l e R s m args below meth c H1 locs1 (cells + (gN M' - gN M)) (slots + (gL M' - gL M)) Q (F0 m pc Ls (st'.map (pTr base sp))) q) :
    W p l e R s m args below meth c H locs cells slots Q (F0 m pc Ls ((as.reverse ++ .ref h :: st').map (pTr base sp))) := by
  unfold okCall at ok
  rw [I0] at ok
  simp only [Bool.and_eq_true, decide_eq_true_eq] at ok
  obtain ⟨⟨g1, g2, g3, g4⟩, ⟨q1, q2, q3⟩, q4⟩ := ok
  have hst : (as.reverse ++ Value.ref h :: st').map (pTr base sp) = (as.map (pTr base sp)).reverse ++ .ref (pAd base sp h) :: st'.map (pTr base sp) := by
    rw [List.map_append, List.map_reverse]; rfl
  rw [hst]
  have hlen : (as.map (pTr base sp)).length = n := by rw [List.length_map]; exact hn
  have S : CallFix p m c cc nL s args GW own := ⟨hx, hb, hml, hown, hts⟩
  have hrm := rm_ok (R := R) (d := d) (maxL := f.2.2.1) hrf hrl g4 (c0 := gN M' - gN M) (s0' := gL M' - gL M)
  obtain ⟨r1, r, hr, hrC⟩ := pclN q4
  obtain ⟨q5, q6⟩ := recvY hR r1 hr ht
  obtain ⟨⟨k1, k2, k3⟩, k4⟩ := (K z f I0).2.1 q2
  have hG : GoodIn GW (wsV own idx f.1.cls f.1 (wY f)) := good_app (fun w hw => by
    simp only [List.mem_cons, List.not_mem_nil, or_false] at hw
    rcases hw with rfl | rfl | rfl | rfl
    · exact gw_at q3 rfl
    · exact k3
    · exact k4
    · exact k2) k1
  refine pcallX (vx_runV S hC (cwV n hts hG (wY_nil q1) rfl rfl ⟨rfl, g1, g2, g3⟩ hrm) ⟨pcY.blind, by rw [q5, ← hrC]; exact q6, fun U hU hW => preY (as := .ref h :: as) hR hS hs0 U hU hW⟩ rfl hlen hsz rfl (lv_room (rest_ok hrest)) hd ⟨hc, hsl⟩) kk
set_option maxRecDepth 100000 in
/-- a static call that throws -/
theorem pcallSX (I0 : I[z]? = some f) (K : okK I kf) (ok : okCall I kf own idx 20 n p0 p1 t z = true) (hx : p.tables.exec = Jvm.exec) (hb : c.code = cc) (hml : c.maxLocals = nL) (hown : s.vm.findClass own = some m.cls) (hts : ∀ w ∈ GW, w.before args s = true) (hS : pSide base sp strs len byt adV ncs s) (hs0 : ∀ q : Nat, q < base → s.heap[q]? = s0.heap[q]?) (hR : RelH D base sp s0 L xs s M H)
    (hrf : d + 21 ≤ R.frames) (hrl : 64 * (d + 1) + 400 ≤ R.locals) (hC : ConT D base sp s0 L xs strs len byt adV ncs l f d as M k M') (hn : as.length = n) (hrest : pRm st' ≤ 8) (hsz : Ls.size = nL) (hd : decode cc pc = .ok (.invokestatic idx, 3)) (hc : cells + (gN M' - gN M) ≤ R.cells) (hsl : slots + (gL M' - gL M) ≤ R.slots)
    (kk : ∀ (H1 : Heap) (locs1 : List Loc) (q : Addr) (ce : Cell), (∀ z ∈ locs1, z ∈ locs ∨ base ≤ z.base) → RelH D base sp s0 L xs s M' H1 → H1[q]? = some ce → ce.vm = .none → s.vm.findClass (exN k) = some ce.cls → vx_W p l e R s m args below meth c H1 locs1 (cells + (gN M' - gN M)) (slots + (gL M' - gL M)) Q (F0 m pc Ls (st'.map (pTr base sp))) q) :
    W p l e R s m args below meth c H locs cells slots Q (F0 m pc Ls ((as.reverse ++ st').map (pTr base sp))) := by
  unfold okCall at ok
  rw [I0] at ok
  simp only [Bool.and_eq_true, decide_eq_true_eq] at ok
  obtain ⟨⟨g1, g2, g3, g4⟩, q1, q2, q3⟩ := ok
  have hst : (as.reverse ++ st').map (pTr base sp) = (as.map (pTr base sp)).reverse ++ st'.map (pTr base sp) := by
    rw [List.map_append, List.map_reverse]
  rw [hst]
  have hlen : (as.map (pTr base sp)).length = n := by rw [List.length_map]; exact hn
  have S : CallFix p m c cc nL s args GW own := ⟨hx, hb, hml, hown, hts⟩
  have hrm := rm_ok (R := R) (d := d) (maxL := f.2.2.1) hrf hrl g4 (c0 := gN M' - gN M) (s0' := gL M' - gL M)
  obtain ⟨k1, k2, k3⟩ := (K z f I0).1 q2
  have hG : GoodIn GW (va_wsS own idx f.1 (wY f)) := good_app (fun w hw => by
    simp only [List.mem_cons, List.not_mem_nil, or_false] at hw
    rcases hw with rfl | rfl | rfl
    · exact gw_at q3 rfl
    · exact k3
    · exact k2) k1
  exact pcallX (vx_runS S hC (va_cwS n hts hG (wY_nil q1) rfl rfl ⟨g1, g2, g3⟩ hrm) ⟨pcY.blind, fun U hU hW => preY hR hS hs0 U hU hW⟩ rfl hlen hsz rfl (lv_room (rest_ok hrest)) hd ⟨hc, hsl⟩) kk
set_option maxRecDepth 100000 in
/-- length and charAt of a text's constant -/
theorem pcallStr (I0 : I[z]? = some f) (K : okK I kf) (ok : okCall I kf own idx 19 n p0 p1 104 z = true) {j : Nat} (hj : h = 900001 + j) (hjl : j < len.length) (hx : p.tables.exec = Jvm.exec) (hb : c.code = cc) (hml : c.maxLocals = nL) (hown : s.vm.findClass own = some m.cls) (hts : ∀ w ∈ GW, w.before args s = true) (hS : pSide base sp strs len byt adV ncs s) (hs0 : ∀ q : Nat, q < base → s.heap[q]? = s0.heap[q]?) (hsz0 : base ≤ s.heap.size) (hR : RelH D base sp s0 L xs s M H)
    (hrf : d + 21 ≤ R.frames) (hrl : 64 * (d + 1) + 400 ≤ R.locals) {x : Option Value} (hC : ConR D base sp s0 L xs strs len byt adV ncs l f d (.ref h :: as) M x M') (hn : as.length = n) (hrest : pRm st' ≤ 8) (hsz : Ls.size = nL) (hd : decode cc pc = .ok (.invokevirtual idx, 3)) (hc : cells + (gN M' - gN M) ≤ R.cells) (hsl : slots + (gL M' - gL M) ≤ R.slots)
    (kk : ∀ (H1 : Heap) (locs1 : List Loc), (∀ z ∈ locs1, z ∈ locs ∨ base ≤ z.base) → RelH D base sp s0 L xs s M' H1 → W p l e R s m args below meth c H1 locs1 (cells + (gN M' - gN M)) (slots + (gL M' - gL M)) Q (F0 m (pc + 3) Ls ((x.map (pTr base sp)).toList ++ st'.map (pTr base sp)))) :
    W p l e R s m args below meth c H locs cells slots Q (F0 m pc Ls ((as.reverse ++ .ref h :: st').map (pTr base sp))) := by
  unfold okCall at ok
  rw [I0] at ok
  simp only [Bool.and_eq_true, decide_eq_true_eq] at ok
  obtain ⟨⟨g1, g2, g3, g4⟩, q1, q2, q3, q4, -⟩ := ok
  have hst : (as.reverse ++ Value.ref h :: st').map (pTr base sp) = (as.map (pTr base sp)).reverse ++ .ref (pAd base sp h) :: st'.map (pTr base sp) := by
    rw [List.map_append, List.map_reverse]; rfl
  rw [hst]
  have hlen : (as.map (pTr base sp)).length = n := by rw [List.length_map]; exact hn
  have S : CallFix p m c cc nL s args GW own := ⟨hx, hb, hml, hown, hts⟩
  have hrm := rm_ok (R := R) (d := d) (maxL := f.2.2.1) hrf hrl g4 (c0 := gN M' - gN M) (s0' := gL M' - gL M)
  have had : pAd base sp h = sp (1 + j) := by
    unfold pAd
    rw [if_neg (by omega)]
    have e9 : h - 900000 = 1 + j := by omega
    rw [e9]
  obtain ⟨cell, c1, c2, c3, c4⟩ := (hS.2.2.2.2.2.1.1 j hjl).1
  have q6 : ∃ cell : Cell, H[sp (1 + j)]? = some cell ∧ cell.vm.isStatics = false ∧ s.vm.findClass f.1.cls = some cell.cls := ⟨cell, by rw [hR.2.1 _ (Nat.not_le.mp c4), ← hs0 _ (Nat.not_le.mp c4)]; exact c1, c2, by rw [q4]; exact c3⟩
  obtain ⟨⟨k1, k2, k3⟩, k4⟩ := (K z f I0).2.1 q2
  have hG : GoodIn GW (wsV own idx f.1.cls f.1 (wY f)) := good_app (fun w hw => by
    simp only [List.mem_cons, List.not_mem_nil, or_false] at hw
    rcases hw with rfl | rfl | rfl | rfl
    · exact gw_at q3 rfl
    · exact k3
    · exact k4
    · exact k2) k1
  exact pcall (va_runV S hC (cwV n hts hG (wY_nil q1) rfl rfl ⟨rfl, g1, g2, g3⟩ hrm) ⟨pcY.blind, by rw [had]; exact q6, fun U hU hW => preY (as := .ref h :: as) hR hS hs0 U hU hW⟩ rfl hlen hsz rfl (lv_room (rest_ok hrest)) hd ⟨hc, hsl⟩) kk
end TI
