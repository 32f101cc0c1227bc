/-! CALLS -/
def okS (f : pInf) : Prop := (∀ w ∈ wY f, w ∈ GW) ∧ Cond.initialized f.1.cls ∈ GW ∧ Cond.static f.1 ∈ GW
def okI (f : pInf) : Prop := (∀ w ∈ wY f, w ∈ GW) ∧ Cond.initialized f.1.cls ∈ GW ∧ Cond.instanceMethod f.1 ∈ GW
def okV (f : pInf) : Prop := okI f ∧ Cond.selects f.1.cls f.1 f.1 ∈ GW
/-- the callees: 0 static, 1 by its own class, 2 instance methods else -/
def okK (I : List pInf) (kf : List Nat) : Prop := ∀ (z : Nat) (f : pInf), I[z]? = some f → (kf[z]? = some 0 → okS f) ∧ (kf[z]? = some 1 → okV f) ∧ (kf[z]? = some 2 → okI f)
def pClN (t : Nat) (C : String) : Bool := decide ((vwCl[t - 1]?).map (fun r => r.1) = some C ∧ 1 ≤ t)
def okC17 (kf : List Nat) (own : String) (idx p0 p1 t z : Nat) (f : pInf) : Bool := (match lw_tb2[p0]? with | some (.methodLink o j x) => decide (o = own ∧ j = idx ∧ f.2.2.2.2 = [] ∧ (kf[z]? = some 1 ∨ kf[z]? = some 2) ∧ f.1 = ⟨f.1.cls, x.name, x.desc⟩ ∧ lw_tb2[p1]? = some (.sameMethod x.cls f.1.cls x.name x.desc) ∧ (vwCl[t - 1]?).any (fun r => lw_tb2.contains (.selects r.1 x f.1)) = true ∧ 1 ≤ t) | _ => false)
def okC18 (kf : List Nat) (own : String) (idx p0 p1 t z : Nat) (f : pInf) : Bool := (match lw_tb2[p0]? with | some (.methodLink o j x) => decide (o = own ∧ j = idx ∧ f.2.2.2.2 = [] ∧ (kf[z]? = some 1 ∨ kf[z]? = some 2) ∧ f.1.name = x.name ∧ f.1.desc = x.desc ∧ x.cls ≠ "java/lang/invoke/MethodHandle" ∧ x.cls ≠ "java/lang/invoke/VarHandle" ∧ lw_tb2[p1]? = some (.sameMethod x.cls x.cls x.name x.desc) ∧ lw_tb2.contains (.declares x) = true ∧ (vwCl[t - 1]?).any (fun r => lw_tb2.contains (.selects r.1 x f.1)) = true ∧ 1 ≤ t) | _ => false)
def okCall (I : List pInf) (kf : List Nat) (own : String) (idx kind n p0 p1 t z : Nat) : Bool := match I[z]? with
  | none => false
  | some f => decide (f.1.cls ≠ "java/lang/invoke/MethodHandle" ∧ f.1.cls ≠ "java/lang/invoke/VarHandle" ∧ (parseMethodDescriptor f.1.desc).map (fun d => d.parameters.length) = some n ∧ f.2.2.1 ≤ 45) &&
    (match kind with
    | 10 => decide (f.2.2.2.2 = [] ∧ kf[z]? = some 1 ∧ lw_tb2[p0]? = some (.methodLink own idx f.1)) && pClN t f.1.cls
    | 11 => decide (f.2.2.2.2 = [] ∧ kf[z]? = some 1) && (match lw_tb2[p0]? with | some (.methodLinkNest o j y _) => decide (o = own ∧ j = idx ∧ y = f.1) | _ => false) && pClN t f.1.cls
    | 14 => decide (f.2.2.2.2 = [] ∧ kf[z]? = some 2 ∧ f.1.name = "<init>" ∧ f.2.2.2.1 = none ∧ lw_tb2[p0]? = some (.methodLink own idx f.1))
    | 15 => decide (f.2.2.2.2 = [] ∧ kf[z]? = some 2 ∧ f.1.name = "<init>" ∧ f.2.2.2.1 = none) && (match lw_tb2[p0]? with | some (.methodLinkNest o j y _) => decide (o = own ∧ j = idx ∧ y = f.1) | _ => false)
    | 17 => okC17 kf own idx p0 p1 t z f
    | 18 => okC18 kf own idx p0 p1 t z f
    | 19 => decide (f.2.2.2.2 = [] ∧ kf[z]? = some 1 ∧ lw_tb2[p0]? = some (.methodLink own idx f.1) ∧ f.1.cls = "java/lang/String" ∧ t = 104)
    | 20 => decide (f.2.2.2.2 = [] ∧ kf[z]? = some 0 ∧ lw_tb2[p0]? = some (.methodLink own idx f.1))
    | 21 => decide (f.2.2.2.2 = [] ∧ kf[z]? = some 0) && (match lw_tb2[p0]? with | some (.methodLinkNest o j y _) => decide (o = own ∧ j = idx ∧ y = f.1) | _ => false)
    | 22 => decide (f.2.2.2.2 ≠ [] ∧ kf[z]? = some 0 ∧ lw_tb2[p0]? = some (.methodLink own idx f.1))
    | _ => false)
theorem gw_has {w : Cond} (h : lw_tb2.contains w = true) (hg : goodWord w = true) : w ∈ GW := gw_mem ⟨by simpa using h, hg⟩
theorem sw_has {w : Cond} (h : lw_tb2.contains w = true) (hg : pSd w = true) : w ∈ SW := List.mem_filter.mpr ⟨by simpa using h, hg⟩
theorem wY_nil {f : pInf} (h : f.2.2.2.2 = []) : wY f = Cond.code f.1 f.2.1 f.2.2.1 f.2.2.2.1 :: GW := by
  unfold wY
  rw [h]
theorem wY_cons {f : pInf} (h : f.2.2.2.2 ≠ []) : wY f = Cond.codeWith f.1 f.2.1 f.2.2.1 f.2.2.2.1 f.2.2.2.2 :: GW := by
  unfold wY
  split
  · rename_i h2; exact absurd h2 h
  · rfl
theorem good_app {a b : List Cond} (ha : ∀ w ∈ a, w ∈ GW) (hb : ∀ w ∈ b, w ∈ GW) : GoodIn GW (a ++ b) := gw_good fun w h => (List.mem_append.mp h).elim (ha w) (hb w)
section CQ
variable {D : va_G} {base : Nat} {sp : Nat → Nat} {s0 : State} {L : Nat} {xs : Nat → Int32} {strs : List (String × Nat × String)} {len : List Nat} {byt : List (List Int32)} {adV : Nat → Nat} {ncs : List (String × String)} {l : Launch}
variable {p : Program} {e : Env} {R : Room} {s : State} {m : MethodId} {args : Array Value} {below : List Frame} {meth : Method} {c : Code} {H : Heap} {locs : List Loc} {cells slots : Nat} {Q : State → Prop}
variable {pc : Nat} {Ls : Array Slot} {M M' : pMem} {st st' : List Value} {as : List Value} {cc : ByteArray} {nL : Nat} {I : List pInf} {kf : List Nat} {own : String} {idx kind n p0 p1 t z d : Nat} {f : pInf} {h : Nat} {x : Option Value}
set_option maxRecDepth 100000 in
theorem rm_ok {maxL : Nat} (hd1 : d + 21 ≤ R.frames) (hd2 : 64 * (d + 1) + 400 ≤ R.locals) (hl : maxL ≤ 45) {c0 s0' : Nat} : (rmD d c0 s0').frames + 1 ≤ R.frames ∧ 8 + (maxL + 11) + (rmD d c0 s0').locals ≤ R.locals := ⟨by simp only [rmD]; omega, by simp only [rmD]; omega⟩
theorem rest_ok {r : List Value} (h : pRm r ≤ 8) : ((r.map (pTr base sp)).map fun v => v.category).sum ≤ 8 := by
  rw [List.map_map]
  have : ((fun v => Value.category v) ∘ pTr base sp) = fun v => v.category := by funext v; exact pTr_cat' v
  rw [this]
  exact h
theorem pclN {C : String} (h : pClN t C = true) : 1 ≤ t ∧ ∃ r, vwCl[t - 1]? = some r ∧ r.1 = C := by
  obtain ⟨h1, h2⟩ := of_decide_eq_true h
  refine ⟨h2, ?_⟩
  cases hr : vwCl[t - 1]? with
  | none => rw [hr] at h1; cases h1
  | some r => rw [hr] at h1; exact ⟨r, rfl, by simpa using h1⟩
/-- the receiver's cell -/
theorem recvY {r : vw_C} (hR : RelH D base sp s0 L xs s M H) (ht : 1 ≤ t) (hr : vwCl[t - 1]? = some r) (hs : (gS M h).1 = t) : pAd base sp h = base + h ∧ ∃ cell : Cell, H[base + h]? = some cell ∧ cell.vm.isStatics = false ∧ s.vm.findClass r.1 = some cell.cls := by
  have h12 := RelH.kcl hr
  obtain ⟨hk, r1, hr1, cell, g1, g2, g3, -⟩ := hR.obj (k := h) (t := t) (n := (gS M h).2) (by rw [← hs]) ht (by omega)
  exact ⟨hR.ad hk, cell, g1, by rw [g3]; rfl, by rw [g2]; exact (hR.2.2.2.1.1 (t - 1) r hr).2.1⟩
-- a call on an object of ours, or on itself: all kinds of link
set_option maxRecDepth 100000 in
theorem pcallV (I0 : I[z]? = some f) (K : okK I kf) (ok : okCall I kf own idx kind n p0 p1 t z = true) (hk : kind = 10 ∨ kind = 11 ∨ kind = 17 ∨ kind = 18) (hx : p.tables.exec = Jvm.exec) (hb : c.code = cc) (hml : c.maxLocals = nL) (hown : s.vm.findClass own = some m.cls) (hts : ∀ w ∈ GW, w.before args s = true) (hS : pSide base sp strs len byt adV ncs s) (hs0 : ∀ q : Nat, q < base → s.heap[q]? = s0.heap[q]?) (hR : RelH D base sp s0 L xs s M H)
    (hrf : d + 21 ≤ R.frames) (hrl : 64 * (d + 1) + 400 ≤ R.locals) (hC : ConR D base sp s0 L xs strs len byt adV ncs l f d (.ref h :: as) M x M') (ht : (gS M h).1 = t) (hn : as.length = n) (hrest : pRm st' ≤ 8) (hsz : Ls.size = nL) (hd : decode cc pc = .ok (.invokevirtual idx, 3)) (hc : cells + (gN M' - gN M) ≤ R.cells) (hsl : slots + (gL M' - gL M) ≤ R.slots)
    (kk : ∀ (H1 : Heap) (locs1 : List Loc), (∀ z ∈ locs1, z ∈ locs ∨ base ≤ z.base) → RelH D base sp s0 L xs s M' H1 → W p l e R s m args below meth c H1 locs1 (cells + (gN M' - gN M)) (slots + (gL M' - gL M)) Q (F0 m (pc + 3) Ls ((x.map (pTr base sp)).toList ++ st'.map (pTr base sp)))) :
    W p l e R s m args below meth c H locs cells slots Q (F0 m pc Ls ((as.reverse ++ .ref h :: st').map (pTr base sp))) := by
  unfold okCall at ok
  rw [I0] at ok
  simp only [Bool.and_eq_true, decide_eq_true_eq] at ok
  obtain ⟨⟨g1, g2, g3, g4⟩, ok⟩ := ok
  have hst : (as.reverse ++ Value.ref h :: st').map (pTr base sp) = (as.map (pTr base sp)).reverse ++ .ref (pAd base sp h) :: st'.map (pTr base sp) := by
    rw [List.map_append, List.map_reverse]; rfl
  rw [hst]
  have hlen : (as.map (pTr base sp)).length = n := by rw [List.length_map]; exact hn
  have S : CallFix p m c cc nL s args GW own := ⟨hx, hb, hml, hown, hts⟩
  have hrm := rm_ok (R := R) (d := d) (maxL := f.2.2.1) hrf hrl g4 (c0 := gN M' - gN M) (s0' := gL M' - gL M)
  have fin : ∀ (C : String), (∃ r, vwCl[t - 1]? = some r ∧ r.1 = C) → 1 ≤ t → (PreV s H C (pAd base sp h) (pcY D base sp s0 L xs strs len byt adV ncs (.ref h :: as) M) (as.map (pTr base sp))) := by
    rintro C ⟨r, hr, rfl⟩ h1
    obtain ⟨q1, q2⟩ := recvY hR h1 hr ht
    refine ⟨pcY.blind, by rw [q1]; exact q2, fun U hU hW => ?_⟩
    exact preY (as := .ref h :: as) hR hS hs0 U hU hW
  rcases hk with rfl | rfl | rfl | rfl
  · simp only [Bool.and_eq_true, decide_eq_true_eq] at ok
    obtain ⟨⟨q1, q2, q3⟩, q4⟩ := ok
    obtain ⟨r1, r2⟩ := pclN q4
    obtain ⟨⟨k1, k2, k3⟩, k4⟩ := (K z f I0).2.1 q2
    have hG : GoodIn GW (wsV own idx f.1.cls f.1 (wY f)) := good_app (fun w hw => by
      simp only [List.mem_cons, List.not_mem_nil, or_false] at hw
      rcases hw with rfl | rfl | rfl | rfl
      · exact gw_at q3 rfl
      · exact k3
      · exact k4
      · exact k2) k1
    exact pcall (va_runV S hC (cwV n hts hG (wY_nil q1) rfl rfl ⟨rfl, g1, g2, g3⟩ hrm) (fin _ r2 r1) rfl hlen hsz rfl (lv_room (rest_ok hrest)) hd ⟨hc, hsl⟩) kk
  · simp only [Bool.and_eq_true, decide_eq_true_eq] at ok
    obtain ⟨⟨⟨q1, q2⟩, q3⟩, q4⟩ := ok
    obtain ⟨r1, r2⟩ := pclN q4
    obtain ⟨⟨k1, k2, k3⟩, k4⟩ := (K z f I0).2.1 q2
    split at q3
    · rename_i o j y hs9 hw
      obtain ⟨rfl, rfl, rfl⟩ := of_decide_eq_true q3
      exact pcall (va_runVN S hC ⟨va_cnB n hts (gw_good k1) (wY_nil q1) rfl rfl (hS.1 _ (sw_at hw rfl)) (hts _ k2) ⟨g1, g2, g3⟩ hrm, hts _ k3, hts _ k4⟩ (fin _ r2 r1) rfl hlen hsz rfl (lv_room (rest_ok hrest)) hd ⟨hc, hsl⟩) kk
    · cases q3
  · have ok : okC17 kf own idx p0 p1 t z f = true := ok
    unfold okC17 at ok
    split at ok
    · rename_i o j x9 hw
      obtain ⟨rfl, rfl, q1, q2, q3, q4, q5, q6⟩ := of_decide_eq_true ok
      obtain ⟨k1, k2, k3⟩ : okI f := by
        rcases q2 with q2 | q2
        · exact ((K z f I0).2.1 q2).1
        · exact (K z f I0).2.2 q2
      cases hr : vwCl[t - 1]? with
      | none => rw [hr] at q5; cases q5
      | some r =>
        rw [hr] at q5
        have hsel : Cond.selects r.1 x9 f.1 ∈ GW := gw_has (by simpa using q5) rfl
        have hlen9 : (parseMethodDescriptor x9.desc).map (fun d => d.parameters.length) = some n := by
          have : x9.desc = f.1.desc := by rw [q3]
          rw [this]; exact g3
        have hG : GoodIn GW (va_wsU o j r.1 f.1.cls x9 f.1 (wY f)) := good_app (fun w hw2 => by
          simp only [List.mem_cons, List.not_mem_nil, or_false] at hw2
          rcases hw2 with rfl | rfl | rfl | rfl | rfl
          · exact gw_at hw rfl
          · exact gw_at q4 rfl
          · exact hsel
          · exact k3
          · exact k2) k1
        exact pcall (va_runU S hC (va_cwU n hts hG (wY_nil q1) rfl rfl q3 ⟨g1, g2, hlen9⟩ hrm) (fin r.1 ⟨r, hr, rfl⟩ q6) rfl hlen hsz rfl (lv_room (rest_ok hrest)) hd ⟨hc, hsl⟩) kk
    · cases ok
  · have ok : okC18 kf own idx p0 p1 t z f = true := ok
    unfold okC18 at ok
    split at ok
    · rename_i o j x9 hw
      obtain ⟨rfl, rfl, q1, q2, q3, q4, q7, q8, q9, q10, q5, q6⟩ := of_decide_eq_true ok
      obtain ⟨k1, k2, k3⟩ : okI f := by
        rcases q2 with q2 | q2
        · exact ((K z f I0).2.1 q2).1
        · exact (K z f I0).2.2 q2
      cases hr : vwCl[t - 1]? with
      | none => rw [hr] at q5; cases q5
      | some r =>
        rw [hr] at q5
        have hsel : Cond.selects r.1 x9 f.1 ∈ GW := gw_has (by simpa using q5) rfl
        have hlen9 : (parseMethodDescriptor x9.desc).map (fun d => d.parameters.length) = some n := by
          rw [← q4]; exact g3
        have hG : GoodIn GW (va_wsU o j r.1 x9.cls x9 f.1 (wY f)) := good_app (fun w hw2 => by
          simp only [List.mem_cons, List.not_mem_nil, or_false] at hw2
          rcases hw2 with rfl | rfl | rfl | rfl | rfl
          · exact gw_at hw rfl
          · exact gw_at q9 rfl
          · exact hsel
          · exact k3
          · exact k2) k1
        exact pcall (va_runU S hC (va_cwA n hts hG (wY_nil q1) rfl rfl (hS.1 _ (sw_has q10 rfl)) ⟨q7, q8, hlen9⟩ hrm) (fin r.1 ⟨r, hr, rfl⟩ q6) rfl hlen hsz rfl (lv_room (rest_ok hrest)) hd ⟨hc, hsl⟩) kk
    · cases ok
-- a constructor call
set_option maxRecDepth 100000 in
theorem pcallI (I0 : I[z]? = some f) (K : okK I kf) (ok : okCall I kf own idx kind n p0 p1 t z = true) (hk : kind = 14 ∨ kind = 15) (hx : p.tables.exec = Jvm.exec) (hb : c.code = cc) (hml : c.maxLocals = nL) (hown : s.vm.findClass own = some m.cls) (hts : ∀ w ∈ GW, w.before args s = true) (hS : pSide base sp strs len byt adV ncs s) (hs0 : ∀ q : Nat, q < base → s.heap[q]? = s0.heap[q]?) (hR : RelH D base sp s0 L xs s M H)
    (hrf : d + 21 ≤ R.frames) (hrl : 64 * (d + 1) + 400 ≤ R.locals) (hC : ConR D base sp s0 L xs strs len byt adV ncs l f d (.ref h :: as) M x M') (hn : as.length = n) (hrest : pRm st' ≤ 8) (hsz : Ls.size = nL) (hd : decode cc pc = .ok (.invokespecial idx, 3)) (hc : cells + (gN M' - gN M) ≤ R.cells) (hsl : slots + (gL M' - gL M) ≤ R.slots)
    (kk : ∀ (H1 : Heap) (locs1 : List Loc), (∀ z ∈ locs1, z ∈ locs ∨ base ≤ z.base) → RelH D base sp s0 L xs s M' H1 → W p l e R s m args below meth c H1 locs1 (cells + (gN M' - gN M)) (slots + (gL M' - gL M)) Q (F0 m (pc + 3) Ls ((x.map (pTr base sp)).toList ++ st'.map (pTr base sp)))) :
    W p l e R s m args below meth c H locs cells slots Q (F0 m pc Ls ((as.reverse ++ .ref h :: st').map (pTr base sp))) := by
  unfold okCall at ok
  rw [I0] at ok
  simp only [Bool.and_eq_true, decide_eq_true_eq] at ok
  obtain ⟨⟨g1, g2, g3, g4⟩, ok⟩ := ok
  have hst : (as.reverse ++ Value.ref h :: st').map (pTr base sp) = (as.map (pTr base sp)).reverse ++ .ref (pAd base sp h) :: st'.map (pTr base sp) := by
    rw [List.map_append, List.map_reverse]; rfl
  rw [hst]
  have hlen : (as.map (pTr base sp)).length = n := by rw [List.length_map]; exact hn
  have S : CallFix p m c cc nL s args GW own := ⟨hx, hb, hml, hown, hts⟩
  have hrm := rm_ok (R := R) (d := d) (maxL := f.2.2.1) hrf hrl g4 (c0 := gN M' - gN M) (s0' := gL M' - gL M)
  have fin : PreS s H (pcY D base sp s0 L xs strs len byt adV ncs (.ref h :: as) M) (.ref (pAd base sp h) :: as.map (pTr base sp)) :=
    ⟨pcY.blind, fun U hU hW => preY (as := .ref h :: as) hR hS hs0 U hU hW⟩
  rcases hk with rfl | rfl
  · simp only [decide_eq_true_eq] at ok
    obtain ⟨q1, q2, q3, q5, q4⟩ := ok
    obtain ⟨k1, k2, k3⟩ := (K z f I0).2.2 q2
    exact pcall (va_runI S hC (cwI n hts (gw_good k1) (by rw [wY_nil q1, q5]) rfl rfl (hts _ k2) (hts _ (gw_at q4 rfl)) (hts _ k3) q3 ⟨g1, g2, g3⟩ hrm) fin rfl hlen hsz rfl (lv_room (rest_ok hrest)) hd ⟨hc, hsl⟩) kk
  · simp only [Bool.and_eq_true, decide_eq_true_eq] at ok
    obtain ⟨⟨q1, q2, q3, q5⟩, q4⟩ := ok
    obtain ⟨k1, k2, k3⟩ := (K z f I0).2.2 q2
    split at q4
    · rename_i o j y hs9 hw
      obtain ⟨rfl, rfl, rfl⟩ := of_decide_eq_true q4
      exact pcall (va_runIN S hC ⟨va_cnB n hts (gw_good k1) (by rw [wY_nil q1, q5]) rfl rfl (hS.1 _ (sw_at hw rfl)) (hts _ k2) ⟨g1, g2, g3⟩ hrm, q3, hts _ k3⟩ fin rfl hlen hsz rfl (lv_room (rest_ok hrest)) hd ⟨hc, hsl⟩) kk
    · cases q4
-- a static call
set_option maxRecDepth 100000 in
theorem pcallS (I0 : I[z]? = some f) (K : okK I kf) (ok : okCall I kf own idx kind n p0 p1 t z = true) (hk : kind = 20 ∨ kind = 21 ∨ kind = 22) (hx : p.tables.exec = Jvm.exec) (hb : c.code = cc) (hml : c.maxLocals = nL) (hown : s.vm.findClass own = some m.cls) (hts : ∀ w ∈ GW, w.before args s = true) (hS : pSide base sp strs len byt adV ncs s) (hs0 : ∀ q : Nat, q < base → s.heap[q]? = s0.heap[q]?) (hR : RelH D base sp s0 L xs s M H)
    (hrf : d + 21 ≤ R.frames) (hrl : 64 * (d + 1) + 400 ≤ R.locals) (hC : ConR D base sp s0 L xs strs len byt adV ncs l f d as M x M') (hn : as.length = n) (hrest : pRm st' ≤ 8) (hsz : Ls.size = nL) (hd : decode cc pc = .ok (.invokestatic idx, 3)) (hc : cells + (gN M' - gN M) ≤ R.cells) (hsl : slots + (gL M' - gL M) ≤ R.slots)
    (kk : ∀ (H1 : Heap) (locs1 : List Loc), (∀ z ∈ locs1, z ∈ locs ∨ base ≤ z.base) → RelH D base sp s0 L xs s M' H1 → W p l e R s m args below meth c H1 locs1 (cells + (gN M' - gN M)) (slots + (gL M' - gL M)) Q (F0 m (pc + 3) Ls ((x.map (pTr base sp)).toList ++ st'.map (pTr base sp)))) :
    W p l e R s m args below meth c H locs cells slots Q (F0 m pc Ls ((as.reverse ++ st').map (pTr base sp))) := by
  unfold okCall at ok
  rw [I0] at ok
  simp only [Bool.and_eq_true, decide_eq_true_eq] at ok
  obtain ⟨⟨g1, g2, g3, g4⟩, ok⟩ := ok
  have hst : (as.reverse ++ st').map (pTr base sp) = (as.map (pTr base sp)).reverse ++ st'.map (pTr base sp) := by
    rw [List.map_append, List.map_reverse]
  rw [hst]
  have hlen : (as.map (pTr base sp)).length = n := by rw [List.length_map]; exact hn
  have S : CallFix p m c cc nL s args GW own := ⟨hx, hb, hml, hown, hts⟩
  have hrm := rm_ok (R := R) (d := d) (maxL := f.2.2.1) hrf hrl g4 (c0 := gN M' - gN M) (s0' := gL M' - gL M)
  have fin : PreS s H (pcY D base sp s0 L xs strs len byt adV ncs as M) (as.map (pTr base sp)) :=
    ⟨pcY.blind, fun U hU hW => preY hR hS hs0 U hU hW⟩
  have mem : ∀ {q3 : lw_tb2[p0]? = some (.methodLink own idx f.1)} (k2 : Cond.initialized f.1.cls ∈ GW) (k3 : Cond.static f.1 ∈ GW), ∀ w ∈ ([.methodLink own idx f.1, .static f.1, .initialized f.1.cls] : List Cond), w ∈ GW := fun {q3} k2 k3 w hw => by
    simp only [List.mem_cons, List.not_mem_nil, or_false] at hw
    rcases hw with rfl | rfl | rfl
    · exact gw_at q3 rfl
    · exact k3
    · exact k2
  rcases hk with rfl | rfl | rfl
  · simp only [decide_eq_true_eq] at ok
    obtain ⟨q1, q2, q3⟩ := ok
    obtain ⟨k1, k2, k3⟩ := (K z f I0).1 q2
    have hG : GoodIn GW (va_wsS own idx f.1 (wY f)) := good_app (mem (q3 := q3) k2 k3) k1
    exact pcall (va_runS S hC (va_cwS n hts hG (wY_nil q1) rfl rfl ⟨g1, g2, g3⟩ hrm) fin rfl hlen hsz rfl (lv_room (rest_ok hrest)) hd ⟨hc, hsl⟩) kk
  · simp only [Bool.and_eq_true, decide_eq_true_eq] at ok
    obtain ⟨⟨q1, q2⟩, q4⟩ := ok
    obtain ⟨k1, k2, k3⟩ := (K z f I0).1 q2
    split at q4
    · rename_i o j y hs9 hw
      obtain ⟨rfl, rfl, rfl⟩ := of_decide_eq_true q4
      exact pcall (va_runSN S hC ⟨va_cnB n hts (gw_good k1) (wY_nil q1) rfl rfl (hS.1 _ (sw_at hw rfl)) (hts _ k2) ⟨g1, g2, g3⟩ hrm, hts _ k3, trivial⟩ fin rfl hlen hsz rfl (lv_room (rest_ok hrest)) hd ⟨hc, hsl⟩) kk
    · cases q4
  · simp only [decide_eq_true_eq] at ok
    obtain ⟨q1, q2, q3⟩ := ok
    obtain ⟨k1, k2, k3⟩ := (K z f I0).1 q2
    have hG : GoodIn GW (va_wsS own idx f.1 (wY f)) := good_app (mem (q3 := q3) k2 k3) k1
    exact pcall (vx_runSW S hC (vx_cwSW n hts hG (wY_cons q1) rfl rfl ⟨g1, g2, g3⟩ hrm) fin rfl hlen hsz rfl (lv_room (rest_ok hrest)) hd ⟨hc, hsl⟩) kk
end CQ
