/-! THE LAW OVER THE MACHINE, from the pure law -/
def R_law : String := "FavourTownLaw"
def lw_Q (_ : Array Value) (s : State) (o : Outcome) (t : State) : Prop := o = .returned (some (.int 1)) ∧ Framed s o t [] 601024 7293034
def lw_Z (below : List Frame) (a : Array Value) (s : State) : State → Prop := fun t => ∃ o, t.status = .running ∧ Ended t below o ∧ lw_Q a s o t
/-- the law's own end -/
theorem lw_ret {p : Program} {l : Launch} {e : Env} {s : State} {m : MethodId} {below : List Frame} {meth : Method} {c : Code} {b : Nat} (hx : p.tables.exec = Jvm.exec) (hb : c.code = code) (hr : meth.sig.returnType = ret) (hlocks : meth.locks = false) {pc : Nat} {H : Heap} {ls : Array Slot} (hdg : decode code pc = .ok (.ireturn, 1)) : W p l e room_1 s m #[Value.ref b] below meth c H [] 601024 7293034 (lw_Z below #[Value.ref b] s) (F0 m pc ls [.int 1]) := by
  intro T hT X
  obtain ⟨fs, hret, hrun, hended, hW, hframe⟩ := X.leave (v := some (.int 1)) (hlocks := hlocks) (fun h => by rw [hr] at h; cases h)
  have hmeth' : T.vm.method? m = some meth := X.method'
  refine ⟨T.setFrames fs, ?_, .returned (some (.int 1)), hrun, hended, rfl, ⟨_, rfl⟩, hW, hframe⟩
  jvm_step X.here [X.here.top, hx, hb, hdg, hmeth', hr, ret, narrow_b1]
  (try refine ⟨rfl, ?_⟩); (try refine ⟨rfl, ?_⟩)
  first | (intro acts; rw [hret _ acts rfl rfl rfl]) | rw [hret _ _ rfl rfl rfl]
  exact Steps.refl _
def lw_At (p : Program) (s : State) (m : MethodId) (meth : Method) (c : Code) (b L : Nat) (xs : Nat → Int32) : Prop :=
  p.tables.exec = Jvm.exec ∧ c.code = code ∧ meth.sig.returnType = ret ∧ c.maxLocals = 7 ∧ s.vm.findClass R_law = some m.cls ∧ (∀ w ∈ lw_tbl, w.before #[Value.ref b] s = true) ∧ va_X b L xs s s.heap ∧ b < s.heap.size ∧ meth.locks = false ∧ (Jvm.Cond.and given_1 narrow_1).before #[Value.ref b] s = true ∧ meth.name = "law"
theorem one_n : (nN 1) = (1 : Int32) := by decide +kernel
theorem relH_0 {D : va_G} {sp : Nat → Nat} {s : State} {L : Nat} {xs : Nat → Int32} (hK : va_K D vwCl [] s) : RelH D s.heap.size sp s L xs s (st0 L xs) s.heap := by
  refine ⟨⟨rfl, Nat.zero_le _⟩, fun _ _ => rfl, Vm.Alike.refl s.vm, hK, fun k t n hk ht => ?_⟩
  have hk : (if k = 900000 then ((103 : Nat), L) else if 900001 ≤ k ∧ k < 900047 then ((104 : Nat), (0 : Nat)) else ((0 : Nat), (0 : Nat))) = (t, n) := hk
  split at hk
  · rename_i e
    cases hk
    exact Or.inr (Or.inr (Or.inr (Or.inr (Or.inl ⟨rfl, e, rfl, fun j _ => by show (if k = 900000 then xs j else 0) = xs j; rw [if_pos e]⟩))))
  · split at hk
    · rename_i e
      cases hk
      exact Or.inr (Or.inr (Or.inr (Or.inr (Or.inr ⟨rfl, e.1, e.2⟩))))
    · cases hk
      exact absurd rfl ht
set_option maxRecDepth 100000 in
set_option maxHeartbeats 4000000 in
theorem whole_of {p : Program} {e : Env} {s : State} {m : MethodId} {below : List Frame} {meth : Method} {c : Code} (l : Launch) (hl : l.stackTraces = false) {b L : Nat} {xs : Nat → Int32} (hL : L ≤ 3072) (C0 : lw_At p s m meth c b L xs)
    (hP : okP pG pI pBL pKf pStrs pThr pNcs) (K : okK pI pKf) (hW : okW pThr) {D : va_G} {sp adV : Nat → Nat} (hK : va_K D vwCl [] s) (hsp : sp 0 = b) (hS : pSide s.heap.size sp pStrs pLens pByts adV pNcs s)
    (hBC : ∀ z f as M o M' d, pG[z]? = none → pI[z]? = some f → pB0 z as M = some (o, M') → ∃ v, o = .inl v ∧ ConR D s.heap.size sp s L xs pStrs pLens pByts adV pNcs l f (d + 1) as M v M') :
    W p l e room_1 s m #[Value.ref b] below meth c s.heap [] 0 0 (lw_Z below #[Value.ref b] s) (entryFrame m ([Value.ref b] : List Value).toArray 7) := by
  obtain ⟨hx, hb, hr, hml, hown, hts, hX, hbl, hlocks, hgv, hmn⟩ := C0
  have hts2 : ∀ w ∈ GW, w.before #[Value.ref b] s = true := fun w hw => tb2_of hts w (List.mem_filter.mp hw).1
  obtain ⟨o, Mf, ⟨n, hrun⟩, rfl, hn, hg⟩ := law_run (L := L) (xs := xs) hL
  have hB : ∀ z as M o M', pB0 z as M = some (o, M') → gN M ≤ gN M' ∧ gL M ≤ gL M' := fun z as M o M' h => by
    have := pB0_M h
    rw [this]
    exact ⟨Nat.le_refl _, Nat.le_refl _⟩
  have hBI : ∀ z as M r, pB0 z as M = some r → ∃ f, pI[z]? = some f := fun z as M r h => by
    unfold pB0 at h
    split at h
    · rename_i e9; subst e9; exact ⟨f_280, rfl⟩
    · split at h
      · rename_i e9; subst e9; exact ⟨f_281, rfl⟩
      · cases h
  have hsc : scOK s.heap.size sp s L xs := ⟨by rw [hsp]; exact hX, by rw [hsp]; exact hbl, by omega⟩
  have MP := metP (D := D) (base := s.heap.size) (sp := sp) (s0 := s) (L := L) (xs := xs) (adV := adV) hP K hW (by decide +kernel : pLens.length = 46) hsc hl hB hBI hBC
  obtain ⟨f, bl, hf, hbl9, ok⟩ := hP 279 g_279 rfl
  cases (show pI[279]? = some f_279 from rfl).symm.trans hf
  unfold okPy at ok
  simp only [Bool.and_eq_true, decide_eq_true_eq] at ok
  obtain ⟨⟨⟨⟨e1, e2⟩, e3⟩, okt⟩, okh⟩ := ok
  unfold exP at hrun
  rw [show pG[279]? = some g_279 from rfl] at hrun
  dsimp only at hrun
  split at hrun
  · rename_i hlen9
    obtain ⟨Ls, hent, hLs⟩ := lR_entry (base := s.heap.size) (sp := sp) (m := m) hlen9.1 hlen9.2
    have hpt : ([Value.ref 900000].map (pTr s.heap.size sp)) = [Value.ref b] := by
      show [Value.ref (pAd s.heap.size sp 900000)] = _
      unfold pAd
      rw [if_neg (by omega), show 900000 - 900000 = 0 from rfl, hsp]
    rw [hpt] at hent
    have hI' : ∀ z as M r, exP pG pB0 101 n z as M = some r → ∃ f, pI[z]? = some f := by
      intro z as M r hz
      unfold exP at hz
      split at hz
      · rename_i q1 q2 q3 hG9
        obtain ⟨f9, bl9, hf9, -⟩ := hP z _ hG9
        exact ⟨f9, hf9⟩
      · exact hBI _ _ _ _ hz
    have key := exMSim (p := p) (l := l) (e := e) (R := room_1) (s := s) (m := m) (args := #[Value.ref b]) (below := below) (meth := meth) (c := c) (Q := lw_Z below #[Value.ref b] s) (cc := code) (nL := 7) (own := f_279.1.cls) (mn := f_279.1.name) (ret := f_279.2.2.2.1) (n0 := 0) (l0 := 0) (o := .inl (some (.int (nN 1)))) (Mf := Mf) (d := 101)
      (fun z f as M v M' hz hv hb9 => (MP 101 n z f as M _ M' hz hv hb9).1 v rfl) (fun z f as M k M' hz hv hb9 => (MP 101 n z f as M _ M' hz hv hb9).2 k rfl) (fun z as M o M' hz => exP_mono hB 101 n z as M o M' hz) hI' K (by decide +kernel) hsc okt hx hb hml hown hmn hts2 hS (fun _ _ => rfl) (Nat.le_refl _) (Nat.le_of_ble_eq_true rfl) (Nat.le_of_ble_eq_true rfl) (by show gN Mf ≤ 0 + 601024; omega) (by show gL Mf ≤ 0 + 7293034; omega) (by omega)
      (fun pc' Ls' H' locs' x hx9 hra hR' hlo' => by
        cases hx9
        obtain ⟨q1, -⟩ := hra
        refine va_forget hlo' (W.widen (k := 601024) (n := 7293034) (by omega) (by omega) ?_)
        show W p l e room_1 s m #[Value.ref b] below meth c H' [] 601024 7293034 _ (F0 m pc' Ls' [.int (nN 1)])
        rw [one_n]
        exact lw_ret hx hb hr hlocks q1)
      (fun _ k _ _ _ _ _ _ _ hk9 => nomatch hk9)
      (fun hne => absurd rfl hne)
      (fun k _ _ _ _ _ _ _ _ hk9 => nomatch hk9)
      n 0 _ [] (st0 L xs) Ls s.heap [] hrun hLs (relH_0 hK) (fun z hz => nomatch hz) (Nat.le_refl _) (Nat.le_refl _)
    rw [e3] at key
    have hent : entryFrame m #[Value.ref b] 7 = F0 m 0 Ls [] := hent
    rw [show ([Value.ref b] : List Value).toArray = #[Value.ref b] from rfl, hent]
    exact key
  · cases hrun
