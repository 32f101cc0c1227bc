/-! CONTRACTS, out of a pure run -/
abbrev pInf : Type := MethodName × ByteArray × Nat × Option FieldType × List (Nat × Nat × Nat × Nat)
def wY (f : pInf) : List Cond := (match f.2.2.2.2 with
  | [] => Cond.code f.1 f.2.1 f.2.2.1 f.2.2.2.1
  | hh => Cond.codeWith f.1 f.2.1 f.2.2.1 f.2.2.2.1 hh) :: GW
def rmD (d c s : Nat) : Room := { frames := d + 20, cells := c, slots := s, locals := 64 * d + 400 }
/-- what is thrown, by number -/
def exN (k : Nat) : String := ["java/lang/IllegalArgumentException", "java/lang/IndexOutOfBoundsException", "java/lang/UnsupportedOperationException", "java/util/NoSuchElementException"].getD k ""
section CO
variable (D : va_G) (base : Nat) (sp : Nat → Nat) (s0 : State) (L : Nat) (xs : Nat → Int32) (strs : List (String × Nat × String)) (len : List Nat) (byt : List (List Int32)) (adV : Nat → Nat) (ncs : List (String × String)) (l : Launch)
/-- what holds at every method's begin, beside the memory -/
def pSide (U : State) : Prop :=
  (∀ w ∈ SW, va_Nw w U) ∧ (∀ (j : Nat) (q : String × Nat × String), strs[j]? = some q → vk_R q.1 q.2.1 q.2.2 (sp (1 + j)) U) ∧ va_AO RX7 U ∧ (∀ q ∈ ncs, va_Nc q.1 q.2 U) ∧
  (vx_Zq Bundle.tN "UNASSIGNED_STACK" Bundle.steD (fun q => base ≤ q) U U.heap ∧ vx_Zq Bundle.tN "SUPPRESSED_SENTINEL" Bundle.listD (fun q => base ≤ q) U U.heap) ∧
  (vk_S len.length len byt (fun j => sp (1 + j)) adV (fun q => base ≤ q) U U.heap ∧ va_Z "java/lang/String" "COMPACT_STRINGS" "Z" (.int 1) (fun q => base ≤ q) U U.heap ∧ va_Zq "jdk/internal/util/Preconditions" "SIOOBE_FORMATTER" "Ljava/util/function/BiFunction;" (fun q => base ≤ q) U U.heap)
def pcY (as : List Value) (M : pMem) : Array Value → State → Prop := va_Pc (as.map (pTr base sp)) (fun U => RelH D base sp s0 L xs U M U.heap ∧ pSide base sp strs len byt adV ncs U)
def qcY (v : Option Value) (M' : pMem) : Array Value → State → Outcome → State → Prop := fun _ _ oc t => oc = .returned (v.map (pTr base sp)) ∧ RelH D base sp s0 L xs t M' t.heap
def xcY (k : Nat) (M' : pMem) : String → State → State → Prop := fun E _ t => E = exN k ∧ RelH D base sp s0 L xs t M' t.heap
def ConR (f : pInf) (d : Nat) (as : List Value) (M : pMem) (v : Option Value) (M' : pMem) : Prop :=
  Met l f.1 (wY f) (rmD d (gN M' - gN M) (gL M' - gL M)) (pcY D base sp s0 L xs strs len byt adV ncs as M) (qcY D base sp s0 L xs v M') (gN M' - gN M) (gL M' - gL M) (fun q => base ≤ q)
def ConT (f : pInf) (d : Nat) (as : List Value) (M : pMem) (k : Nat) (M' : pMem) : Prop :=
  vx_Met l f.1 (wY f) (rmD d (gN M' - gN M) (gL M' - gL M)) (pcY D base sp s0 L xs strs len byt adV ncs as M) (fun _ _ _ _ => False) (xcY D base sp s0 L xs k M') (gN M' - gN M) (gL M' - gL M) (fun q => base ≤ q)
end CO
section CP
variable {D : va_G} {base : Nat} {sp : Nat → Nat} {s0 : State} {L : Nat} {xs : Nat → Int32} {strs : List (String × Nat × String)} {len : List Nat} {byt : List (List Int32)} {adV : Nat → Nat} {ncs : List (String × String)} {l : Launch}
theorem pSide.warm {s U : State} (hW : s.WarmedH U.vm) (hH : ∀ q : Nat, q < base → U.heap[q]? = s.heap[q]?) (h : pSide base sp strs len byt adV ncs s) : pSide base sp strs len byt adV ncs U := by
  obtain ⟨h1, h2, h3, h4, ⟨h5, h6⟩, h7, h8, h9⟩ := h
  have hq : ∀ a : Nat, a < s.heap.size → ¬ (base ≤ a) → U.heap[a]? = s.heap[a]? := fun a _ hb => hH a (Nat.not_le.mp hb)
  have ha := hW.alike
  exact ⟨sw_warm hW h1, fun j q hj => vk_R.warm hW (h2 j q hj), h3.moved ha, fun q hq => (h4 q hq).moved ha, ⟨vx_Zq.moved ha (h5.kept hq), vx_Zq.moved ha (h6.kept hq)⟩, vk_S.moved ha (h7.kept hq), va_Z.moved ha (h8.kept hq), va_Zq.moved ha (h9.kept hq)⟩
theorem pSide.same {s U : State} (hv : s.vm = U.vm) (hH : U.heap = s.heap) (h : pSide base sp strs len byt adV ncs s) : pSide base sp strs len byt adV ncs U := by
  refine pSide.warm (s := s) ?_ (fun q _ => by rw [hH]) h
  rw [← hv]
  exact State.WarmedH.refl s
theorem pcY.blind {as : List Value} {M : pMem} : FrameBlind (pcY D base sp s0 L xs strs len byt adV ncs as M) := by
  rintro a U g mk ⟨h1, h2, h3⟩
  exact ⟨h1, RelH.moved (s := U) (U := U.calling g mk a) (Vm.Alike.refl U.vm) h2, pSide.same (s := U) (U := U.calling g mk a) rfl rfl h3⟩
variable {p : Program} {e : Env} {R : Room} {s : State} {m : MethodId} {args : Array Value} {below : List Frame} {meth : Method} {c : Code} {H : Heap} {locs : List Loc} {cells slots : Nat} {Q : State → Prop}
variable {pc : Nat} {Ls : Array Slot} {M M' : pMem} {mc ms : Nat} {st0 rest : List Value} {a : Array Value}
theorem pcall {x : Option Value} (hr : va_Run p l e R s m args below meth c H locs cells slots mc ms (F0 m pc Ls st0) rest (qcY D base sp s0 L xs x M' a) (fun q => base ≤ q))
    (kk : ∀ (H1 : Heap) (locs1 : List Loc), (∀ z ∈ locs1, z ∈ locs ∨ base ≤ z.base) → RelH D base sp s0 L xs s M' H1 → W p l e R s m args below meth c H1 locs1 (cells + mc) (slots + ms) Q (F0 m (pc + 3) Ls ((x.map (pTr base sp)).toList ++ rest))) : W p l e R s m args below meth c H locs cells slots Q (F0 m pc Ls st0) := by
  intro T hT X
  obtain ⟨v, st₀, t, T', L', h0, X', hL, e1, e2, ⟨hv, hR⟩, st⟩ := hr T hT X
  cases hv
  obtain ⟨t2, a1, b1⟩ := kk T'.heap (locs ++ L') (fun z hz => by
    rcases List.mem_append.mp hz with q | q
    · exact Or.inl q
    · exact Or.inr (hL z q)) (by
      rw [e1]
      exact hR.moved (by rw [← e2]; exact X'.warmed.alike.symm)) T' rfl X'
  exact ⟨t2, st t2 a1, b1⟩
theorem pcallX {k : Nat} (hr : vx_Run p l e R s m args below meth c H locs cells slots mc ms (F0 m pc Ls st0) rest (fun _ _ _ => False) (xcY D base sp s0 L xs k M') (fun q => base ≤ q))
    (kk : ∀ (H1 : Heap) (locs1 : List Loc) (q : Addr) (ce : Cell), (∀ z ∈ locs1, z ∈ locs ∨ base ≤ z.base) → RelH D base sp s0 L xs s M' H1 → H1[q]? = some ce → ce.vm = .none → s.vm.findClass (exN k) = some ce.cls → vx_W p l e R s m args below meth c H1 locs1 (cells + mc) (slots + ms) Q (F0 m pc Ls rest) q) : W p l e R s m args below meth c H locs cells slots Q (F0 m pc Ls st0) := by
  intro T hT X
  rcases hr T hT X with ⟨v, st₀, t, T', L', h0, X', hL, e1, e2, hF, st⟩ | ⟨q, st₀, t, T', L', E, ce, h0, X', hL, e1, e2, ⟨rfl, hR⟩, hce, hcv, hcl, st⟩
  · exact hF.elim
  · obtain ⟨t2, a1, b1⟩ := kk T'.heap (locs ++ L') q ce (fun z hz => by
      rcases List.mem_append.mp hz with q | q
      · exact Or.inl q
      · exact Or.inr (hL z q)) (by
        rw [e1]
        exact hR.moved (by rw [← e2]; exact X'.warmed.alike.symm)) (by rw [e1]; exact hce) hcv hcl T' rfl X'
    exact ⟨t2, st.trans a1, b1⟩
/-- the callee's begin, from the caller's middle -/
theorem preY {as : List Value} (hR : RelH D base sp s0 L xs s M H) (hS : pSide base sp strs len byt adV ncs s) (hs0 : ∀ q : Nat, q < base → s.heap[q]? = s0.heap[q]?) : ∀ U : State, U.heap = H → s.WarmedH U.vm → pcY D base sp s0 L xs strs len byt adV ncs as M (as.map (pTr base sp)).toArray U := by
  intro U hU hW
  refine ⟨rfl, ?_, pSide.warm hW (fun q hq => ?_) hS⟩
  · rw [hU]
    exact hR.moved hW.alike
  · rw [hU, hR.2.1 q hq, hs0 q hq]
end CP
