/-! fields -/
/-- private methods of the abstract reader, as they are called on objects of the two readers that can be made: out of the tables' own words (px_sel) -/
def pExtra : List Cond := ["FavourTown$TemperText", "FavourTown$TownText"].flatMap fun C => [("cutUp", "()V"), ("thingAt", "(II)I"), ("wordIn", "(II)I"), ("numberIn", "(II)I")].map fun q => Cond.selects C ⟨RX4, q.1, q.2⟩ ⟨RX4, q.1, q.2⟩
def lw_tb2 : List Cond := lw_tbl ++ pExtra
theorem px_sel {C C' : String} {x' y y' : MethodName} {s : State} {args : Array Value} {n : Nat} (hy : y.cls ≠ "java/lang/invoke/MethodHandle" ∧ y.cls ≠ "java/lang/invoke/VarHandle")
    (hins : (Cond.instantiable C n).before args s = true) (hpriv : (Cond.privateMethod y).before args s = true) (hinst : (Cond.instanceMethod y).before args s = true) (hsel : (Cond.selects C' x' y').before args s = true) (hc9 : y'.cls = y.cls) :
    (Cond.selects C y y).before args s = true := by
  obtain ⟨c, k, hc, hk, -, -, -, -⟩ := Cond.instantiable_spec hins
  obtain ⟨mk, methM, hnamed, hmethM, -, -⟩ := Cond.instanceMethod_spec hinst
  obtain ⟨c2, r2, m2, -, -, hn2, -, k2, hk2, hi2⟩ := Cond.selects_spec hsel
  have hfound : s.methodFound? y.cls y.name y.desc = some mk := State.methodFound?_of_named hnamed hy
  have hcls : mk.cls = m2.cls := by
    have a := findClass_of_methodNamed hnamed
    have b := findClass_of_methodNamed hn2
    rw [hc9] at b
    exact Option.some.inj (a.symm.trans b)
  have hsm : selectMethod {} s.vm c mk = .method mk := selectMethod_private hmethM (Cond.privateMethod_at hpriv mk methM hnamed hmethM)
  simp only [Cond.before, Cond.holds, Cond.value, hc, hfound, hnamed, hsm, hcls, hk2]
  simp; exact hi2
theorem px_wr0 : lw_tbl.contains (Cond.selects "FavourTown$TemperText" ⟨RX4, "wrong", "()Z"⟩ ⟨RX4, "wrong", "()Z"⟩) = true := by decide +kernel
theorem px_wr : Cond.selects "FavourTown$TemperText" ⟨RX4, "wrong", "()Z"⟩ ⟨RX4, "wrong", "()Z"⟩ ∈ lw_tbl := by simpa using px_wr0
theorem px_r1 : RX4 ≠ "java/lang/invoke/MethodHandle" := by decide +kernel
theorem px_r2 : RX4 ≠ "java/lang/invoke/VarHandle" := by decide +kernel
theorem tb2_of {s : State} {args : Array Value} (h : ∀ w ∈ lw_tbl, w.before args s = true) : ∀ w ∈ lw_tb2, w.before args s = true := by
  intro w hw
  rcases List.mem_append.mp hw with hw | hw
  · exact h w hw
  · have hw9 : (Cond.selects "FavourTown$TemperText" ⟨RX4, "wrong", "()Z"⟩ ⟨RX4, "wrong", "()Z"⟩).before args s = true := h _ px_wr
    have go : ∀ (C nm ds : String) (n : Nat), lw_tbl.contains (Cond.instantiable C n) = true → lw_tbl.contains (Cond.privateMethod ⟨RX4, nm, ds⟩) = true → lw_tbl.contains (Cond.instanceMethod ⟨RX4, nm, ds⟩) = true → (Cond.selects C ⟨RX4, nm, ds⟩ ⟨RX4, nm, ds⟩).before args s = true := fun C nm ds n h1 h2 h3 =>
      px_sel (C := C) (y := ⟨RX4, nm, ds⟩) (n := n) ⟨px_r1, px_r2⟩ (h _ (by simpa using h1)) (h _ (by simpa using h2)) (h _ (by simpa using h3)) hw9 rfl
    simp only [pExtra, List.flatMap_cons, List.flatMap_nil, List.map_cons, List.map_nil, List.cons_append, List.nil_append, List.append_nil, List.mem_cons, List.not_mem_nil, or_false] at hw
    rcases hw with rfl | rfl | rfl | rfl | rfl | rfl | rfl | rfl
    all_goals first
      | exact go _ _ _ 12 (by decide +kernel) (by decide +kernel) (by decide +kernel)
      | exact go _ _ _ 18 (by decide +kernel) (by decide +kernel) (by decide +kernel)
def GW : List Cond := lw_tb2.filter goodWord
theorem gw_at {i : Nat} {w : Cond} (h : lw_tb2[i]? = some w) (hg : goodWord w = true) : w ∈ GW := List.mem_filter.mpr ⟨List.mem_of_getElem? h, hg⟩
theorem gw_mem {w : Cond} (h : w ∈ lw_tb2 ∧ goodWord w = true) : w ∈ GW := List.mem_filter.mpr h
theorem gw_good {ws : List Cond} (h : ∀ w ∈ ws, w ∈ GW) : GoodIn GW ws := fun w hw => ⟨h w hw, good_of_word (List.mem_filter.mp (h w hw)).2⟩
/-- words of nest mates, of what is only declared, of casts: they are carried by another way -/
def pSd : Cond → Bool
  | .fieldLinkNest .. => true
  | .methodLinkNest .. => true
  | .declares _ => true
  | .castable _ _ => true
  | _ => false
def SW : List Cond := lw_tb2.filter pSd
theorem sw_at {i : Nat} {w : Cond} (h : lw_tb2[i]? = some w) (hg : pSd w = true) : w ∈ SW := List.mem_filter.mpr ⟨List.mem_of_getElem? h, hg⟩
theorem sw_warm {s U : State} (hW : s.WarmedH U.vm) (h : ∀ w ∈ SW, va_Nw w s) : ∀ w ∈ SW, va_Nw w U := by
  intro w hw
  have h1 := (List.mem_filter.mp hw).2
  have h2 := h w hw
  cases w
  case fieldLinkNest => exact va_Nw.warmF hW h2
  case methodLinkNest => exact va_Nw.warmM hW h2
  case declares => exact va_Nw.warmD hW h2
  case castable => exact va_Nw.warmC hW h2
  all_goals cases h1
theorem sw_ot {w : Cond} (hw : w ∈ SW) : w.onTables = true := by
  have h1 := (List.mem_filter.mp hw).2
  cases w
  case fieldLinkNest => rfl
  case methodLinkNest => rfl
  case declares => rfl
  case castable => rfl
  all_goals cases h1
theorem sw_same {s U : State} (hv : s.vm = U.vm) (h : ∀ w ∈ SW, va_Nw w s) : ∀ w ∈ SW, va_Nw w U := fun w hw => (h w hw).same (sw_ot hw) hv
theorem cw_0 : ∀ w ∈ wsX00, w ∈ lw_tb2 ∧ goodWord w = true := by decide +kernel
theorem cw_1 : ∀ w ∈ wsX10, w ∈ lw_tb2 ∧ goodWord w = true := by decide +kernel
theorem cw_2 : ∀ w ∈ wsX20, w ∈ lw_tb2 ∧ goodWord w = true := by decide +kernel
theorem cw_3 : ∀ w ∈ wsX30, w ∈ lw_tb2 ∧ goodWord w = true := by decide +kernel
theorem cw_5 : ∀ w ∈ wsX50, w ∈ lw_tb2 ∧ goodWord w = true := by decide +kernel
theorem cw_6 : ∀ w ∈ wsX60, w ∈ lw_tb2 ∧ goodWord w = true := by decide +kernel
theorem cw_7 : ∀ w ∈ wsX70, w ∈ lw_tb2 ∧ goodWord w = true := by decide +kernel
theorem cw_8 : ∀ w ∈ wsX80, w ∈ lw_tb2 ∧ goodWord w = true := by decide +kernel
theorem cw_9 : ∀ w ∈ wsX90, w ∈ lw_tb2 ∧ goodWord w = true := by decide +kernel
theorem cw_10 : ∀ w ∈ wsX100, w ∈ lw_tb2 ∧ goodWord w = true := by decide +kernel
theorem cw_11 : ∀ w ∈ wsX110, w ∈ lw_tb2 ∧ goodWord w = true := by decide +kernel
theorem cw_12 : ∀ w ∈ wsX120, w ∈ lw_tb2 ∧ goodWord w = true := by decide +kernel
/-- the classes' tables, together -/
theorem cl_ok : ∀ (t : Nat) (r : vw_C), 1 ≤ t → vwCl[t - 1]? = some r → (∀ k, k < r.2.2 → parseFieldDescriptor (r.2.1 k).2.2.1 = some (pTy t k)) ∧ (∀ a, a < r.2.2 → ∀ b, b < r.2.2 → a ≠ b → (r.2.1 a).2.1 ≠ (r.2.1 b).2.1) ∧ (∀ w ∈ u_ws r.1 r.2.1 r.2.2, w ∈ GW) := by
  intro t r ht h
  have h12 := RelH.kcl h
  have : t = 1 ∨ t = 2 ∨ t = 3 ∨ t = 4 ∨ t = 5 ∨ t = 6 ∨ t = 7 ∨ t = 8 ∨ t = 9 ∨ t = 10 ∨ t = 11 ∨ t = 12 := by omega
  rcases this with rfl | rfl | rfl | rfl | rfl | rfl | rfl | rfl | rfl | rfl | rfl | rfl
  · cases h; exact ⟨tyX0_ok, nmX0, fun w hw => gw_mem (cw_0 w hw)⟩
  · cases h; exact ⟨tyX1_ok, nmX1, fun w hw => gw_mem (cw_1 w hw)⟩
  · cases h; exact ⟨tyX2_ok, nmX2, fun w hw => gw_mem (cw_2 w hw)⟩
  · cases h; exact ⟨tyX3_ok, nmX3, fun w hw => gw_mem (cw_3 w hw)⟩
  · cases h; exact ⟨tyX5_ok, nmX5, fun w hw => gw_mem (cw_5 w hw)⟩
  · cases h; exact ⟨tyX6_ok, nmX6, fun w hw => gw_mem (cw_6 w hw)⟩
  · cases h; exact ⟨tyX7_ok, nmX7, fun w hw => gw_mem (cw_7 w hw)⟩
  · cases h; exact ⟨tyX8_ok, nmX8, fun w hw => gw_mem (cw_8 w hw)⟩
  · cases h; exact ⟨tyX9_ok, nmX9, fun w hw => gw_mem (cw_9 w hw)⟩
  · cases h; exact ⟨tyX10_ok, nmX10, fun w hw => gw_mem (cw_10 w hw)⟩
  · cases h; exact ⟨tyX11_ok, nmX11, fun w hw => gw_mem (cw_11 w hw)⟩
  · cases h; exact ⟨tyX12_ok, nmX12, fun w hw => gw_mem (cw_12 w hw)⟩
/-- a field's link, for one kind of object: (host: 0 by the class itself, 1 by a nest mate) -/
def pLkF (own : String) (idx k host p1 p2 : Nat) (r : vw_C) : Bool := match lw_tb2[p1]? with
  | some (.fieldLink o j ref nm ds) => decide (host = 0 ∧ o = own ∧ j = idx ∧ nm = (r.2.1 k).2.1 ∧ ds = (r.2.1 k).2.2.1 ∧ (ref = (r.2.1 k).1 ∨ lw_tb2[p2]? = some (.sameField ref (r.2.1 k).1 nm ds)))
  | some (.fieldLinkNest o j ref nm ds _) => decide (host = 1 ∧ o = own ∧ j = idx ∧ nm = (r.2.1 k).2.1 ∧ ds = (r.2.1 k).2.2.1 ∧ ref = (r.2.1 k).1)
  | _ => false
def pFd1 (own mn : String) (put : Bool) (idx k rf host p1 p2 t : Nat) : Bool := match vwCl[t - 1]? with
  | none => false
  | some r => decide (1 ≤ t ∧ k < r.2.2) && decide ((pRefTy (pTy t k) = true ∧ rf = 1) ∨ (pTy t k = .int ∧ rf = 0) ∨ (pTy t k = .boolean ∧ rf = 2)) && pLkF own idx k host p1 p2 r &&
    (!put || !(r.2.1 k).2.2.2 || decide (mn = "<init>" ∧ (r.2.1 k).1 = own ∧ host = 0))
def pFd (own mn : String) (put : Bool) (idx : Nat) : List Nat → Bool
  | k :: rf :: host :: p1 :: p2 :: ts => ts.all (pFd1 own mn put idx k rf host p1 p2)
  | _ => false
theorem pLkF_spec {own : String} {idx k host p1 p2 : Nat} {r : vw_C} {s : State} {args : Array Value} (hts : ∀ w ∈ GW, w.before args s = true) (hsw : ∀ w ∈ SW, va_Nw w s) (h : pLkF own idx k host p1 p2 r = true) :
    (host = 0 ∧ ∃ ref, (Cond.fieldLink own idx ref (r.2.1 k).2.1 (r.2.1 k).2.2.1).before args s = true ∧ ∀ x, s.fieldFound? (r.2.1 k).1 (r.2.1 k).2.1 (r.2.1 k).2.2.1 = some x → s.fieldFound? ref (r.2.1 k).2.1 (r.2.1 k).2.2.1 = some x) ∨
    (host = 1 ∧ ∃ hs, (Cond.fieldLinkNest own idx (r.2.1 k).1 (r.2.1 k).2.1 (r.2.1 k).2.2.1 hs).before args s = true) := by
  unfold pLkF at h
  split at h
  · rename_i o j ref nm ds hw
    obtain ⟨h1, rfl, rfl, rfl, rfl, h2⟩ := of_decide_eq_true h
    refine Or.inl ⟨h1, ref, hts _ (gw_at hw rfl), fun x hx => ?_⟩
    rcases h2 with rfl | h2
    · exact hx
    · exact u_same (hts _ (gw_at h2 rfl)) x hx
  · rename_i o j ref nm ds hs hw
    obtain ⟨h1, rfl, rfl, rfl, rfl, rfl⟩ := of_decide_eq_true h
    exact Or.inr ⟨h1, hs, (hsw _ (sw_at hw rfl)).use (sw_ot (sw_at hw rfl))⟩
  · cases h
section SE
variable {p : Program} {l : Launch} {e : Env} {R : Room} {s : State} {m : MethodId} {args : Array Value} {below : List Frame} {meth : Method} {c : Code} {H : Heap} {locs : List Loc} {cells slots : Nat} {Q : State → Prop}
variable {D : va_G} {base : Nat} {sp : Nat → Nat} {s0 : State} {L : Nat} {xs : Nat → Int32} {cc : ByteArray} {pc : Nat} {Ls : Array Slot} {ls ls' : pLo} {st st' : List Value} {M M' : pMem}
theorem ob_P {a ci : Nat} {r : vw_C} {f : Nat → Value} (hc : vwCl[ci]? = some r) (h : t_OB a (D.1 ci) r.2.2 (D.2 ci) H f) : va_P D vwCl [(a, .inr (ci, (List.range r.2.2).map f))] H := by
  intro k q hq
  cases k with
  | zero =>
    simp at hq
    subst hq
    refine ⟨r, hc, h.to fun j hj => ?_⟩
    simp [vp_V, List.getD, hj]
  | succ k => simp at hq
theorem simGet {own mn : String} {idx : Nat} {an : List Nat} (h : pGet (ls, st, M) an = some (.inl (ls', st', M'))) (ok : pFd own mn false idx an = true) (hd : decode cc pc = .ok (.getfield idx, 3)) (hx : p.tables.exec = Jvm.exec) (hb : c.code = cc) (hown : s.vm.findClass own = some m.cls) (hts : ∀ w ∈ GW, w.before args s = true) (hsw : ∀ w ∈ SW, va_Nw w s) (hR : RelH D base sp s0 L xs s M H)
    (kk : W p l e R s m args below meth c H locs cells slots Q (F0 m (pc + 3) Ls (st'.map (pTr base sp)))) : W p l e R s m args below meth c H locs cells slots Q (F0 m pc Ls (st.map (pTr base sp))) := by
  unfold pGet at h
  split at h
  · rename_i k rf host p1 p2 ts
    dsimp only at h
    split at h
    · rename_i hh r
      split at h
      · rename_i htag
        simp only [pTag, List.contains_iff_mem] at htag
        have h1 := List.all_eq_true.mp ok _ htag
        unfold pFd1 at h1
        split at h1
        · cases h1
        · rename_i r0 hr0
          simp only [Bool.and_eq_true, decide_eq_true_eq] at h1
          obtain ⟨⟨⟨⟨g1, g2⟩, g3⟩, g4⟩, -⟩ := h1
          have hs : gS M hh = ((gS M hh).1, (gS M hh).2) := rfl
          have h12 := RelH.kcl hr0
          obtain ⟨hk, r1, hr1, hob⟩ := hR.obj hs g1 (by omega)
          cases hr0.symm.trans hr1
          obtain ⟨c1, c2, c3⟩ := cl_ok _ _ g1 hr0
          have hP := ob_P hr0 hob
          have had : pAd base sp hh = base + hh := hR.ad hk
          have hv : ((List.range r0.2.2).map fun j => pFV base sp M hh (gS M hh).1 j)[k]? = some (pFV base sp M hh (gS M hh).1 k) := by
            rw [List.getElem?_map, List.getElem?_range g2]; rfl
          have hst : st'.map (pTr base sp) = pFV base sp M hh (gS M hh).1 k :: r.map (pTr base sp) := by
            unfold pFV
            rcases g3 with ⟨q1, rfl⟩ | ⟨q1, rfl⟩ | ⟨q1, rfl⟩
            · rw [if_pos rfl] at h
              cases h
              rw [if_pos q1]; rfl
            · rw [if_neg (by decide)] at h
              cases h
              rw [q1]; rfl
            · rw [if_neg (by decide)] at h
              cases h
              rw [q1]; rfl
          rw [hst] at kk
          show W p l e R s m args below meth c H locs cells slots Q (F0 m pc Ls (.ref (pAd base sp hh) :: r.map (pTr base sp)))
          rw [had]
          obtain ⟨C, T, N⟩ := r0
          rcases pLkF_spec hts hsw g4 with ⟨-, ref, hl, hsame⟩ | ⟨-, hs9, hl⟩
          · exact va_get (C := C) (T := T) (N := N) hx hb hts c3 hown hR.2.2.2.1 hP 0 rfl hr0 k g2 hl hsame hv hd kk
          · exact va_getN (C := C) (T := T) (N := N) hx hb hts c3 hown hR.2.2.2.1 hP 0 rfl hr0 k g2 hl (fun x hx => hx) hv hd kk
      · cases h
    · cases h
  · cases h
theorem simGetM {an : List Nat} (h : pGet (ls, st, M) an = some (.inl (ls', st', M'))) : ls' = ls ∧ M' = M := by
  unfold pGet at h
  repeat' split at h
  all_goals first | (cases h; exact ⟨rfl, rfl⟩) | cases h
end SE
