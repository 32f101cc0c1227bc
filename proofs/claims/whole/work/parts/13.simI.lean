/-! arrays of references; what is made; constants; copies -/
section SI
variable {p : Program} {l : Launch} {e : Env} {R : Room} {s : State} {m : MethodId} {args : Array Value} {below : List Frame} {meth : Method} {c : Code} {H : Heap} {locs : List Loc} {cells slots : Nat} {Q : State → Prop}
variable {D : va_G} {base : Nat} {sp : Nat → Nat} {s0 : State} {L : Nat} {xs : Nat → Int32} {cc : ByteArray} {pc : Nat} {Ls : Array Slot} {ls ls' : pLo} {st st' : List Value} {M M' : pMem}
theorem simQSt (h : pQSt (ls, st, M) = some (.inl (ls', st', M'))) (hd : decode cc pc = .ok (.aastore, 1)) (hx : p.tables.exec = Jvm.exec) (hb : c.code = cc) (hR : RelH D base sp s0 L xs s M H)
    (kk : ∀ (H1 : Heap) (l1 : Loc), base ≤ l1.base → RelH D base sp s0 L xs s M' H1 → W p l e R s m args below meth c H1 (locs ++ [l1]) cells slots Q (F0 m (pc + 1) Ls (st'.map (pTr base sp)))) : W p l e R s m args below meth c H locs cells slots Q (F0 m pc Ls (st.map (pTr base sp))) := by
  unfold pQSt at h
  dsimp only at h
  split at h
  · rename_i q i hh r
    split at h
    · rename_i hg
      obtain ⟨ht, hi, hq⟩ := hg
      cases h
      have hs : gS M hh = (102, (gS M hh).2) := by rw [← ht]
      have hs2 : gS M q = (7, (gS M q).2) := by rw [← hq]
      obtain ⟨hk, cA, h1, h2, h3⟩ := hR.qa hs
      obtain ⟨hkq, r1, hr1, cellV, g1, g2, g3, -⟩ := hR.obj hs2 (by omega) (by omega)
      obtain ⟨kA, comp, k1, k2, k3, k4⟩ := h2
      have hcls := (hR.2.2.2.1.1 6 (RX7, TX7, 3) rfl).2
      have hcomp : comp = D.1 6 := Option.some.inj (k3.symm.trans hcls.1)
      subst hcomp
      obtain ⟨kC, hkC, -⟩ := hcls.2
      show W p l e R s m args below meth c H locs cells slots Q (F0 m pc Ls (.ref (pAd base sp q) :: .int i :: .ref (pAd base sp hh) :: st'.map (pTr base sp)))
      rw [hR.ad hk, hR.ad hkq]
      have hin := pIn_vp hi
      have hlt : i.toNatClampNeg < (gS M hh).2 := Nat.not_le.mp fun q => hin (Or.inr q)
      refine W.aast hx hb h3 (fun q h => by cases h) (fun h => by cases h) k1 k2 rfl hkC ⟨fun q => hin (Or.inl q), by show _ < (arrV _ _ _).slots.size; rw [arrV_size]; exact hlt⟩ g1 (fun q h => by rw [g3] at h; cases h) (by rw [g2]; exact hkC) (by rw [g2]; exact va_assign hcls) rfl rfl hd fun H1 e1 e2 e3 => ?_
      refine kk H1 _ (Nat.le_add_right _ _) (hR.put hs (by omega) e2 e3 rfl rfl (fun _ _ _ => rfl) (fun k' j' n => up2_ne n) (fun _ _ _ => rfl) (Or.inr (Or.inr (Or.inr (Or.inl ⟨rfl, hk, cA, h1, ⟨kA, _, k1, k2, k3, k4⟩, ?_⟩)))))
      rw [e1, arrV_store]
      congr 2
      funext z
      by_cases hz : z = i.toNatClampNeg
      · subst hz
        simp [updV, gP, sP, up2, pIx, pRf, pTr, hR.ad hkq]
      · have : ¬ z = pIx i := hz
        simp [updV, gP, sP, up2, hz, this]
    · cases h
  · rename_i i hh r
    split at h
    · rename_i hg
      obtain ⟨ht, hi⟩ := hg
      cases h
      have hs : gS M hh = (102, (gS M hh).2) := by rw [← ht]
      obtain ⟨hk, cA, h1, h2, h3⟩ := hR.qa hs
      show W p l e R s m args below meth c H locs cells slots Q (F0 m pc Ls (.null :: .int i :: .ref (pAd base sp hh) :: st'.map (pTr base sp)))
      rw [hR.ad hk]
      refine va_WaastN (C := RX7) hx hb h3 (h1 _ _) (fun h => by cases h) (by show ¬ (i < 0 ∨ (arrV _ _ _).slots.size ≤ _); rw [arrV_size]; exact pIn_vp hi) rfl rfl hd fun H1 e1 e2 e3 => ?_
      refine kk H1 _ (Nat.le_add_right _ _) (hR.put hs (by omega) e2 e3 rfl rfl (fun _ _ _ => rfl) (fun k' j' n => up2_ne n) (fun _ _ _ => rfl) (Or.inr (Or.inr (Or.inr (Or.inl ⟨rfl, hk, cA, h1, h2, ?_⟩)))))
      rw [e1, arrV_store]
      congr 2
      funext z
      by_cases hz : z = i.toNatClampNeg
      · subst hz
        simp [updV, gP, sP, up2, pIx, pRf, pTr]
      · have : ¬ z = pIx i := hz
        simp [updV, gP, sP, up2, hz, this]
    · cases h
  · cases h
theorem simQStM (h : pQSt (ls, st, M) = some (.inl (ls', st', M'))) : ls' = ls ∧ gN M' = gN M ∧ gL M' = gL M := by
  unfold pQSt at h
  repeat' split at h
  all_goals first | (cases h; exact ⟨rfl, rfl, rfl⟩) | cases h
theorem upR_eq {α : Type} {f : Nat → Nat → α} {h k : Nat} {r : Nat → α} : upR f h r h k = r k := by simp [upR]
/-- a new array -/
theorem simNewA {t : Nat} (h : pNewA (ls, st, M) t = some (.inl (ls', st', M'))) (hx : p.tables.exec = Jvm.exec) (hb : c.code = cc) (hown : ∃ own, s.vm.findClass own = some m.cls ∧ ((t = 100 ∧ decode cc pc = .ok (.newarray .int, 2) ∧ (Cond.arrayClass .int).before args s = true) ∨ (t = 101 ∧ decode cc pc = .ok (.newarray .long, 2) ∧ (Cond.arrayClass .long).before args s = true) ∨ (t = 102 ∧ ∃ idx, decode cc pc = .ok (.anewarray idx, 3) ∧ (Cond.classLink own idx RX7).before args s = true ∧ va_AO RX7 s)))
    (hR : RelH D base sp s0 L xs s M H) (hN : gN M < 900000) (hc : cells + 1 ≤ R.cells) (hs : slots + (gL M' - gL M) ≤ R.slots)
    (kk : ∀ (H1 : Heap), RelH D base sp s0 L xs s M' H1 → W p l e R s m args below meth c H1 locs (cells + 1) (slots + (gL M' - gL M)) Q (F0 m (pc + (if t = 102 then 3 else 2)) Ls (st'.map (pTr base sp)))) : W p l e R s m args below meth c H locs cells slots Q (F0 m pc Ls (st.map (pTr base sp))) := by
  unfold pNewA at h
  dsimp only at h
  split at h
  · rename_i n r
    split at h
    · rename_i hg
      cases h
      have hsz : H.size = base + gN M := hR.1.1
      have hn : ¬ n < 0 := fun q => by have := Int32.lt_iff_toInt_lt.mp q; have h0 : (0 : Int32).toInt = 0 := rfl; omega
      have hN2 : n.toNatClampNeg < 1000000 := by show n.toInt.toNat < _; omega
      have had : pAd base sp (gN M) = base + gN M := if_pos hN
      have hL : gL (nw M t (pIx n) (pIx n)) - gL M = n.toNatClampNeg := by show gL M + n.toNatClampNeg - gL M = _; omega
      rw [hL] at hs
      rw [hL] at kk
      have hst : List.map (pTr base sp) (Value.ref (gN M) :: r) = .ref H.size :: r.map (pTr base sp) := by
        rw [List.map_cons, hsz]; show Value.ref (pAd base sp (gN M)) :: _ = _; rw [had]
      rw [hst] at kk
      obtain ⟨own, hown, hty⟩ := hown
      rcases hty with ⟨rfl, hd, ha⟩ | ⟨rfl, hd, ha⟩ | ⟨rfl, idx, hd, hl, ha⟩
      · refine va_newaK (atype := .int) hx hb ha rfl hd rfl hn rfl (by show _ * 4 ≤ _; omega) hc hs rfl fun H1 cA e1 z1 o1 hAr hNm => ?_
        refine kk H1 (hR.push z1 o1 hN (fun _ => Or.inr (Or.inl ⟨rfl, Nat.lt_succ_self _, cA, hAr, hNm, ?_⟩)))
        rw [← hsz, e1]
        simp only [gI, nw, upR_eq]
        rfl
      · refine va_newaK (atype := .long) hx hb ha rfl hd rfl hn rfl (by show _ * 8 ≤ _; omega) hc hs rfl fun H1 cA e1 z1 o1 hAr hNm => ?_
        refine kk H1 (hR.push z1 o1 hN (fun _ => Or.inr (Or.inr (Or.inl ⟨rfl, Nat.lt_succ_self _, cA, hAr, hNm, ?_⟩))))
        rw [← hsz, e1]
        simp only [gJ, nw, upR_eq]
        rfl
      · refine W.anew hx hb hown hl (va_AO.use ha) rfl hd rfl hn (by omega) hc hs fun cA kA comp f1 f2 f3 f4 => ?_
        generalize hH1 : H.push ({ cls := cA, slots := Array.replicate n.toNatClampNeg .null, vm := .none } : Cell) = H1
        have z1 : H1.size = H.size + 1 := by rw [← hH1, Array.size_push]
        have e1 : H1[H.size]? = some (arrV cA n.toNatClampNeg (fun _ => .null)) := by rw [← hH1, Array.getElem?_push_size, ← arrV_new]
        have o1 : ∀ q : Nat, q < H.size → H1[q]? = H[q]? := fun q hq => by rw [← hH1, Array.getElem?_push, if_neg (Nat.ne_of_lt hq)]
        refine kk H1 (hR.push z1 o1 hN (fun _ => Or.inr (Or.inr (Or.inr (Or.inl ⟨rfl, Nat.lt_succ_self _, cA, fun N z => ⟨(fun k h => by cases h), kA, f2, comp, f3⟩, ⟨kA, comp, f2, f3, f4, f1⟩, ?_⟩)))))
        rw [← hsz, e1]
        simp only [gP, nw, upR_eq]
        rfl
    · cases h
  · cases h
theorem simNewAM {t : Nat} (h : pNewA (ls, st, M) t = some (.inl (ls', st', M'))) : ls' = ls ∧ gN M' = gN M + 1 ∧ gL M ≤ gL M' := by
  unfold pNewA at h
  dsimp only at h
  repeat' split at h
  all_goals first | (cases h; exact ⟨rfl, rfl, Nat.le_add_right _ _⟩) | cases h
theorem pTy_dec : ∀ t, t < 13 → ∀ j, j < 30 → (pRefTy (pTy t j) = true ∨ pTy t j = .int ∨ pTy t j = .boolean) := by decide +kernel
theorem cl_dec : ∀ t, t < 12 → ∀ r, vwCl[t]? = some r → r.2.2 < 30 := by
  intro t ht r hr
  have : t = 0 ∨ t = 1 ∨ t = 2 ∨ t = 3 ∨ t = 4 ∨ t = 5 ∨ t = 6 ∨ t = 7 ∨ t = 8 ∨ t = 9 ∨ t = 10 ∨ t = 11 := by omega
  rcases this with rfl | rfl | rfl | rfl | rfl | rfl | rfl | rfl | rfl | rfl | rfl | rfl <;> cases hr <;> decide
theorem pTy_small {t j : Nat} {r : vw_C} (ht : 1 ≤ t) (hr : vwCl[t - 1]? = some r) (hj : j < r.2.2) : pRefTy (pTy t j) = true ∨ pTy t j = .int ∨ pTy t j = .boolean := by
  have h12 := RelH.kcl hr
  exact pTy_dec t (by omega) j (Nat.lt_trans hj (cl_dec (t - 1) (by omega) r hr))
/-- a new object -/
theorem simNew {own : String} {idx t : Nat} {r : vw_C} (hx : p.tables.exec = Jvm.exec) (hb : c.code = cc) (hd : decode cc pc = .ok (.new idx, 3)) (hown : s.vm.findClass own = some m.cls) (hts : ∀ w ∈ GW, w.before args s = true) (ht : 1 ≤ t) (hr : vwCl[t - 1]? = some r) (hl : (Cond.classLink own idx r.1).before args s = true) (hi : (Cond.instantiable r.1 r.2.2).before args s = true) (hini : (Cond.initialized r.1).before args s = true)
    (hR : RelH D base sp s0 L xs s M H) (hN : gN M < 900000) (hc : cells + 1 ≤ R.cells) (hs : slots + r.2.2 ≤ R.slots)
    (kk : ∀ (H1 : Heap), RelH D base sp s0 L xs s (nw M t 0 r.2.2) H1 → W p l e R s m args below meth c H1 locs (cells + 1) (slots + r.2.2) Q (F0 m (pc + 3) Ls ((Value.ref (gN M) :: st).map (pTr base sp)))) : W p l e R s m args below meth c H locs cells slots Q (F0 m pc Ls (st.map (pTr base sp))) := by
  have hsz : H.size = base + gN M := hR.1.1
  have had : pAd base sp (gN M) = base + gN M := if_pos hN
  have hKn := hR.2.2.2.1.1 (t - 1) _ hr
  obtain ⟨c1, c2, c3⟩ := cl_ok _ _ ht hr
  refine W.newcK hx hb hown hl hi hini rfl hd hc hs hKn.2.1 rfl fun H1 kC hkC e1 z1 o1 => ?_
  have hst : List.map (pTr base sp) (Value.ref (gN M) :: st) = .ref H.size :: st.map (pTr base sp) := by
    rw [List.map_cons, hsz]; show Value.ref (pAd base sp (gN M)) :: _ = _; rw [had]
  rw [hst] at kk
  refine kk H1 (hR.push z1 o1 hN (fun _ => Or.inl ⟨ht, Nat.lt_succ_self _, r, hr, ?_⟩))
  rw [← hsz]
  refine (u_born (pTy t) hts c3 hKn hkC e1 c1).to fun j hj => ?_
  unfold pFV
  simp only [gP, gI, nw, upR_eq]
  rcases pTy_small ht hr hj with q | q | q
  · revert q
    cases pTy t j <;> intro q <;> first | rfl | cases q
  · rw [q]; rfl
  · rw [q]; rfl
/-- System.arraycopy of ints, between two arrays -/
theorem simCpy {own : String} {idx : Nat} (h : pCpy (ls, st, M) = some (.inl (ls', st', M'))) (hx : p.tables.exec = Jvm.exec) (hb : c.code = cc) (hml : c.maxLocals = Ls.size) (hd : decode cc pc = .ok (.invokestatic idx, 3)) (hown : s.vm.findClass own = some m.cls) (hlink : (Cond.methodLink own idx arraycopyName).before args s = true) (hnat : (Cond.native arraycopyName).before args s = true) (hstat : (Cond.static arraycopyName).before args s = true) (hini : (Cond.initialized "java/lang/System").before args s = true)
    (hR : RelH D base sp s0 L xs s M H) (hframes : 1 ≤ R.frames) (hlocals : 8 + (nativeFrameWords "java/lang/System" "arraycopy" 5 + 11) ≤ R.locals)
    (kk : ∀ (H1 : Heap) (locs1 : List Loc), (∀ z ∈ locs1, z ∈ locs ∨ base ≤ z.base) → RelH D base sp s0 L xs s M' H1 → W p l e R s m args below meth c H1 locs1 cells slots Q (F0 m (pc + 3) Ls (st'.map (pTr base sp)))) : W p l e R s m args below meth c H locs cells slots Q (F0 m pc Ls (st.map (pTr base sp))) := by
  unfold pCpy at h
  dsimp only at h
  split at h
  · rename_i n dp bb sq aa r
    split at h
    · rename_i hg
      obtain ⟨ta, tb, hne, i1, i2, i3, i4, i5, i6⟩ := hg
      cases h
      have hsa : gS M aa = (100, (gS M aa).2) := by rw [← ta]
      have hsb : gS M bb = (100, (gS M bb).2) := by rw [← tb]
      obtain ⟨hka, c0, a1, a2, a3⟩ := hR.ia hsa
      obtain ⟨hkb, c1, b1, b2, b3⟩ := hR.ia hsb
      show W p l e R s m args below meth c H locs cells slots Q (F0 m pc Ls (.int n :: .int dp :: .ref (pAd base sp bb) :: .int sq :: .ref (pAd base sp aa) :: st'.map (pTr base sp)))
      rw [hR.ad hka, hR.ad hkb]
      have nn : ∀ z : Int32, 0 ≤ z.toInt → ¬ z < 0 ∧ z.toInt = (z.toNatClampNeg : Int) := by
        intro z hz
        refine ⟨fun q => by have := Int32.lt_iff_toInt_lt.mp q; have h0 : (0 : Int32).toInt = 0 := rfl; omega, ?_⟩
        show z.toInt = ((z.toInt.toNat : Nat) : Int)
        omega
      obtain ⟨j1, e1⟩ := nn sq i1
      obtain ⟨j2, e2⟩ := nn dp i2
      obtain ⟨j3, e3⟩ := nn n i3
      unfold pIx at i4 i5
      obtain ⟨-, k0, hk0, cm0, hkk0⟩ := a1 (gS M aa).2 (fun j => .int (gI M aa j))
      obtain ⟨-, k1, hk1, cm1, hkk1⟩ := b1 (gS M bb).2 (fun j => .int (gI M bb j))
      intro T hT X
      have hrm : ((st'.map (pTr base sp)).map fun v => v.category).sum ≤ 8 := by
        rw [List.map_map]
        have : (Value.category ∘ pTr base sp) = fun v => v.category := by funext v; exact pTr_cat' v
        rw [show ((fun v => Value.category v) ∘ pTr base sp) = fun v => v.category from this]
        exact i6
      obtain ⟨vm', X', step⟩ := X.arraycopy hx hown hlink hnat hstat hini (src := base + aa) (dst := base + bb) (cs := arrV c0 (gS M aa).2 (fun j => .int (gI M aa j))) (cd := arrV c1 (gS M bb).2 (fun j => .int (gI M bb j))) (srcPos := sq) (destPos := dp) (n := n) (by rw [hT]; exact a3) (by rw [hT]; exact b3)
        (fun _ h => by cases h) (fun _ h => by cases h) (fun h => by cases h) (fun h => by cases h) hk0 hk1 hkk0 hkk1 (by decide) j1 j2 j3
        (by rw [e1, e3]; show ¬ _ > ((arrV c0 (gS M aa).2 (fun j => .int (gI M aa j))).slots.size : Int); rw [arrV_size]; omega)
        (by rw [e2, e3]; show ¬ _ > ((arrV c1 (gS M bb).2 (fun j => .int (gI M bb j))).slots.size : Int); rw [arrV_size]; omega)
        (fun vm₁ _ i hi => by
          have e : (arrV c0 (gS M aa).2 (fun j => Value.int (gI M aa j))).slots.getD (sq.toNatClampNeg + i) .null = .int (gI M aa (sq.toNatClampNeg + i)) := by
            rw [Array.getD_eq_getD_getElem?, arrV_read _ _ (by omega)]
            rfl
          refine ⟨?_, ?_⟩
          · rw [e]; rfl
          · rw [e]
            exact trivial)
        (g := F0 m pc Ls (.int n :: .int dp :: .ref (base + bb) :: .int sq :: .ref (base + aa) :: st'.map (pTr base sp))) rfl (by rw [hml]) (rest := st'.map (pTr base sp)) rfl (by rw [hb]; exact hd) hframes (by show 2 * 0 + _ + _ ≤ _; omega)
      have ec : copied (vp_cell c0 ((gS M aa).2, .inl (gI M aa))) (vp_cell c1 ((gS M bb).2, .inl (gI M bb))) sq dp n = vp_cell c1 ((gS M bb).2, .inl (va_cpy (gI M aa) (gI M bb) sq.toNatClampNeg dp.toNatClampNeg n.toNatClampNeg)) := va_copied (fun z => .int z) c0 c1 (gI M aa) (gI M bb) i4
      rw [vp_cell_i, vp_cell_i, vp_cell_i] at ec
      rw [ec] at X' step
      have hl : base + bb < H.size := (Array.getElem?_eq_some_iff.mp b3).1
      generalize hcell : arrV c1 (gS M bb).2 (fun j => Value.int (va_cpy (gI M aa) (gI M bb) sq.toNatClampNeg dp.toNatClampNeg n.toNatClampNeg j)) = cell at X' step
      have hheap : ((T.setVm vm').setCell (base + bb) cell).heap = H.setIfInBounds (base + bb) cell := by rw [← hT]; rfl
      have oq : ∀ q : Nat, q ≠ base + bb → (H.setIfInBounds (base + bb) cell)[q]? = H[q]? := fun q hq => by simp [Array.getElem?_setIfInBounds, Ne.symm hq]
      have hR' : RelH D base sp s0 L xs s (sR M bb (va_cpy (gI M aa) (gI M bb) (pIx sq) (pIx dp) (pIx n))) (H.setIfInBounds (base + bb) cell) := by
        refine hR.put hsb (by omega) (by simp) oq rfl rfl (fun k' j' n' => by simp only [gI, sR, upR, if_neg n']) (fun _ _ _ => rfl) (fun _ _ _ => rfl) (Or.inr (Or.inl ⟨rfl, hkb, c1, b1, b2, ?_⟩))
        rw [show (H.setIfInBounds (base + bb) cell)[base + bb]? = some cell by simp [Array.getElem?_setIfInBounds, hl], ← hcell]
        simp only [gI, sR, upR_eq]
        rfl
      obtain ⟨t, t1, t2⟩ := kk _ _ (fun z hz => by
        rcases List.mem_append.mp hz with q | q
        · exact Or.inl q
        · obtain ⟨z', -, hz'⟩ := List.mem_map.mp q
          rw [← hz']
          exact Or.inr (Nat.le_add_right _ _)) hR' _ hheap X'
      exact ⟨t, step t t1, t2⟩
    · cases h
  · cases h
theorem simCpyM (h : pCpy (ls, st, M) = some (.inl (ls', st', M'))) : ls' = ls ∧ gN M' = gN M ∧ gL M' = gL M := by
  unfold pCpy at h
  repeat' split at h
  all_goals first | (cases h; exact ⟨rfl, rfl, rfl⟩) | cases h
end SI
