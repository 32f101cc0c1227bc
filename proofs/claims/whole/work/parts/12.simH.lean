/-! arrays -/
section SH
variable {p : Program} {l : Launch} {e : Env} {R : Room} {s : State} {m : MethodId} {args : Array Value} {below : List Frame} {meth : Method} {c : Code} {H : Heap} {locs : List Loc} {cells slots : Nat} {Q : State → Prop}
variable {D : va_G} {base : Nat} {sp : Nat → Nat} {s0 : State} {L : Nat} {xs : Nat → Int32} {cc : ByteArray} {pc : Nat} {Ls : Array Slot} {ls ls' : pLo} {st st' : List Value} {M M' : pMem}
theorem pIn_vp {i : Int32} {n : Nat} (h : pIn i n = true) : vp_in i n := vp_in_iff.mpr (of_decide_eq_true h)
theorem K1 {cA : ClassId} {ty : FieldType} (hK : va_K D vwCl [] s) (h1 : ArrOfT s cA ty) (h2 : va_RA s cA ty) : va_K D vwCl [(cA, ty)] s := by
  refine ⟨hK.1, fun k q hq => ?_⟩
  cases k with
  | zero => simp at hq; subst hq; exact ⟨h1, h2⟩
  | succ k => simp at hq
theorem P1 {a : Nat} {en : va_E} (h : va_at D vwCl (a, en) H) : va_P D vwCl [(a, en)] H := by
  intro k q hq
  cases k with
  | zero => simp at hq; subst hq; exact h
  | succ k => simp at hq
/-- the script's cell, that is older than the law's own -/
def scOK (base : Nat) (sp : Nat → Nat) (s0 : State) (L : Nat) (xs : Nat → Int32) : Prop := va_X (sp 0) L xs s0 s0.heap ∧ sp 0 < base ∧ L < 1000000
theorem simALd (h : pALd (ls, st, M) = some (.inl (ls', st', M'))) (hd : decode cc pc = .ok (.iaload, 1)) (hx : p.tables.exec = Jvm.exec) (hb : c.code = cc) (hR : RelH D base sp s0 L xs s M H) (hsc : scOK base sp s0 L xs)
    (kk : W p l e R s m args below meth c H locs cells slots Q (F0 m (pc + 1) Ls (st'.map (pTr base sp)))) : W p l e R s m args below meth c H locs cells slots Q (F0 m pc Ls (st.map (pTr base sp))) := by
  unfold pALd at h
  dsimp only at h
  split at h
  · rename_i i hh r
    split at h
    · rename_i hg
      obtain ⟨ht, hi⟩ := hg
      cases h
      rcases ht with ht | ht
      · obtain ⟨hk, cA, h1, h2, h3⟩ := hR.ia (k := hh) (n := (gS M hh).2) (by rw [← ht])
        show W p l e R s m args below meth c H locs cells slots Q (F0 m pc Ls (.int i :: .ref (pAd base sp hh) :: r.map (pTr base sp)))
        rw [hR.ad hk]
        exact va_iald (D := D) (cl := vwCl) (ws := [(base + hh, .inl (cA, (gS M hh).2, .inl (gI M hh)))]) hx hb (K1 hR.2.2.2.1 h1 h2) (P1 h3) 0 0 rfl rfl (pIn_vp hi) hd kk
      · obtain ⟨hk, hn, hz⟩ := hR.sc (k := hh) (n := (gS M hh).2) (by rw [← ht])
        subst hk
        show W p l e R s m args below meth c H locs cells slots Q (F0 m pc Ls (.int i :: .ref (sp 0) :: r.map (pTr base sp)))
        obtain ⟨⟨scr, a1, a2, a3, a4, a5⟩, b1, b2⟩ := hsc
        have hin := pIn_vp hi
        have hlt : i.toNatClampNeg < (gS M 900000).2 := Nat.not_le.mp fun q => hin (Or.inr q)
        have e5 := a5 i.toNatClampNeg (by omega)
        rw [← hz _ hlt] at e5
        exact W.iald (v := .int (gI M 900000 i.toNatClampNeg)) hx hb (by rw [hR.2.1 _ b1]; exact a1) (State.isArrayOf_alike hR.2.2.1 a2) a3 (by rw [a4, ← hn]; exact hin) e5 rfl rfl hd kk
    · cases h
  · cases h
theorem simALdM (h : pALd (ls, st, M) = some (.inl (ls', st', M'))) : ls' = ls ∧ M' = M := by
  unfold pALd at h
  repeat' split at h
  all_goals first | (cases h; exact ⟨rfl, rfl⟩) | cases h
theorem simLen (h : pLen (ls, st, M) = some (.inl (ls', st', M'))) (hd : decode cc pc = .ok (.arraylength, 1)) (hx : p.tables.exec = Jvm.exec) (hb : c.code = cc) (hR : RelH D base sp s0 L xs s M H) (hsc : scOK base sp s0 L xs)
    (kk : W p l e R s m args below meth c H locs cells slots Q (F0 m (pc + 1) Ls (st'.map (pTr base sp)))) : W p l e R s m args below meth c H locs cells slots Q (F0 m pc Ls (st.map (pTr base sp))) := by
  unfold pLen at h
  dsimp only at h
  split at h
  · rename_i hh r
    split at h
    · rename_i hg
      cases h
      have ht : (gS M hh).1 = 100 ∨ (gS M hh).1 = 101 ∨ (gS M hh).1 = 102 ∨ (gS M hh).1 = 103 := by omega
      rcases ht with ht | ht | ht | ht
      · obtain ⟨hk, cA, h1, h2, h3⟩ := hR.ia (k := hh) (n := (gS M hh).2) (by rw [← ht])
        show W p l e R s m args below meth c H locs cells slots Q (F0 m pc Ls (.ref (pAd base sp hh) :: r.map (pTr base sp)))
        rw [hR.ad hk]
        exact W.alen hx hb h3 (h1 _ _) (by rw [arrV_size]; rfl) rfl rfl hd kk
      · obtain ⟨hk, cA, h1, h2, h3⟩ := hR.la (k := hh) (n := (gS M hh).2) (by rw [← ht])
        show W p l e R s m args below meth c H locs cells slots Q (F0 m pc Ls (.ref (pAd base sp hh) :: r.map (pTr base sp)))
        rw [hR.ad hk]
        exact W.alen hx hb h3 (h1 _ _) (by rw [arrV_size]; rfl) rfl rfl hd kk
      · obtain ⟨hk, cA, h1, h2, h3⟩ := hR.qa (k := hh) (n := (gS M hh).2) (by rw [← ht])
        show W p l e R s m args below meth c H locs cells slots Q (F0 m pc Ls (.ref (pAd base sp hh) :: r.map (pTr base sp)))
        rw [hR.ad hk]
        exact W.alen hx hb h3 (h1 _ _) (by rw [arrV_size]; rfl) rfl rfl hd kk
      · obtain ⟨hk, hn, hz⟩ := hR.sc (k := hh) (n := (gS M hh).2) (by rw [← ht])
        subst hk
        show W p l e R s m args below meth c H locs cells slots Q (F0 m pc Ls (.ref (sp 0) :: r.map (pTr base sp)))
        obtain ⟨⟨scr, a1, a2, a3, a4, a5⟩, b1, b2⟩ := hsc
        exact W.alen hx hb (by rw [hR.2.1 _ b1]; exact a1) (State.isArrayOf_alike hR.2.2.1 a2) (by rw [a4, ← hn]; rfl) rfl rfl hd kk
    · cases h
  · cases h
theorem simLenM (h : pLen (ls, st, M) = some (.inl (ls', st', M'))) : ls' = ls ∧ M' = M := by
  unfold pLen at h
  repeat' split at h
  all_goals first | (cases h; exact ⟨rfl, rfl⟩) | cases h
theorem simASt (h : pASt (ls, st, M) = some (.inl (ls', st', M'))) (hd : decode cc pc = .ok (.iastore, 1)) (hx : p.tables.exec = Jvm.exec) (hb : c.code = cc) (hR : RelH D base sp s0 L xs s M H)
    (kk : ∀ (H1 : Heap) (l1 : Loc), base ≤ l1.base → RelH D base sp s0 L xs s M' H1 → W p l e R s m args below meth c H1 (locs ++ [l1]) cells slots Q (F0 m (pc + 1) Ls (st'.map (pTr base sp)))) : W p l e R s m args below meth c H locs cells slots Q (F0 m pc Ls (st.map (pTr base sp))) := by
  unfold pASt at h
  dsimp only at h
  split at h
  · rename_i x i hh r
    split at h
    · rename_i hg
      obtain ⟨ht, hi⟩ := hg
      cases h
      have hs : gS M hh = (100, (gS M hh).2) := by rw [← ht]
      obtain ⟨hk, cA, h1, h2, h3⟩ := hR.ia hs
      show W p l e R s m args below meth c H locs cells slots Q (F0 m pc Ls (.int x :: .int i :: .ref (pAd base sp hh) :: st'.map (pTr base sp)))
      rw [hR.ad hk]
      refine W.iast hx hb h3 (h1 _ _) (fun q => by cases q) (by rw [arrV_size]; exact pIn_vp hi) rfl rfl hd fun H1 e1 e2 e3 => ?_
      refine kk H1 _ (Nat.le_add_right _ _) (hR.put hs (by omega) e2 e3 rfl rfl (fun k' j' n => up2_ne n) (fun _ _ _ => rfl) (fun _ _ _ => rfl) (Or.inr (Or.inl ⟨rfl, hk, cA, h1, h2, ?_⟩)))
      rw [e1, arrV_store]
      congr 2
      funext q
      by_cases hq : q = i.toNatClampNeg
      · subst hq
        simp [updV, gI, sI, up2, pIx]
      · have : ¬ q = pIx i := hq
        simp [updV, gI, sI, up2, hq, this]
    · cases h
  · cases h
theorem simAStM (h : pASt (ls, st, M) = some (.inl (ls', st', M'))) : ls' = ls ∧ gN M' = gN M ∧ gL M' = gL M := by
  unfold pASt at h
  repeat' split at h
  all_goals first | (cases h; exact ⟨rfl, rfl, rfl⟩) | cases h
theorem simLLd (h : pLLd (ls, st, M) = some (.inl (ls', st', M'))) (hd : decode cc pc = .ok (.laload, 1)) (hx : p.tables.exec = Jvm.exec) (hb : c.code = cc) (hR : RelH D base sp s0 L xs s M H)
    (kk : W p l e R s m args below meth c H locs cells slots Q (F0 m (pc + 1) Ls (st'.map (pTr base sp)))) : W p l e R s m args below meth c H locs cells slots Q (F0 m pc Ls (st.map (pTr base sp))) := by
  unfold pLLd at h
  dsimp only at h
  split at h
  · rename_i i hh r
    split at h
    · rename_i hg
      obtain ⟨ht, hi⟩ := hg
      cases h
      obtain ⟨hk, cA, h1, h2, h3⟩ := hR.la (k := hh) (n := (gS M hh).2) (by rw [← ht])
      show W p l e R s m args below meth c H locs cells slots Q (F0 m pc Ls (.int i :: .ref (pAd base sp hh) :: r.map (pTr base sp)))
      rw [hR.ad hk]
      exact va_lald (D := D) (cl := vwCl) (ws := [(base + hh, .inl (cA, (gS M hh).2, .inr (.inl (gJ M hh))))]) hx hb (K1 hR.2.2.2.1 h1 h2) (P1 h3) 0 0 rfl rfl (pIn_vp hi) hd kk
    · cases h
  · cases h
theorem simLLdM (h : pLLd (ls, st, M) = some (.inl (ls', st', M'))) : ls' = ls ∧ M' = M := by
  unfold pLLd at h
  repeat' split at h
  all_goals first | (cases h; exact ⟨rfl, rfl⟩) | cases h
theorem simLSt (h : pLSt (ls, st, M) = some (.inl (ls', st', M'))) (hd : decode cc pc = .ok (.lastore, 1)) (hx : p.tables.exec = Jvm.exec) (hb : c.code = cc) (hR : RelH D base sp s0 L xs s M H)
    (kk : ∀ (H1 : Heap) (l1 : Loc), base ≤ l1.base → RelH D base sp s0 L xs s M' H1 → W p l e R s m args below meth c H1 (locs ++ [l1]) cells slots Q (F0 m (pc + 1) Ls (st'.map (pTr base sp)))) : W p l e R s m args below meth c H locs cells slots Q (F0 m pc Ls (st.map (pTr base sp))) := by
  unfold pLSt at h
  dsimp only at h
  split at h
  · rename_i x i hh r
    split at h
    · rename_i hg
      obtain ⟨ht, hi⟩ := hg
      cases h
      have hs : gS M hh = (101, (gS M hh).2) := by rw [← ht]
      obtain ⟨hk, cA, h1, h2, h3⟩ := hR.la hs
      show W p l e R s m args below meth c H locs cells slots Q (F0 m pc Ls (.long x :: .int i :: .ref (pAd base sp hh) :: st'.map (pTr base sp)))
      rw [hR.ad hk]
      refine W.last hx hb h3 (h1 _ _) (fun q => by cases q) (by rw [arrV_size]; exact pIn_vp hi) rfl rfl hd fun H1 e1 e2 e3 => ?_
      refine kk H1 _ (Nat.le_add_right _ _) (hR.put hs (by omega) e2 e3 rfl rfl (fun _ _ _ => rfl) (fun _ _ _ => rfl) (fun k' j' n => up2_ne n) (Or.inr (Or.inr (Or.inl ⟨rfl, hk, cA, h1, h2, ?_⟩))))
      rw [e1, arrV_store]
      congr 2
      funext q
      by_cases hq : q = i.toNatClampNeg
      · subst hq
        simp [updV, gJ, sJ, up2, pIx]
      · have : ¬ q = pIx i := hq
        simp [updV, gJ, sJ, up2, hq, this]
    · cases h
  · cases h
theorem simLStM (h : pLSt (ls, st, M) = some (.inl (ls', st', M'))) : ls' = ls ∧ gN M' = gN M ∧ gL M' = gL M := by
  unfold pLSt at h
  repeat' split at h
  all_goals first | (cases h; exact ⟨rfl, rfl, rfl⟩) | cases h
theorem pTr_rf (o : Option Nat) : pTr base sp (pRf o) = va_rf (o.map (pAd base sp)) := by cases o <;> rfl
theorem simQLd (h : pQLd (ls, st, M) = some (.inl (ls', st', M'))) (hd : decode cc pc = .ok (.aaload, 1)) (hx : p.tables.exec = Jvm.exec) (hb : c.code = cc) (hR : RelH D base sp s0 L xs s M H)
    (kk : W p l e R s m args below meth c H locs cells slots Q (F0 m (pc + 1) Ls (st'.map (pTr base sp)))) : W p l e R s m args below meth c H locs cells slots Q (F0 m pc Ls (st.map (pTr base sp))) := by
  unfold pQLd at h
  dsimp only at h
  split at h
  · rename_i i hh r
    split at h
    · rename_i hg
      obtain ⟨ht, hi⟩ := hg
      cases h
      obtain ⟨hk, cA, h1, h2, h3⟩ := hR.qa (k := hh) (n := (gS M hh).2) (by rw [← ht])
      show W p l e R s m args below meth c H locs cells slots Q (F0 m pc Ls (.int i :: .ref (pAd base sp hh) :: r.map (pTr base sp)))
      rw [hR.ad hk]
      have h3' : H[base + hh]? = some (vp_cell cA ((gS M hh).2, .inr (.inr (.inr (.inr fun j => (gP M hh j).map (pAd base sp)))))) := by
        rw [h3, vp_cell_q]
        simp only [pTr_rf]
      refine va_aldq (D := D) (cl := vwCl) (ws := [(base + hh, .inl (cA, (gS M hh).2, .inr (.inr (.inr (.inr fun j => (gP M hh j).map (pAd base sp))))))]) hx hb (K1 hR.2.2.2.1 h1 h2) (P1 h3') 0 0 rfl rfl (pIn_vp hi) hd ?_
      rw [List.map_cons, pTr_rf] at kk
      exact kk
    · cases h
  · cases h
theorem simQLdM (h : pQLd (ls, st, M) = some (.inl (ls', st', M'))) : ls' = ls ∧ M' = M := by
  unfold pQLd at h
  repeat' split at h
  all_goals first | (cases h; exact ⟨rfl, rfl⟩) | cases h
end SH
