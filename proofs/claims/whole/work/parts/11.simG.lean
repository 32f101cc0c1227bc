section SG
variable {p : Program} {l : Launch} {e : Env} {R : Room} {s : State} {m : MethodId} {args : Array Value} {below : List Frame} {meth : Method} {c : Code} {H : Heap} {locs : List Loc} {cells slots : Nat} {Q : State → Prop}
variable {D : va_G} {base : Nat} {sp : Nat → Nat} {s0 : State} {L : Nat} {xs : Nat → Int32} {cc : ByteArray} {pc : Nat} {Ls : Array Slot} {ls ls' : pLo} {st st' : List Value} {M M' : pMem}
/-- one field of one object is written -/
theorem putRow {own mn : String} {idx k host p1 p2 t : Nat} {r : vw_C} {a : Nat} {V : Nat → Value} {v : Value} {rest : List Value} (hx : p.tables.exec = Jvm.exec) (hb : c.code = cc) (hd : decode cc pc = .ok (.putfield idx, 3)) (hown : s.vm.findClass own = some m.cls) (hmn : meth.name = mn) (hts : ∀ w ∈ GW, w.before args s = true) (hsw : ∀ w ∈ SW, va_Nw w s) (hK : va_K D vwCl [] s)
    (ht : 1 ≤ t) (hr : vwCl[t - 1]? = some r) (hk : k < r.2.2) (hl : pLkF own idx k host p1 p2 r = true) (hf : (r.2.1 k).2.2.2 = true → mn = "<init>" ∧ (r.2.1 k).1 = own ∧ host = 0) (hob : t_OB a (D.1 (t - 1)) r.2.2 (D.2 (t - 1)) H V) (hn : narrow (pTy t k) v = v) (hfit : fits (pTy t k) v = true)
    (kk : ∀ (H1 : Heap) (l1 : Loc), l1.base = a → H1.size = H.size → (∀ q, q ≠ a → H1[q]? = H[q]?) → t_OB a (D.1 (t - 1)) r.2.2 (D.2 (t - 1)) H1 (updV V k v) → W p l e R s m args below meth c H1 (locs ++ [l1]) cells slots Q (F0 m (pc + 3) Ls rest)) : W p l e R s m args below meth c H locs cells slots Q (F0 m pc Ls (v :: .ref a :: rest)) := by
  obtain ⟨c1, c2, c3⟩ := cl_ok _ _ ht hr
  obtain ⟨C, T, N⟩ := r
  have hap := va_apart (own := own) hts c3 (pTy t) c1 c2 hK hr
  obtain ⟨cell, q1, q2, q3, q4⟩ := hob
  obtain ⟨hS, hfc, kC, hkC, hkind⟩ := hK.1 (t - 1) _ hr
  obtain ⟨cf, kf, fi, f, hi, hsl⟩ := hS k hk
  have hlay := hts _ (c3 _ (u_in_lay hk))
  have hst := (u_facts hfc hkC (u_lays hts c3 hk) hi).1
  have hsz : f.slot < cell.slots.size := by rw [hsl]; exact k2_hasslot (q4 k hk)
  have fin : ∀ (H' : Heap), H'[a]? = some (cell.setSlot f.slot v) → t_OB a (D.1 (t - 1)) N (D.2 (t - 1)) H' (updV V k v) := by
    intro H' e1
    rw [hsl] at e1
    exact ⟨_, e1, q2, q3, t_set q4 hap hk v⟩
  by_cases hfin : (T k).2.2.2 = true
  · obtain ⟨hm, hdecl, h0⟩ := hf hfin
    unfold u_lay at hlay
    rw [if_pos hfin] at hlay
    have hcf : m.cls = cf := by
      obtain ⟨_, _, c', _, _, _, -, -, hf', -, -, -, hown2, -⟩ := Cond.laysFinal_spec hlay
      have e1 : c' = cf := by have := hi.symm.trans hf'; simp at this; exact this.1.symm
      rw [show (T k).1 = own from hdecl] at hown2
      rw [← e1]; exact Option.some.inj (hown.symm.trans hown2)
    have h6 := u_fits hfc hkC hkind (Or.inr hlay) hi (c1 k hk) hn hfit
    rcases pLkF_spec hts hsw hl with ⟨-, ref, hlk, hsame⟩ | ⟨h1, -⟩
    · refine W.putFinK hx hb hown hlk (hsame _ hi) hst hcf (by rw [hmn]; exact hm) (by rw [q2]; exact h6) q1 q3 hsz rfl rfl hd fun H' e1 e2 e3 => ?_
      exact kk H' _ rfl e2 e3 (fin H' e1)
    · omega
  · unfold u_lay at hlay
    rw [if_neg hfin] at hlay
    have h6 := u_store hfc hkC hkind hlay hi (c1 k hk) hn hfit
    rcases pLkF_spec hts hsw hl with ⟨-, ref, hlk, hsame⟩ | ⟨-, hs9, hlk⟩
    · refine W.putK hx hb (f := f) ⟨hown, hlk, ⟨_, _, _, hsame _ hi⟩, hst⟩ (by rw [q2]; exact h6) q1 q3 hsz rfl rfl hd fun H' e1 e2 e3 => ?_
      exact kk H' _ rfl e2 e3 (fin H' e1)
    · refine va_WputK hx hb (f := f) hown hlk hi hst (by rw [q2]; exact h6) q1 q3 hsz rfl rfl hd fun H' e1 e2 e3 => ?_
      exact kk H' _ rfl e2 e3 (fin H' e1)
theorem up2_ne {α : Type} {f : Nat → Nat → α} {h k a b : Nat} {x : α} (n : a ≠ h) : up2 f h k x a b = f a b := if_neg (fun q => n q.1)
theorem up2_eq {α : Type} {f : Nat → Nat → α} {h k : Nat} {x : α} : up2 f h k x h k = x := if_pos ⟨rfl, rfl⟩
theorem up2_ne2 {α : Type} {f : Nat → Nat → α} {h k a b : Nat} {x : α} (n : b ≠ k) : up2 f h k x a b = f a b := if_neg (fun q => n q.2)
theorem simPut {own mn : String} {idx : Nat} {an : List Nat} (h : pPut (ls, st, M) an = some (.inl (ls', st', M'))) (ok : pFd own mn true idx an = true) (hd : decode cc pc = .ok (.putfield idx, 3)) (hx : p.tables.exec = Jvm.exec) (hb : c.code = cc) (hown : s.vm.findClass own = some m.cls) (hmn : meth.name = mn) (hts : ∀ w ∈ GW, w.before args s = true) (hsw : ∀ w ∈ SW, va_Nw w s) (hR : RelH D base sp s0 L xs s M H)
    (kk : ∀ (H1 : Heap) (l1 : Loc), base ≤ l1.base → RelH D base sp s0 L xs s M' H1 → W p l e R s m args below meth c H1 (locs ++ [l1]) cells slots Q (F0 m (pc + 3) Ls (st'.map (pTr base sp)))) : W p l e R s m args below meth c H locs cells slots Q (F0 m pc Ls (st.map (pTr base sp))) := by
  unfold pPut at h
  split at h
  · rename_i k rf host p1 p2 ts
    dsimp only at h
    split at h
    · rename_i x hh r
      split at h
      · rename_i htag
        obtain ⟨htag, hrf⟩ := htag
        simp only [pTag, List.contains_iff_mem] at htag
        have h1 := List.all_eq_true.mp ok _ htag
        unfold pFd1 at h1
        split at h1
        · cases h1
        · rename_i r0 hr0
          simp only [Bool.and_eq_true, decide_eq_true_eq, Bool.or_eq_true, Bool.not_eq_true', Bool.true_eq_false, false_or, Bool.not_true] at h1
          obtain ⟨⟨⟨⟨g1, g2⟩, g3⟩, g4⟩, g5⟩ := h1
          have hs : gS M hh = ((gS M hh).1, (gS M hh).2) := rfl
          have h12 := RelH.kcl hr0
          obtain ⟨hk, r1, hr1, hob⟩ := hR.obj hs g1 (by omega)
          cases hr0.symm.trans hr1
          cases h
          have hty : pRefTy (pTy (gS M hh).1 k) = false ∧ narrow (pTy (gS M hh).1 k) (.int x) = .int x ∧ fits (pTy (gS M hh).1 k) (.int x) = true := by
            rcases g3 with ⟨q1, rfl⟩ | ⟨q1, rfl⟩ | ⟨q1, rfl⟩
            · rcases hrf with q | ⟨q, -⟩ <;> cases q
            · rw [q1]; exact ⟨rfl, vp_nar_int x, rfl⟩
            · rcases hrf with q | ⟨-, rfl | rfl⟩
              · cases q
              · rw [q1]; exact ⟨rfl, rfl, rfl⟩
              · rw [q1]; exact ⟨rfl, rfl, rfl⟩
          show W p l e R s m args below meth c H locs cells slots Q (F0 m pc Ls (.int x :: .ref (pAd base sp hh) :: st'.map (pTr base sp)))
          rw [hR.ad hk]
          have hfin : (r0.2.1 k).2.2.2 = true → mn = "<init>" ∧ (r0.2.1 k).1 = own ∧ host = 0 := by
            intro q9
            rcases g5 with (g5 | g5) | g5
            · cases g5
            · rw [g5] at q9; cases q9
            · exact g5
          refine putRow hx hb hd hown hmn hts hsw hR.2.2.2.1 g1 hr0 g2 g4 hfin hob hty.2.1 hty.2.2 (fun H1 l1 e0 e1 e2 e3 => ?_)
          refine kk H1 l1 (by rw [e0]; exact Nat.le_add_right _ _) (hR.put hs (by omega) e1 e2 rfl rfl (fun k' j' n => up2_ne n) (fun _ _ _ => rfl) (fun _ _ _ => rfl) (Or.inl ⟨g1, hk, _, hr0, e3.to fun j hj => ?_⟩))
          unfold updV pFV
          by_cases ej : j = k
          · subst ej
            rw [if_pos rfl, hty.1]
            simp [gI, sI, up2]
          · rw [if_neg ej]
            simp only [gI, sI, up2_ne2 ej, gP]
      · cases h
    · rename_i q hh r
      split at h
      · rename_i htag
        obtain ⟨htag, hrf⟩ := htag
        simp only [pTag, List.contains_iff_mem] at htag
        have h1 := List.all_eq_true.mp ok _ htag
        unfold pFd1 at h1
        split at h1
        · cases h1
        · rename_i r0 hr0
          simp only [Bool.and_eq_true, decide_eq_true_eq, Bool.or_eq_true, Bool.not_eq_true', Bool.true_eq_false, false_or, Bool.not_true] at h1
          obtain ⟨⟨⟨⟨g1, g2⟩, g3⟩, g4⟩, g5⟩ := h1
          have hs : gS M hh = ((gS M hh).1, (gS M hh).2) := rfl
          have h12 := RelH.kcl hr0
          obtain ⟨hk, r1, hr1, hob⟩ := hR.obj hs g1 (by omega)
          cases hr0.symm.trans hr1
          cases h
          have hty : pRefTy (pTy (gS M hh).1 k) = true ∧ narrow (pTy (gS M hh).1 k) (.ref (pAd base sp q)) = .ref (pAd base sp q) ∧ fits (pTy (gS M hh).1 k) (.ref (pAd base sp q)) = true := by
            rcases g3 with ⟨q1, -⟩ | ⟨-, q2⟩ | ⟨-, q2⟩
            · revert q1
              cases pTy (gS M hh).1 k <;> intro q1 <;> first | exact ⟨rfl, rfl, rfl⟩ | cases q1
            · omega
            · omega
          show W p l e R s m args below meth c H locs cells slots Q (F0 m pc Ls (.ref (pAd base sp q) :: .ref (pAd base sp hh) :: st'.map (pTr base sp)))
          rw [hR.ad hk]
          have hfin : (r0.2.1 k).2.2.2 = true → mn = "<init>" ∧ (r0.2.1 k).1 = own ∧ host = 0 := by
            intro q9
            rcases g5 with (g5 | g5) | g5
            · cases g5
            · rw [g5] at q9; cases q9
            · exact g5
          refine putRow hx hb hd hown hmn hts hsw hR.2.2.2.1 g1 hr0 g2 g4 hfin hob hty.2.1 hty.2.2 (fun H1 l1 e0 e1 e2 e3 => ?_)
          refine kk H1 l1 (by rw [e0]; exact Nat.le_add_right _ _) (hR.put hs (by omega) e1 e2 rfl rfl (fun _ _ _ => rfl) (fun k' j' n => up2_ne n) (fun _ _ _ => rfl) (Or.inl ⟨g1, hk, _, hr0, e3.to fun j hj => ?_⟩))
          unfold updV pFV
          by_cases ej : j = k
          · subst ej
            rw [if_pos rfl, hty.1]
            simp [gP, sP, up2, pRf, pTr]
          · rw [if_neg ej]
            simp only [gI, sP, up2_ne2 ej, gP]
      · cases h
    · cases h
  · cases h
theorem simPutM {an : List Nat} (h : pPut (ls, st, M) an = some (.inl (ls', st', M'))) : ls' = ls ∧ gN M' = gN M ∧ gL M' = gL M := by
  unfold pPut at h
  repeat' split at h
  all_goals first | (cases h; exact ⟨rfl, rfl, rfl⟩) | cases h
end SG
