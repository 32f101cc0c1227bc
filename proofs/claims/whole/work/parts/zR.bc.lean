/-! the two members of the JDK that the pure law only names: their contracts -/
theorem bc_byt : ∀ j, j < 46 → ∀ k, k < pLens.getD j 0 → (((pByts.getD j []).getD k 0 &&& 255).toUInt32 % 65536).toInt32 = (pByts.getD j []).getD k 0 ∧ narrow .char (.int ((pByts.getD j []).getD k 0)) = .int ((pByts.getD j []).getD k 0) := by decide +kernel
theorem bc_len : ∀ j, j < 46 → pLens.getD j 0 < 100000 ∧ iN ((pLens.getD j 0 : Nat) : Int) = Int32.ofNat (pLens.getD j 0) := by decide +kernel
theorem bc_pad {base : Nat} {sp : Nat → Nat} {h : Nat} (h1 : 900001 ≤ h) : pAd base sp h = sp (1 + (h - 900001)) := by
  unfold pAd
  rw [if_neg (by omega), show h - 900000 = 1 + (h - 900001) from by omega]
theorem bc_lt {h : Nat} (h1 : 900001 ≤ h ∧ h < 900047) : h - 900001 < 46 := by omega
theorem bc_ix {i : Int32} {n : Nat} (h : pIn i n = true) : pIx i < n := by
  have h := of_decide_eq_true h
  show i.toInt.toNat < n
  omega
theorem hBC_all {D : va_G} {sp adV : Nat → Nat} {s : State} {L : Nat} {xs : Nat → Int32} {l : Launch} (z : Nat) (f : pInf) (as : List Value) (M : pMem) (o : pOut) (M' : pMem) (d : Nat) (_ : pG[z]? = none) (hf : pI[z]? = some f) (hB : pB0 z as M = some (o, M')) : ∃ v, o = .inl v ∧ ConR D s.heap.size sp s L xs pStrs pLens pByts adV pNcs l f (d + 1) as M v M' := by
  unfold pB0 at hB
  split at hB
  · rename_i e9
    subst e9
    cases (show pI[280]? = some f_280 from rfl).symm.trans hf
    split at hB
    · rename_i h
      split at hB
      · rename_i hg
        cases hB
        refine ⟨_, rfl, ?_⟩
        unfold ConR
        rw [Nat.sub_self, Nat.sub_self, wY_nil rfl]
        intro p e ha hc hk s1 m args below hf1 happ hP hK
        have hP : va_Pc [.ref (pAd s.heap.size sp h)] (fun U => RelH D s.heap.size sp s L xs U M U.heap ∧ pSide s.heap.size sp pStrs pLens pByts adV pNcs U) args s1 := hP
        have hr := hP.2.1.str (k := h) (n := (gS M h).2) (by rw [← hg])
        rw [bc_pad hr.1] at hP
        have hj := bc_lt hr
        rw [(bc_len _ hj).2]
        exact (j_len (l := l) (M := M) (j := h - 900001) d (by rw [show pLens.length = 46 from by decide +kernel]; exact hj)) p e ha hc hk s1 m args below hf1 happ hP hK
      · cases hB
    · cases hB
  · split at hB
    · rename_i e9
      subst e9
      cases (show pI[281]? = some f_281 from rfl).symm.trans hf
      split at hB
      · rename_i h i
        split at hB
        · rename_i hg
          cases hB
          refine ⟨_, rfl, ?_⟩
          unfold ConR
          rw [Nat.sub_self, Nat.sub_self, wY_nil rfl]
          intro p e ha hc hk s1 m args below hf1 happ hP hK
          have hP : va_Pc [.ref (pAd s.heap.size sp h), .int i] (fun U => RelH D s.heap.size sp s L xs U M U.heap ∧ pSide s.heap.size sp pStrs pLens pByts adV pNcs U) args s1 := hP
          have hr := hP.2.1.str (k := h) (n := (gS M h).2) (by rw [← hg.1])
          rw [bc_pad hr.1] at hP
          have hj := bc_lt hr
          have hb := bc_byt _ hj (pIx i) (bc_ix hg.2)
          exact (j_chr (l := l) (M := M) (j := h - 900001) d (by rw [show pLens.length = 46 from by decide +kernel]; exact hj) hg.2 (bc_len _ hj).1 hb.1 hb.2) p e ha hc hk s1 m args below hf1 happ hP hK
        · cases hB
      · cases hB
    · cases hB
