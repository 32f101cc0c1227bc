/-! EQUATIONS: one an instruction -/
section EQ
variable {d y : Nat} {es : List pEnt} {Q : pOut → pMem → Prop} {pc n : Nat} {an ts : List Nat} {ls : pLo} {st : List Value} {M : pMem}
theorem xr_if {k : Nat} {c : Prop} [Decidable c] {a b : Option pRes} : xr d y es k Q (if decide c = true then a else b) = ((c → xr d y es k Q a) ∧ (¬ c → xr d y es k Q b)) := by
  by_cases h : c
  · rw [if_pos (decide_eq_true h)]
    exact propext ⟨fun q => ⟨fun _ => q, fun q2 => absurd h q2⟩, fun q => q.1 h⟩
  · rw [if_neg (fun q => h (of_decide_eq_true q))]
    exact propext ⟨fun q => ⟨fun q2 => absurd q2 h, fun _ => q⟩, fun q => q.2 h⟩
theorem xr_g {k : Nat} {c : Prop} [Decidable c] {a : Option pRes} : xr d y es k Q (if c then a else none) = (c ∧ xr d y es k Q a) := by
  by_cases h : c
  · rw [if_pos h]
    exact propext ⟨fun q => ⟨h, q⟩, fun q => q.2⟩
  · rw [if_neg h]
    exact propext ⟨fun q => q.elim, fun q => absurd q.1 h⟩

theorem q_iconst {k : Int} : xw d y ((pc, .iconst k, n, an) :: es) (ls, st, M) Q = xw d y es (ls, .int (iN k) :: st, M) Q := by
  rw [xw_step]
  rfl
theorem q_bipush {k : Int} : xw d y ((pc, .bipush k, n, an) :: es) (ls, st, M) Q = xw d y es (ls, .int (iN k) :: st, M) Q := by
  rw [xw_step]
  rfl
theorem q_sipush {k : Int} : xw d y ((pc, .sipush k, n, an) :: es) (ls, st, M) Q = xw d y es (ls, .int (iN k) :: st, M) Q := by
  rw [xw_step]
  rfl
theorem q_lconst0 : xw d y ((pc, .lconst 0, n, an) :: es) (ls, st, M) Q = xw d y es (ls, .long 0 :: st, M) Q := by
  rw [xw_step]
  rfl
theorem q_lconst1 : xw d y ((pc, .lconst 1, n, an) :: es) (ls, st, M) Q = xw d y es (ls, .long 1 :: st, M) Q := by
  rw [xw_step]
  rfl
theorem q_null : xw d y ((pc, .aconst_null, n, an) :: es) (ls, st, M) Q = xw d y es (ls, .null :: st, M) Q := by
  rw [xw_step]
  rfl
theorem q_ldc_i {i a b : Nat} {r : List Nat} : xw d y ((pc, .ldc i, n, 0 :: a :: b :: r) :: es) (ls, st, M) Q = xw d y es (ls, .int (iN ((a : Int) - b)) :: st, M) Q := by
  rw [xw_step]
  rfl
theorem q_ldc_w_i {i a b : Nat} {r : List Nat} : xw d y ((pc, .ldc_w i, n, 0 :: a :: b :: r) :: es) (ls, st, M) Q = xw d y es (ls, .int (iN ((a : Int) - b)) :: st, M) Q := by
  rw [xw_step]
  rfl
theorem q_ldc_s {i h : Nat} : xw d y ((pc, .ldc i, n, [1, h]) :: es) (ls, st, M) Q = xw d y es (ls, .ref h :: st, M) Q := by
  rw [xw_step]
  rfl
theorem q_iload0 {x : Int32} : xw d y ((pc, .iload_n 0, n, an) :: es) (some (.int x) :: ls, st, M) Q = xw d y es (some (.int x) :: ls, .int x :: st, M) Q := by
  rw [xw_step]
  rfl
theorem q_aload0 {x : Nat} : xw d y ((pc, .aload_n 0, n, an) :: es) (some (.ref x) :: ls, st, M) Q = xw d y es (some (.ref x) :: ls, .ref x :: st, M) Q := by
  rw [xw_step]
  rfl
theorem q_aload0N : xw d y ((pc, .aload_n 0, n, an) :: es) (some .null :: ls, st, M) Q = xw d y es (some .null :: ls, .null :: st, M) Q := by
  rw [xw_step]
  rfl
theorem q_istore0 {b9 : Option Value} {x : Int32} : xw d y ((pc, .istore_n 0, n, an) :: es) (b9 :: ls, .int x :: st, M) Q = xw d y es (some (.int x) :: ls, st, M) Q := by
  rw [xw_step]
  show xr d y es _ Q (if 0 < (b9 :: ls : pLo).length then _ else none) = _
  rw [xr_g]
  exact propext ⟨fun q => q.2, fun q => ⟨by simp only [List.length_cons]; omega, q⟩⟩
theorem q_astore0 {b9 : Option Value} {x : Nat} : xw d y ((pc, .astore_n 0, n, an) :: es) (b9 :: ls, .ref x :: st, M) Q = xw d y es (some (.ref x) :: ls, st, M) Q := by
  rw [xw_step]
  show xr d y es _ Q (if 0 < (b9 :: ls : pLo).length then _ else none) = _
  rw [xr_g]
  exact propext ⟨fun q => q.2, fun q => ⟨by simp only [List.length_cons]; omega, q⟩⟩
theorem q_astore0N {b9 : Option Value} : xw d y ((pc, .astore_n 0, n, an) :: es) (b9 :: ls, .null :: st, M) Q = xw d y es (some .null :: ls, st, M) Q := by
  rw [xw_step]
  show xr d y es _ Q (if 0 < (b9 :: ls : pLo).length then _ else none) = _
  rw [xr_g]
  exact propext ⟨fun q => q.2, fun q => ⟨by simp only [List.length_cons]; omega, q⟩⟩
theorem q_iinc0 {x : Int32} {i : Int} : xw d y ((pc, .iinc 0 i, n, an) :: es) (some (.int x) :: ls, st, M) Q = xw d y es (some (.int (x + iN i)) :: ls, st, M) Q := by
  rw [xw_step]
  rfl
theorem q_iload1 {a0 : Option Value} {x : Int32} : xw d y ((pc, .iload_n 1, n, an) :: es) (a0 :: some (.int x) :: ls, st, M) Q = xw d y es (a0 :: some (.int x) :: ls, .int x :: st, M) Q := by
  rw [xw_step]
  rfl
theorem q_aload1 {a0 : Option Value} {x : Nat} : xw d y ((pc, .aload_n 1, n, an) :: es) (a0 :: some (.ref x) :: ls, st, M) Q = xw d y es (a0 :: some (.ref x) :: ls, .ref x :: st, M) Q := by
  rw [xw_step]
  rfl
theorem q_aload1N {a0 : Option Value} : xw d y ((pc, .aload_n 1, n, an) :: es) (a0 :: some .null :: ls, st, M) Q = xw d y es (a0 :: some .null :: ls, .null :: st, M) Q := by
  rw [xw_step]
  rfl
theorem q_istore1 {a0 : Option Value} {b9 : Option Value} {x : Int32} : xw d y ((pc, .istore_n 1, n, an) :: es) (a0 :: b9 :: ls, .int x :: st, M) Q = xw d y es (a0 :: some (.int x) :: ls, st, M) Q := by
  rw [xw_step]
  show xr d y es _ Q (if 1 < (a0 :: b9 :: ls : pLo).length then _ else none) = _
  rw [xr_g]
  exact propext ⟨fun q => q.2, fun q => ⟨by simp only [List.length_cons]; omega, q⟩⟩
theorem q_astore1 {a0 : Option Value} {b9 : Option Value} {x : Nat} : xw d y ((pc, .astore_n 1, n, an) :: es) (a0 :: b9 :: ls, .ref x :: st, M) Q = xw d y es (a0 :: some (.ref x) :: ls, st, M) Q := by
  rw [xw_step]
  show xr d y es _ Q (if 1 < (a0 :: b9 :: ls : pLo).length then _ else none) = _
  rw [xr_g]
  exact propext ⟨fun q => q.2, fun q => ⟨by simp only [List.length_cons]; omega, q⟩⟩
theorem q_astore1N {a0 : Option Value} {b9 : Option Value} : xw d y ((pc, .astore_n 1, n, an) :: es) (a0 :: b9 :: ls, .null :: st, M) Q = xw d y es (a0 :: some .null :: ls, st, M) Q := by
  rw [xw_step]
  show xr d y es _ Q (if 1 < (a0 :: b9 :: ls : pLo).length then _ else none) = _
  rw [xr_g]
  exact propext ⟨fun q => q.2, fun q => ⟨by simp only [List.length_cons]; omega, q⟩⟩
theorem q_iinc1 {a0 : Option Value} {x : Int32} {i : Int} : xw d y ((pc, .iinc 1 i, n, an) :: es) (a0 :: some (.int x) :: ls, st, M) Q = xw d y es (a0 :: some (.int (x + iN i)) :: ls, st, M) Q := by
  rw [xw_step]
  rfl
theorem q_iload2 {a0 a1 : Option Value} {x : Int32} : xw d y ((pc, .iload_n 2, n, an) :: es) (a0 :: a1 :: some (.int x) :: ls, st, M) Q = xw d y es (a0 :: a1 :: some (.int x) :: ls, .int x :: st, M) Q := by
  rw [xw_step]
  rfl
theorem q_aload2 {a0 a1 : Option Value} {x : Nat} : xw d y ((pc, .aload_n 2, n, an) :: es) (a0 :: a1 :: some (.ref x) :: ls, st, M) Q = xw d y es (a0 :: a1 :: some (.ref x) :: ls, .ref x :: st, M) Q := by
  rw [xw_step]
  rfl
theorem q_aload2N {a0 a1 : Option Value} : xw d y ((pc, .aload_n 2, n, an) :: es) (a0 :: a1 :: some .null :: ls, st, M) Q = xw d y es (a0 :: a1 :: some .null :: ls, .null :: st, M) Q := by
  rw [xw_step]
  rfl
theorem q_istore2 {a0 a1 : Option Value} {b9 : Option Value} {x : Int32} : xw d y ((pc, .istore_n 2, n, an) :: es) (a0 :: a1 :: b9 :: ls, .int x :: st, M) Q = xw d y es (a0 :: a1 :: some (.int x) :: ls, st, M) Q := by
  rw [xw_step]
  show xr d y es _ Q (if 2 < (a0 :: a1 :: b9 :: ls : pLo).length then _ else none) = _
  rw [xr_g]
  exact propext ⟨fun q => q.2, fun q => ⟨by simp only [List.length_cons]; omega, q⟩⟩
theorem q_astore2 {a0 a1 : Option Value} {b9 : Option Value} {x : Nat} : xw d y ((pc, .astore_n 2, n, an) :: es) (a0 :: a1 :: b9 :: ls, .ref x :: st, M) Q = xw d y es (a0 :: a1 :: some (.ref x) :: ls, st, M) Q := by
  rw [xw_step]
  show xr d y es _ Q (if 2 < (a0 :: a1 :: b9 :: ls : pLo).length then _ else none) = _
  rw [xr_g]
  exact propext ⟨fun q => q.2, fun q => ⟨by simp only [List.length_cons]; omega, q⟩⟩
theorem q_astore2N {a0 a1 : Option Value} {b9 : Option Value} : xw d y ((pc, .astore_n 2, n, an) :: es) (a0 :: a1 :: b9 :: ls, .null :: st, M) Q = xw d y es (a0 :: a1 :: some .null :: ls, st, M) Q := by
  rw [xw_step]
  show xr d y es _ Q (if 2 < (a0 :: a1 :: b9 :: ls : pLo).length then _ else none) = _
  rw [xr_g]
  exact propext ⟨fun q => q.2, fun q => ⟨by simp only [List.length_cons]; omega, q⟩⟩
theorem q_iinc2 {a0 a1 : Option Value} {x : Int32} {i : Int} : xw d y ((pc, .iinc 2 i, n, an) :: es) (a0 :: a1 :: some (.int x) :: ls, st, M) Q = xw d y es (a0 :: a1 :: some (.int (x + iN i)) :: ls, st, M) Q := by
  rw [xw_step]
  rfl
theorem q_iload3 {a0 a1 a2 : Option Value} {x : Int32} : xw d y ((pc, .iload_n 3, n, an) :: es) (a0 :: a1 :: a2 :: some (.int x) :: ls, st, M) Q = xw d y es (a0 :: a1 :: a2 :: some (.int x) :: ls, .int x :: st, M) Q := by
  rw [xw_step]
  rfl
theorem q_aload3 {a0 a1 a2 : Option Value} {x : Nat} : xw d y ((pc, .aload_n 3, n, an) :: es) (a0 :: a1 :: a2 :: some (.ref x) :: ls, st, M) Q = xw d y es (a0 :: a1 :: a2 :: some (.ref x) :: ls, .ref x :: st, M) Q := by
  rw [xw_step]
  rfl
theorem q_aload3N {a0 a1 a2 : Option Value} : xw d y ((pc, .aload_n 3, n, an) :: es) (a0 :: a1 :: a2 :: some .null :: ls, st, M) Q = xw d y es (a0 :: a1 :: a2 :: some .null :: ls, .null :: st, M) Q := by
  rw [xw_step]
  rfl
theorem q_istore3 {a0 a1 a2 : Option Value} {b9 : Option Value} {x : Int32} : xw d y ((pc, .istore_n 3, n, an) :: es) (a0 :: a1 :: a2 :: b9 :: ls, .int x :: st, M) Q = xw d y es (a0 :: a1 :: a2 :: some (.int x) :: ls, st, M) Q := by
  rw [xw_step]
  show xr d y es _ Q (if 3 < (a0 :: a1 :: a2 :: b9 :: ls : pLo).length then _ else none) = _
  rw [xr_g]
  exact propext ⟨fun q => q.2, fun q => ⟨by simp only [List.length_cons]; omega, q⟩⟩
theorem q_astore3 {a0 a1 a2 : Option Value} {b9 : Option Value} {x : Nat} : xw d y ((pc, .astore_n 3, n, an) :: es) (a0 :: a1 :: a2 :: b9 :: ls, .ref x :: st, M) Q = xw d y es (a0 :: a1 :: a2 :: some (.ref x) :: ls, st, M) Q := by
  rw [xw_step]
  show xr d y es _ Q (if 3 < (a0 :: a1 :: a2 :: b9 :: ls : pLo).length then _ else none) = _
  rw [xr_g]
  exact propext ⟨fun q => q.2, fun q => ⟨by simp only [List.length_cons]; omega, q⟩⟩
theorem q_astore3N {a0 a1 a2 : Option Value} {b9 : Option Value} : xw d y ((pc, .astore_n 3, n, an) :: es) (a0 :: a1 :: a2 :: b9 :: ls, .null :: st, M) Q = xw d y es (a0 :: a1 :: a2 :: some .null :: ls, st, M) Q := by
  rw [xw_step]
  show xr d y es _ Q (if 3 < (a0 :: a1 :: a2 :: b9 :: ls : pLo).length then _ else none) = _
  rw [xr_g]
  exact propext ⟨fun q => q.2, fun q => ⟨by simp only [List.length_cons]; omega, q⟩⟩
theorem q_iinc3 {a0 a1 a2 : Option Value} {x : Int32} {i : Int} : xw d y ((pc, .iinc 3 i, n, an) :: es) (a0 :: a1 :: a2 :: some (.int x) :: ls, st, M) Q = xw d y es (a0 :: a1 :: a2 :: some (.int (x + iN i)) :: ls, st, M) Q := by
  rw [xw_step]
  rfl
theorem q_iload4 {a0 a1 a2 a3 : Option Value} {x : Int32} : xw d y ((pc, .iload 4, n, an) :: es) (a0 :: a1 :: a2 :: a3 :: some (.int x) :: ls, st, M) Q = xw d y es (a0 :: a1 :: a2 :: a3 :: some (.int x) :: ls, .int x :: st, M) Q := by
  rw [xw_step]
  rfl
theorem q_aload4 {a0 a1 a2 a3 : Option Value} {x : Nat} : xw d y ((pc, .aload 4, n, an) :: es) (a0 :: a1 :: a2 :: a3 :: some (.ref x) :: ls, st, M) Q = xw d y es (a0 :: a1 :: a2 :: a3 :: some (.ref x) :: ls, .ref x :: st, M) Q := by
  rw [xw_step]
  rfl
theorem q_aload4N {a0 a1 a2 a3 : Option Value} : xw d y ((pc, .aload 4, n, an) :: es) (a0 :: a1 :: a2 :: a3 :: some .null :: ls, st, M) Q = xw d y es (a0 :: a1 :: a2 :: a3 :: some .null :: ls, .null :: st, M) Q := by
  rw [xw_step]
  rfl
theorem q_istore4 {a0 a1 a2 a3 : Option Value} {b9 : Option Value} {x : Int32} : xw d y ((pc, .istore 4, n, an) :: es) (a0 :: a1 :: a2 :: a3 :: b9 :: ls, .int x :: st, M) Q = xw d y es (a0 :: a1 :: a2 :: a3 :: some (.int x) :: ls, st, M) Q := by
  rw [xw_step]
  show xr d y es _ Q (if 4 < (a0 :: a1 :: a2 :: a3 :: b9 :: ls : pLo).length then _ else none) = _
  rw [xr_g]
  exact propext ⟨fun q => q.2, fun q => ⟨by simp only [List.length_cons]; omega, q⟩⟩
theorem q_astore4 {a0 a1 a2 a3 : Option Value} {b9 : Option Value} {x : Nat} : xw d y ((pc, .astore 4, n, an) :: es) (a0 :: a1 :: a2 :: a3 :: b9 :: ls, .ref x :: st, M) Q = xw d y es (a0 :: a1 :: a2 :: a3 :: some (.ref x) :: ls, st, M) Q := by
  rw [xw_step]
  show xr d y es _ Q (if 4 < (a0 :: a1 :: a2 :: a3 :: b9 :: ls : pLo).length then _ else none) = _
  rw [xr_g]
  exact propext ⟨fun q => q.2, fun q => ⟨by simp only [List.length_cons]; omega, q⟩⟩
theorem q_astore4N {a0 a1 a2 a3 : Option Value} {b9 : Option Value} : xw d y ((pc, .astore 4, n, an) :: es) (a0 :: a1 :: a2 :: a3 :: b9 :: ls, .null :: st, M) Q = xw d y es (a0 :: a1 :: a2 :: a3 :: some .null :: ls, st, M) Q := by
  rw [xw_step]
  show xr d y es _ Q (if 4 < (a0 :: a1 :: a2 :: a3 :: b9 :: ls : pLo).length then _ else none) = _
  rw [xr_g]
  exact propext ⟨fun q => q.2, fun q => ⟨by simp only [List.length_cons]; omega, q⟩⟩
theorem q_iinc4 {a0 a1 a2 a3 : Option Value} {x : Int32} {i : Int} : xw d y ((pc, .iinc 4 i, n, an) :: es) (a0 :: a1 :: a2 :: a3 :: some (.int x) :: ls, st, M) Q = xw d y es (a0 :: a1 :: a2 :: a3 :: some (.int (x + iN i)) :: ls, st, M) Q := by
  rw [xw_step]
  rfl
theorem q_iload5 {a0 a1 a2 a3 a4 : Option Value} {x : Int32} : xw d y ((pc, .iload 5, n, an) :: es) (a0 :: a1 :: a2 :: a3 :: a4 :: some (.int x) :: ls, st, M) Q = xw d y es (a0 :: a1 :: a2 :: a3 :: a4 :: some (.int x) :: ls, .int x :: st, M) Q := by
  rw [xw_step]
  rfl
theorem q_aload5 {a0 a1 a2 a3 a4 : Option Value} {x : Nat} : xw d y ((pc, .aload 5, n, an) :: es) (a0 :: a1 :: a2 :: a3 :: a4 :: some (.ref x) :: ls, st, M) Q = xw d y es (a0 :: a1 :: a2 :: a3 :: a4 :: some (.ref x) :: ls, .ref x :: st, M) Q := by
  rw [xw_step]
  rfl
theorem q_aload5N {a0 a1 a2 a3 a4 : Option Value} : xw d y ((pc, .aload 5, n, an) :: es) (a0 :: a1 :: a2 :: a3 :: a4 :: some .null :: ls, st, M) Q = xw d y es (a0 :: a1 :: a2 :: a3 :: a4 :: some .null :: ls, .null :: st, M) Q := by
  rw [xw_step]
  rfl
theorem q_istore5 {a0 a1 a2 a3 a4 : Option Value} {b9 : Option Value} {x : Int32} : xw d y ((pc, .istore 5, n, an) :: es) (a0 :: a1 :: a2 :: a3 :: a4 :: b9 :: ls, .int x :: st, M) Q = xw d y es (a0 :: a1 :: a2 :: a3 :: a4 :: some (.int x) :: ls, st, M) Q := by
  rw [xw_step]
  show xr d y es _ Q (if 5 < (a0 :: a1 :: a2 :: a3 :: a4 :: b9 :: ls : pLo).length then _ else none) = _
  rw [xr_g]
  exact propext ⟨fun q => q.2, fun q => ⟨by simp only [List.length_cons]; omega, q⟩⟩
theorem q_astore5 {a0 a1 a2 a3 a4 : Option Value} {b9 : Option Value} {x : Nat} : xw d y ((pc, .astore 5, n, an) :: es) (a0 :: a1 :: a2 :: a3 :: a4 :: b9 :: ls, .ref x :: st, M) Q = xw d y es (a0 :: a1 :: a2 :: a3 :: a4 :: some (.ref x) :: ls, st, M) Q := by
  rw [xw_step]
  show xr d y es _ Q (if 5 < (a0 :: a1 :: a2 :: a3 :: a4 :: b9 :: ls : pLo).length then _ else none) = _
  rw [xr_g]
  exact propext ⟨fun q => q.2, fun q => ⟨by simp only [List.length_cons]; omega, q⟩⟩
theorem q_astore5N {a0 a1 a2 a3 a4 : Option Value} {b9 : Option Value} : xw d y ((pc, .astore 5, n, an) :: es) (a0 :: a1 :: a2 :: a3 :: a4 :: b9 :: ls, .null :: st, M) Q = xw d y es (a0 :: a1 :: a2 :: a3 :: a4 :: some .null :: ls, st, M) Q := by
  rw [xw_step]
  show xr d y es _ Q (if 5 < (a0 :: a1 :: a2 :: a3 :: a4 :: b9 :: ls : pLo).length then _ else none) = _
  rw [xr_g]
  exact propext ⟨fun q => q.2, fun q => ⟨by simp only [List.length_cons]; omega, q⟩⟩
theorem q_iinc5 {a0 a1 a2 a3 a4 : Option Value} {x : Int32} {i : Int} : xw d y ((pc, .iinc 5 i, n, an) :: es) (a0 :: a1 :: a2 :: a3 :: a4 :: some (.int x) :: ls, st, M) Q = xw d y es (a0 :: a1 :: a2 :: a3 :: a4 :: some (.int (x + iN i)) :: ls, st, M) Q := by
  rw [xw_step]
  rfl
theorem q_iload6 {a0 a1 a2 a3 a4 a5 : Option Value} {x : Int32} : xw d y ((pc, .iload 6, n, an) :: es) (a0 :: a1 :: a2 :: a3 :: a4 :: a5 :: some (.int x) :: ls, st, M) Q = xw d y es (a0 :: a1 :: a2 :: a3 :: a4 :: a5 :: some (.int x) :: ls, .int x :: st, M) Q := by
  rw [xw_step]
  rfl
theorem q_aload6 {a0 a1 a2 a3 a4 a5 : Option Value} {x : Nat} : xw d y ((pc, .aload 6, n, an) :: es) (a0 :: a1 :: a2 :: a3 :: a4 :: a5 :: some (.ref x) :: ls, st, M) Q = xw d y es (a0 :: a1 :: a2 :: a3 :: a4 :: a5 :: some (.ref x) :: ls, .ref x :: st, M) Q := by
  rw [xw_step]
  rfl
theorem q_aload6N {a0 a1 a2 a3 a4 a5 : Option Value} : xw d y ((pc, .aload 6, n, an) :: es) (a0 :: a1 :: a2 :: a3 :: a4 :: a5 :: some .null :: ls, st, M) Q = xw d y es (a0 :: a1 :: a2 :: a3 :: a4 :: a5 :: some .null :: ls, .null :: st, M) Q := by
  rw [xw_step]
  rfl
theorem q_istore6 {a0 a1 a2 a3 a4 a5 : Option Value} {b9 : Option Value} {x : Int32} : xw d y ((pc, .istore 6, n, an) :: es) (a0 :: a1 :: a2 :: a3 :: a4 :: a5 :: b9 :: ls, .int x :: st, M) Q = xw d y es (a0 :: a1 :: a2 :: a3 :: a4 :: a5 :: some (.int x) :: ls, st, M) Q := by
  rw [xw_step]
  show xr d y es _ Q (if 6 < (a0 :: a1 :: a2 :: a3 :: a4 :: a5 :: b9 :: ls : pLo).length then _ else none) = _
  rw [xr_g]
  exact propext ⟨fun q => q.2, fun q => ⟨by simp only [List.length_cons]; omega, q⟩⟩
theorem q_astore6 {a0 a1 a2 a3 a4 a5 : Option Value} {b9 : Option Value} {x : Nat} : xw d y ((pc, .astore 6, n, an) :: es) (a0 :: a1 :: a2 :: a3 :: a4 :: a5 :: b9 :: ls, .ref x :: st, M) Q = xw d y es (a0 :: a1 :: a2 :: a3 :: a4 :: a5 :: some (.ref x) :: ls, st, M) Q := by
  rw [xw_step]
  show xr d y es _ Q (if 6 < (a0 :: a1 :: a2 :: a3 :: a4 :: a5 :: b9 :: ls : pLo).length then _ else none) = _
  rw [xr_g]
  exact propext ⟨fun q => q.2, fun q => ⟨by simp only [List.length_cons]; omega, q⟩⟩
theorem q_astore6N {a0 a1 a2 a3 a4 a5 : Option Value} {b9 : Option Value} : xw d y ((pc, .astore 6, n, an) :: es) (a0 :: a1 :: a2 :: a3 :: a4 :: a5 :: b9 :: ls, .null :: st, M) Q = xw d y es (a0 :: a1 :: a2 :: a3 :: a4 :: a5 :: some .null :: ls, st, M) Q := by
  rw [xw_step]
  show xr d y es _ Q (if 6 < (a0 :: a1 :: a2 :: a3 :: a4 :: a5 :: b9 :: ls : pLo).length then _ else none) = _
  rw [xr_g]
  exact propext ⟨fun q => q.2, fun q => ⟨by simp only [List.length_cons]; omega, q⟩⟩
theorem q_iinc6 {a0 a1 a2 a3 a4 a5 : Option Value} {x : Int32} {i : Int} : xw d y ((pc, .iinc 6 i, n, an) :: es) (a0 :: a1 :: a2 :: a3 :: a4 :: a5 :: some (.int x) :: ls, st, M) Q = xw d y es (a0 :: a1 :: a2 :: a3 :: a4 :: a5 :: some (.int (x + iN i)) :: ls, st, M) Q := by
  rw [xw_step]
  rfl
theorem q_iload7 {a0 a1 a2 a3 a4 a5 a6 : Option Value} {x : Int32} : xw d y ((pc, .iload 7, n, an) :: es) (a0 :: a1 :: a2 :: a3 :: a4 :: a5 :: a6 :: some (.int x) :: ls, st, M) Q = xw d y es (a0 :: a1 :: a2 :: a3 :: a4 :: a5 :: a6 :: some (.int x) :: ls, .int x :: st, M) Q := by
  rw [xw_step]
  rfl
theorem q_aload7 {a0 a1 a2 a3 a4 a5 a6 : Option Value} {x : Nat} : xw d y ((pc, .aload 7, n, an) :: es) (a0 :: a1 :: a2 :: a3 :: a4 :: a5 :: a6 :: some (.ref x) :: ls, st, M) Q = xw d y es (a0 :: a1 :: a2 :: a3 :: a4 :: a5 :: a6 :: some (.ref x) :: ls, .ref x :: st, M) Q := by
  rw [xw_step]
  rfl
theorem q_aload7N {a0 a1 a2 a3 a4 a5 a6 : Option Value} : xw d y ((pc, .aload 7, n, an) :: es) (a0 :: a1 :: a2 :: a3 :: a4 :: a5 :: a6 :: some .null :: ls, st, M) Q = xw d y es (a0 :: a1 :: a2 :: a3 :: a4 :: a5 :: a6 :: some .null :: ls, .null :: st, M) Q := by
  rw [xw_step]
  rfl
theorem q_istore7 {a0 a1 a2 a3 a4 a5 a6 : Option Value} {b9 : Option Value} {x : Int32} : xw d y ((pc, .istore 7, n, an) :: es) (a0 :: a1 :: a2 :: a3 :: a4 :: a5 :: a6 :: b9 :: ls, .int x :: st, M) Q = xw d y es (a0 :: a1 :: a2 :: a3 :: a4 :: a5 :: a6 :: some (.int x) :: ls, st, M) Q := by
  rw [xw_step]
  show xr d y es _ Q (if 7 < (a0 :: a1 :: a2 :: a3 :: a4 :: a5 :: a6 :: b9 :: ls : pLo).length then _ else none) = _
  rw [xr_g]
  exact propext ⟨fun q => q.2, fun q => ⟨by simp only [List.length_cons]; omega, q⟩⟩
theorem q_astore7 {a0 a1 a2 a3 a4 a5 a6 : Option Value} {b9 : Option Value} {x : Nat} : xw d y ((pc, .astore 7, n, an) :: es) (a0 :: a1 :: a2 :: a3 :: a4 :: a5 :: a6 :: b9 :: ls, .ref x :: st, M) Q = xw d y es (a0 :: a1 :: a2 :: a3 :: a4 :: a5 :: a6 :: some (.ref x) :: ls, st, M) Q := by
  rw [xw_step]
  show xr d y es _ Q (if 7 < (a0 :: a1 :: a2 :: a3 :: a4 :: a5 :: a6 :: b9 :: ls : pLo).length then _ else none) = _
  rw [xr_g]
  exact propext ⟨fun q => q.2, fun q => ⟨by simp only [List.length_cons]; omega, q⟩⟩
theorem q_astore7N {a0 a1 a2 a3 a4 a5 a6 : Option Value} {b9 : Option Value} : xw d y ((pc, .astore 7, n, an) :: es) (a0 :: a1 :: a2 :: a3 :: a4 :: a5 :: a6 :: b9 :: ls, .null :: st, M) Q = xw d y es (a0 :: a1 :: a2 :: a3 :: a4 :: a5 :: a6 :: some .null :: ls, st, M) Q := by
  rw [xw_step]
  show xr d y es _ Q (if 7 < (a0 :: a1 :: a2 :: a3 :: a4 :: a5 :: a6 :: b9 :: ls : pLo).length then _ else none) = _
  rw [xr_g]
  exact propext ⟨fun q => q.2, fun q => ⟨by simp only [List.length_cons]; omega, q⟩⟩
theorem q_iinc7 {a0 a1 a2 a3 a4 a5 a6 : Option Value} {x : Int32} {i : Int} : xw d y ((pc, .iinc 7 i, n, an) :: es) (a0 :: a1 :: a2 :: a3 :: a4 :: a5 :: a6 :: some (.int x) :: ls, st, M) Q = xw d y es (a0 :: a1 :: a2 :: a3 :: a4 :: a5 :: a6 :: some (.int (x + iN i)) :: ls, st, M) Q := by
  rw [xw_step]
  rfl
theorem q_iload8 {a0 a1 a2 a3 a4 a5 a6 a7 : Option Value} {x : Int32} : xw d y ((pc, .iload 8, n, an) :: es) (a0 :: a1 :: a2 :: a3 :: a4 :: a5 :: a6 :: a7 :: some (.int x) :: ls, st, M) Q = xw d y es (a0 :: a1 :: a2 :: a3 :: a4 :: a5 :: a6 :: a7 :: some (.int x) :: ls, .int x :: st, M) Q := by
  rw [xw_step]
  rfl
theorem q_aload8 {a0 a1 a2 a3 a4 a5 a6 a7 : Option Value} {x : Nat} : xw d y ((pc, .aload 8, n, an) :: es) (a0 :: a1 :: a2 :: a3 :: a4 :: a5 :: a6 :: a7 :: some (.ref x) :: ls, st, M) Q = xw d y es (a0 :: a1 :: a2 :: a3 :: a4 :: a5 :: a6 :: a7 :: some (.ref x) :: ls, .ref x :: st, M) Q := by
  rw [xw_step]
  rfl
theorem q_aload8N {a0 a1 a2 a3 a4 a5 a6 a7 : Option Value} : xw d y ((pc, .aload 8, n, an) :: es) (a0 :: a1 :: a2 :: a3 :: a4 :: a5 :: a6 :: a7 :: some .null :: ls, st, M) Q = xw d y es (a0 :: a1 :: a2 :: a3 :: a4 :: a5 :: a6 :: a7 :: some .null :: ls, .null :: st, M) Q := by
  rw [xw_step]
  rfl
theorem q_istore8 {a0 a1 a2 a3 a4 a5 a6 a7 : Option Value} {b9 : Option Value} {x : Int32} : xw d y ((pc, .istore 8, n, an) :: es) (a0 :: a1 :: a2 :: a3 :: a4 :: a5 :: a6 :: a7 :: b9 :: ls, .int x :: st, M) Q = xw d y es (a0 :: a1 :: a2 :: a3 :: a4 :: a5 :: a6 :: a7 :: some (.int x) :: ls, st, M) Q := by
  rw [xw_step]
  show xr d y es _ Q (if 8 < (a0 :: a1 :: a2 :: a3 :: a4 :: a5 :: a6 :: a7 :: b9 :: ls : pLo).length then _ else none) = _
  rw [xr_g]
  exact propext ⟨fun q => q.2, fun q => ⟨by simp only [List.length_cons]; omega, q⟩⟩
theorem q_astore8 {a0 a1 a2 a3 a4 a5 a6 a7 : Option Value} {b9 : Option Value} {x : Nat} : xw d y ((pc, .astore 8, n, an) :: es) (a0 :: a1 :: a2 :: a3 :: a4 :: a5 :: a6 :: a7 :: b9 :: ls, .ref x :: st, M) Q = xw d y es (a0 :: a1 :: a2 :: a3 :: a4 :: a5 :: a6 :: a7 :: some (.ref x) :: ls, st, M) Q := by
  rw [xw_step]
  show xr d y es _ Q (if 8 < (a0 :: a1 :: a2 :: a3 :: a4 :: a5 :: a6 :: a7 :: b9 :: ls : pLo).length then _ else none) = _
  rw [xr_g]
  exact propext ⟨fun q => q.2, fun q => ⟨by simp only [List.length_cons]; omega, q⟩⟩
theorem q_astore8N {a0 a1 a2 a3 a4 a5 a6 a7 : Option Value} {b9 : Option Value} : xw d y ((pc, .astore 8, n, an) :: es) (a0 :: a1 :: a2 :: a3 :: a4 :: a5 :: a6 :: a7 :: b9 :: ls, .null :: st, M) Q = xw d y es (a0 :: a1 :: a2 :: a3 :: a4 :: a5 :: a6 :: a7 :: some .null :: ls, st, M) Q := by
  rw [xw_step]
  show xr d y es _ Q (if 8 < (a0 :: a1 :: a2 :: a3 :: a4 :: a5 :: a6 :: a7 :: b9 :: ls : pLo).length then _ else none) = _
  rw [xr_g]
  exact propext ⟨fun q => q.2, fun q => ⟨by simp only [List.length_cons]; omega, q⟩⟩
theorem q_iinc8 {a0 a1 a2 a3 a4 a5 a6 a7 : Option Value} {x : Int32} {i : Int} : xw d y ((pc, .iinc 8 i, n, an) :: es) (a0 :: a1 :: a2 :: a3 :: a4 :: a5 :: a6 :: a7 :: some (.int x) :: ls, st, M) Q = xw d y es (a0 :: a1 :: a2 :: a3 :: a4 :: a5 :: a6 :: a7 :: some (.int (x + iN i)) :: ls, st, M) Q := by
  rw [xw_step]
  rfl
theorem q_iload9 {a0 a1 a2 a3 a4 a5 a6 a7 a8 : Option Value} {x : Int32} : xw d y ((pc, .iload 9, n, an) :: es) (a0 :: a1 :: a2 :: a3 :: a4 :: a5 :: a6 :: a7 :: a8 :: some (.int x) :: ls, st, M) Q = xw d y es (a0 :: a1 :: a2 :: a3 :: a4 :: a5 :: a6 :: a7 :: a8 :: some (.int x) :: ls, .int x :: st, M) Q := by
  rw [xw_step]
  rfl
theorem q_aload9 {a0 a1 a2 a3 a4 a5 a6 a7 a8 : Option Value} {x : Nat} : xw d y ((pc, .aload 9, n, an) :: es) (a0 :: a1 :: a2 :: a3 :: a4 :: a5 :: a6 :: a7 :: a8 :: some (.ref x) :: ls, st, M) Q = xw d y es (a0 :: a1 :: a2 :: a3 :: a4 :: a5 :: a6 :: a7 :: a8 :: some (.ref x) :: ls, .ref x :: st, M) Q := by
  rw [xw_step]
  rfl
theorem q_aload9N {a0 a1 a2 a3 a4 a5 a6 a7 a8 : Option Value} : xw d y ((pc, .aload 9, n, an) :: es) (a0 :: a1 :: a2 :: a3 :: a4 :: a5 :: a6 :: a7 :: a8 :: some .null :: ls, st, M) Q = xw d y es (a0 :: a1 :: a2 :: a3 :: a4 :: a5 :: a6 :: a7 :: a8 :: some .null :: ls, .null :: st, M) Q := by
  rw [xw_step]
  rfl
theorem q_istore9 {a0 a1 a2 a3 a4 a5 a6 a7 a8 : Option Value} {b9 : Option Value} {x : Int32} : xw d y ((pc, .istore 9, n, an) :: es) (a0 :: a1 :: a2 :: a3 :: a4 :: a5 :: a6 :: a7 :: a8 :: b9 :: ls, .int x :: st, M) Q = xw d y es (a0 :: a1 :: a2 :: a3 :: a4 :: a5 :: a6 :: a7 :: a8 :: some (.int x) :: ls, st, M) Q := by
  rw [xw_step]
  show xr d y es _ Q (if 9 < (a0 :: a1 :: a2 :: a3 :: a4 :: a5 :: a6 :: a7 :: a8 :: b9 :: ls : pLo).length then _ else none) = _
  rw [xr_g]
  exact propext ⟨fun q => q.2, fun q => ⟨by simp only [List.length_cons]; omega, q⟩⟩
theorem q_astore9 {a0 a1 a2 a3 a4 a5 a6 a7 a8 : Option Value} {b9 : Option Value} {x : Nat} : xw d y ((pc, .astore 9, n, an) :: es) (a0 :: a1 :: a2 :: a3 :: a4 :: a5 :: a6 :: a7 :: a8 :: b9 :: ls, .ref x :: st, M) Q = xw d y es (a0 :: a1 :: a2 :: a3 :: a4 :: a5 :: a6 :: a7 :: a8 :: some (.ref x) :: ls, st, M) Q := by
  rw [xw_step]
  show xr d y es _ Q (if 9 < (a0 :: a1 :: a2 :: a3 :: a4 :: a5 :: a6 :: a7 :: a8 :: b9 :: ls : pLo).length then _ else none) = _
  rw [xr_g]
  exact propext ⟨fun q => q.2, fun q => ⟨by simp only [List.length_cons]; omega, q⟩⟩
theorem q_astore9N {a0 a1 a2 a3 a4 a5 a6 a7 a8 : Option Value} {b9 : Option Value} : xw d y ((pc, .astore 9, n, an) :: es) (a0 :: a1 :: a2 :: a3 :: a4 :: a5 :: a6 :: a7 :: a8 :: b9 :: ls, .null :: st, M) Q = xw d y es (a0 :: a1 :: a2 :: a3 :: a4 :: a5 :: a6 :: a7 :: a8 :: some .null :: ls, st, M) Q := by
  rw [xw_step]
  show xr d y es _ Q (if 9 < (a0 :: a1 :: a2 :: a3 :: a4 :: a5 :: a6 :: a7 :: a8 :: b9 :: ls : pLo).length then _ else none) = _
  rw [xr_g]
  exact propext ⟨fun q => q.2, fun q => ⟨by simp only [List.length_cons]; omega, q⟩⟩
theorem q_iinc9 {a0 a1 a2 a3 a4 a5 a6 a7 a8 : Option Value} {x : Int32} {i : Int} : xw d y ((pc, .iinc 9 i, n, an) :: es) (a0 :: a1 :: a2 :: a3 :: a4 :: a5 :: a6 :: a7 :: a8 :: some (.int x) :: ls, st, M) Q = xw d y es (a0 :: a1 :: a2 :: a3 :: a4 :: a5 :: a6 :: a7 :: a8 :: some (.int (x + iN i)) :: ls, st, M) Q := by
  rw [xw_step]
  rfl
theorem q_iload10 {a0 a1 a2 a3 a4 a5 a6 a7 a8 a9 : Option Value} {x : Int32} : xw d y ((pc, .iload 10, n, an) :: es) (a0 :: a1 :: a2 :: a3 :: a4 :: a5 :: a6 :: a7 :: a8 :: a9 :: some (.int x) :: ls, st, M) Q = xw d y es (a0 :: a1 :: a2 :: a3 :: a4 :: a5 :: a6 :: a7 :: a8 :: a9 :: some (.int x) :: ls, .int x :: st, M) Q := by
  rw [xw_step]
  rfl
theorem q_aload10 {a0 a1 a2 a3 a4 a5 a6 a7 a8 a9 : Option Value} {x : Nat} : xw d y ((pc, .aload 10, n, an) :: es) (a0 :: a1 :: a2 :: a3 :: a4 :: a5 :: a6 :: a7 :: a8 :: a9 :: some (.ref x) :: ls, st, M) Q = xw d y es (a0 :: a1 :: a2 :: a3 :: a4 :: a5 :: a6 :: a7 :: a8 :: a9 :: some (.ref x) :: ls, .ref x :: st, M) Q := by
  rw [xw_step]
  rfl
theorem q_aload10N {a0 a1 a2 a3 a4 a5 a6 a7 a8 a9 : Option Value} : xw d y ((pc, .aload 10, n, an) :: es) (a0 :: a1 :: a2 :: a3 :: a4 :: a5 :: a6 :: a7 :: a8 :: a9 :: some .null :: ls, st, M) Q = xw d y es (a0 :: a1 :: a2 :: a3 :: a4 :: a5 :: a6 :: a7 :: a8 :: a9 :: some .null :: ls, .null :: st, M) Q := by
  rw [xw_step]
  rfl
theorem q_istore10 {a0 a1 a2 a3 a4 a5 a6 a7 a8 a9 : Option Value} {b9 : Option Value} {x : Int32} : xw d y ((pc, .istore 10, n, an) :: es) (a0 :: a1 :: a2 :: a3 :: a4 :: a5 :: a6 :: a7 :: a8 :: a9 :: b9 :: ls, .int x :: st, M) Q = xw d y es (a0 :: a1 :: a2 :: a3 :: a4 :: a5 :: a6 :: a7 :: a8 :: a9 :: some (.int x) :: ls, st, M) Q := by
  rw [xw_step]
  show xr d y es _ Q (if 10 < (a0 :: a1 :: a2 :: a3 :: a4 :: a5 :: a6 :: a7 :: a8 :: a9 :: b9 :: ls : pLo).length then _ else none) = _
  rw [xr_g]
  exact propext ⟨fun q => q.2, fun q => ⟨by simp only [List.length_cons]; omega, q⟩⟩
theorem q_astore10 {a0 a1 a2 a3 a4 a5 a6 a7 a8 a9 : Option Value} {b9 : Option Value} {x : Nat} : xw d y ((pc, .astore 10, n, an) :: es) (a0 :: a1 :: a2 :: a3 :: a4 :: a5 :: a6 :: a7 :: a8 :: a9 :: b9 :: ls, .ref x :: st, M) Q = xw d y es (a0 :: a1 :: a2 :: a3 :: a4 :: a5 :: a6 :: a7 :: a8 :: a9 :: some (.ref x) :: ls, st, M) Q := by
  rw [xw_step]
  show xr d y es _ Q (if 10 < (a0 :: a1 :: a2 :: a3 :: a4 :: a5 :: a6 :: a7 :: a8 :: a9 :: b9 :: ls : pLo).length then _ else none) = _
  rw [xr_g]
  exact propext ⟨fun q => q.2, fun q => ⟨by simp only [List.length_cons]; omega, q⟩⟩
theorem q_astore10N {a0 a1 a2 a3 a4 a5 a6 a7 a8 a9 : Option Value} {b9 : Option Value} : xw d y ((pc, .astore 10, n, an) :: es) (a0 :: a1 :: a2 :: a3 :: a4 :: a5 :: a6 :: a7 :: a8 :: a9 :: b9 :: ls, .null :: st, M) Q = xw d y es (a0 :: a1 :: a2 :: a3 :: a4 :: a5 :: a6 :: a7 :: a8 :: a9 :: some .null :: ls, st, M) Q := by
  rw [xw_step]
  show xr d y es _ Q (if 10 < (a0 :: a1 :: a2 :: a3 :: a4 :: a5 :: a6 :: a7 :: a8 :: a9 :: b9 :: ls : pLo).length then _ else none) = _
  rw [xr_g]
  exact propext ⟨fun q => q.2, fun q => ⟨by simp only [List.length_cons]; omega, q⟩⟩
theorem q_iinc10 {a0 a1 a2 a3 a4 a5 a6 a7 a8 a9 : Option Value} {x : Int32} {i : Int} : xw d y ((pc, .iinc 10 i, n, an) :: es) (a0 :: a1 :: a2 :: a3 :: a4 :: a5 :: a6 :: a7 :: a8 :: a9 :: some (.int x) :: ls, st, M) Q = xw d y es (a0 :: a1 :: a2 :: a3 :: a4 :: a5 :: a6 :: a7 :: a8 :: a9 :: some (.int (x + iN i)) :: ls, st, M) Q := by
  rw [xw_step]
  rfl
theorem q_iload11 {a0 a1 a2 a3 a4 a5 a6 a7 a8 a9 a10 : Option Value} {x : Int32} : xw d y ((pc, .iload 11, n, an) :: es) (a0 :: a1 :: a2 :: a3 :: a4 :: a5 :: a6 :: a7 :: a8 :: a9 :: a10 :: some (.int x) :: ls, st, M) Q = xw d y es (a0 :: a1 :: a2 :: a3 :: a4 :: a5 :: a6 :: a7 :: a8 :: a9 :: a10 :: some (.int x) :: ls, .int x :: st, M) Q := by
  rw [xw_step]
  rfl
theorem q_aload11 {a0 a1 a2 a3 a4 a5 a6 a7 a8 a9 a10 : Option Value} {x : Nat} : xw d y ((pc, .aload 11, n, an) :: es) (a0 :: a1 :: a2 :: a3 :: a4 :: a5 :: a6 :: a7 :: a8 :: a9 :: a10 :: some (.ref x) :: ls, st, M) Q = xw d y es (a0 :: a1 :: a2 :: a3 :: a4 :: a5 :: a6 :: a7 :: a8 :: a9 :: a10 :: some (.ref x) :: ls, .ref x :: st, M) Q := by
  rw [xw_step]
  rfl
theorem q_aload11N {a0 a1 a2 a3 a4 a5 a6 a7 a8 a9 a10 : Option Value} : xw d y ((pc, .aload 11, n, an) :: es) (a0 :: a1 :: a2 :: a3 :: a4 :: a5 :: a6 :: a7 :: a8 :: a9 :: a10 :: some .null :: ls, st, M) Q = xw d y es (a0 :: a1 :: a2 :: a3 :: a4 :: a5 :: a6 :: a7 :: a8 :: a9 :: a10 :: some .null :: ls, .null :: st, M) Q := by
  rw [xw_step]
  rfl
theorem q_istore11 {a0 a1 a2 a3 a4 a5 a6 a7 a8 a9 a10 : Option Value} {b9 : Option Value} {x : Int32} : xw d y ((pc, .istore 11, n, an) :: es) (a0 :: a1 :: a2 :: a3 :: a4 :: a5 :: a6 :: a7 :: a8 :: a9 :: a10 :: b9 :: ls, .int x :: st, M) Q = xw d y es (a0 :: a1 :: a2 :: a3 :: a4 :: a5 :: a6 :: a7 :: a8 :: a9 :: a10 :: some (.int x) :: ls, st, M) Q := by
  rw [xw_step]
  show xr d y es _ Q (if 11 < (a0 :: a1 :: a2 :: a3 :: a4 :: a5 :: a6 :: a7 :: a8 :: a9 :: a10 :: b9 :: ls : pLo).length then _ else none) = _
  rw [xr_g]
  exact propext ⟨fun q => q.2, fun q => ⟨by simp only [List.length_cons]; omega, q⟩⟩
theorem q_astore11 {a0 a1 a2 a3 a4 a5 a6 a7 a8 a9 a10 : Option Value} {b9 : Option Value} {x : Nat} : xw d y ((pc, .astore 11, n, an) :: es) (a0 :: a1 :: a2 :: a3 :: a4 :: a5 :: a6 :: a7 :: a8 :: a9 :: a10 :: b9 :: ls, .ref x :: st, M) Q = xw d y es (a0 :: a1 :: a2 :: a3 :: a4 :: a5 :: a6 :: a7 :: a8 :: a9 :: a10 :: some (.ref x) :: ls, st, M) Q := by
  rw [xw_step]
  show xr d y es _ Q (if 11 < (a0 :: a1 :: a2 :: a3 :: a4 :: a5 :: a6 :: a7 :: a8 :: a9 :: a10 :: b9 :: ls : pLo).length then _ else none) = _
  rw [xr_g]
  exact propext ⟨fun q => q.2, fun q => ⟨by simp only [List.length_cons]; omega, q⟩⟩
theorem q_astore11N {a0 a1 a2 a3 a4 a5 a6 a7 a8 a9 a10 : Option Value} {b9 : Option Value} : xw d y ((pc, .astore 11, n, an) :: es) (a0 :: a1 :: a2 :: a3 :: a4 :: a5 :: a6 :: a7 :: a8 :: a9 :: a10 :: b9 :: ls, .null :: st, M) Q = xw d y es (a0 :: a1 :: a2 :: a3 :: a4 :: a5 :: a6 :: a7 :: a8 :: a9 :: a10 :: some .null :: ls, st, M) Q := by
  rw [xw_step]
  show xr d y es _ Q (if 11 < (a0 :: a1 :: a2 :: a3 :: a4 :: a5 :: a6 :: a7 :: a8 :: a9 :: a10 :: b9 :: ls : pLo).length then _ else none) = _
  rw [xr_g]
  exact propext ⟨fun q => q.2, fun q => ⟨by simp only [List.length_cons]; omega, q⟩⟩
theorem q_iinc11 {a0 a1 a2 a3 a4 a5 a6 a7 a8 a9 a10 : Option Value} {x : Int32} {i : Int} : xw d y ((pc, .iinc 11 i, n, an) :: es) (a0 :: a1 :: a2 :: a3 :: a4 :: a5 :: a6 :: a7 :: a8 :: a9 :: a10 :: some (.int x) :: ls, st, M) Q = xw d y es (a0 :: a1 :: a2 :: a3 :: a4 :: a5 :: a6 :: a7 :: a8 :: a9 :: a10 :: some (.int (x + iN i)) :: ls, st, M) Q := by
  rw [xw_step]
  rfl
theorem q_iload12 {a0 a1 a2 a3 a4 a5 a6 a7 a8 a9 a10 a11 : Option Value} {x : Int32} : xw d y ((pc, .iload 12, n, an) :: es) (a0 :: a1 :: a2 :: a3 :: a4 :: a5 :: a6 :: a7 :: a8 :: a9 :: a10 :: a11 :: some (.int x) :: ls, st, M) Q = xw d y es (a0 :: a1 :: a2 :: a3 :: a4 :: a5 :: a6 :: a7 :: a8 :: a9 :: a10 :: a11 :: some (.int x) :: ls, .int x :: st, M) Q := by
  rw [xw_step]
  rfl
theorem q_aload12 {a0 a1 a2 a3 a4 a5 a6 a7 a8 a9 a10 a11 : Option Value} {x : Nat} : xw d y ((pc, .aload 12, n, an) :: es) (a0 :: a1 :: a2 :: a3 :: a4 :: a5 :: a6 :: a7 :: a8 :: a9 :: a10 :: a11 :: some (.ref x) :: ls, st, M) Q = xw d y es (a0 :: a1 :: a2 :: a3 :: a4 :: a5 :: a6 :: a7 :: a8 :: a9 :: a10 :: a11 :: some (.ref x) :: ls, .ref x :: st, M) Q := by
  rw [xw_step]
  rfl
theorem q_aload12N {a0 a1 a2 a3 a4 a5 a6 a7 a8 a9 a10 a11 : Option Value} : xw d y ((pc, .aload 12, n, an) :: es) (a0 :: a1 :: a2 :: a3 :: a4 :: a5 :: a6 :: a7 :: a8 :: a9 :: a10 :: a11 :: some .null :: ls, st, M) Q = xw d y es (a0 :: a1 :: a2 :: a3 :: a4 :: a5 :: a6 :: a7 :: a8 :: a9 :: a10 :: a11 :: some .null :: ls, .null :: st, M) Q := by
  rw [xw_step]
  rfl
theorem q_istore12 {a0 a1 a2 a3 a4 a5 a6 a7 a8 a9 a10 a11 : Option Value} {b9 : Option Value} {x : Int32} : xw d y ((pc, .istore 12, n, an) :: es) (a0 :: a1 :: a2 :: a3 :: a4 :: a5 :: a6 :: a7 :: a8 :: a9 :: a10 :: a11 :: b9 :: ls, .int x :: st, M) Q = xw d y es (a0 :: a1 :: a2 :: a3 :: a4 :: a5 :: a6 :: a7 :: a8 :: a9 :: a10 :: a11 :: some (.int x) :: ls, st, M) Q := by
  rw [xw_step]
  show xr d y es _ Q (if 12 < (a0 :: a1 :: a2 :: a3 :: a4 :: a5 :: a6 :: a7 :: a8 :: a9 :: a10 :: a11 :: b9 :: ls : pLo).length then _ else none) = _
  rw [xr_g]
  exact propext ⟨fun q => q.2, fun q => ⟨by simp only [List.length_cons]; omega, q⟩⟩
theorem q_astore12 {a0 a1 a2 a3 a4 a5 a6 a7 a8 a9 a10 a11 : Option Value} {b9 : Option Value} {x : Nat} : xw d y ((pc, .astore 12, n, an) :: es) (a0 :: a1 :: a2 :: a3 :: a4 :: a5 :: a6 :: a7 :: a8 :: a9 :: a10 :: a11 :: b9 :: ls, .ref x :: st, M) Q = xw d y es (a0 :: a1 :: a2 :: a3 :: a4 :: a5 :: a6 :: a7 :: a8 :: a9 :: a10 :: a11 :: some (.ref x) :: ls, st, M) Q := by
  rw [xw_step]
  show xr d y es _ Q (if 12 < (a0 :: a1 :: a2 :: a3 :: a4 :: a5 :: a6 :: a7 :: a8 :: a9 :: a10 :: a11 :: b9 :: ls : pLo).length then _ else none) = _
  rw [xr_g]
  exact propext ⟨fun q => q.2, fun q => ⟨by simp only [List.length_cons]; omega, q⟩⟩
theorem q_astore12N {a0 a1 a2 a3 a4 a5 a6 a7 a8 a9 a10 a11 : Option Value} {b9 : Option Value} : xw d y ((pc, .astore 12, n, an) :: es) (a0 :: a1 :: a2 :: a3 :: a4 :: a5 :: a6 :: a7 :: a8 :: a9 :: a10 :: a11 :: b9 :: ls, .null :: st, M) Q = xw d y es (a0 :: a1 :: a2 :: a3 :: a4 :: a5 :: a6 :: a7 :: a8 :: a9 :: a10 :: a11 :: some .null :: ls, st, M) Q := by
  rw [xw_step]
  show xr d y es _ Q (if 12 < (a0 :: a1 :: a2 :: a3 :: a4 :: a5 :: a6 :: a7 :: a8 :: a9 :: a10 :: a11 :: b9 :: ls : pLo).length then _ else none) = _
  rw [xr_g]
  exact propext ⟨fun q => q.2, fun q => ⟨by simp only [List.length_cons]; omega, q⟩⟩
theorem q_iinc12 {a0 a1 a2 a3 a4 a5 a6 a7 a8 a9 a10 a11 : Option Value} {x : Int32} {i : Int} : xw d y ((pc, .iinc 12 i, n, an) :: es) (a0 :: a1 :: a2 :: a3 :: a4 :: a5 :: a6 :: a7 :: a8 :: a9 :: a10 :: a11 :: some (.int x) :: ls, st, M) Q = xw d y es (a0 :: a1 :: a2 :: a3 :: a4 :: a5 :: a6 :: a7 :: a8 :: a9 :: a10 :: a11 :: some (.int (x + iN i)) :: ls, st, M) Q := by
  rw [xw_step]
  rfl
theorem q_iload13 {a0 a1 a2 a3 a4 a5 a6 a7 a8 a9 a10 a11 a12 : Option Value} {x : Int32} : xw d y ((pc, .iload 13, n, an) :: es) (a0 :: a1 :: a2 :: a3 :: a4 :: a5 :: a6 :: a7 :: a8 :: a9 :: a10 :: a11 :: a12 :: some (.int x) :: ls, st, M) Q = xw d y es (a0 :: a1 :: a2 :: a3 :: a4 :: a5 :: a6 :: a7 :: a8 :: a9 :: a10 :: a11 :: a12 :: some (.int x) :: ls, .int x :: st, M) Q := by
  rw [xw_step]
  rfl
theorem q_aload13 {a0 a1 a2 a3 a4 a5 a6 a7 a8 a9 a10 a11 a12 : Option Value} {x : Nat} : xw d y ((pc, .aload 13, n, an) :: es) (a0 :: a1 :: a2 :: a3 :: a4 :: a5 :: a6 :: a7 :: a8 :: a9 :: a10 :: a11 :: a12 :: some (.ref x) :: ls, st, M) Q = xw d y es (a0 :: a1 :: a2 :: a3 :: a4 :: a5 :: a6 :: a7 :: a8 :: a9 :: a10 :: a11 :: a12 :: some (.ref x) :: ls, .ref x :: st, M) Q := by
  rw [xw_step]
  rfl
theorem q_aload13N {a0 a1 a2 a3 a4 a5 a6 a7 a8 a9 a10 a11 a12 : Option Value} : xw d y ((pc, .aload 13, n, an) :: es) (a0 :: a1 :: a2 :: a3 :: a4 :: a5 :: a6 :: a7 :: a8 :: a9 :: a10 :: a11 :: a12 :: some .null :: ls, st, M) Q = xw d y es (a0 :: a1 :: a2 :: a3 :: a4 :: a5 :: a6 :: a7 :: a8 :: a9 :: a10 :: a11 :: a12 :: some .null :: ls, .null :: st, M) Q := by
  rw [xw_step]
  rfl
theorem q_istore13 {a0 a1 a2 a3 a4 a5 a6 a7 a8 a9 a10 a11 a12 : Option Value} {b9 : Option Value} {x : Int32} : xw d y ((pc, .istore 13, n, an) :: es) (a0 :: a1 :: a2 :: a3 :: a4 :: a5 :: a6 :: a7 :: a8 :: a9 :: a10 :: a11 :: a12 :: b9 :: ls, .int x :: st, M) Q = xw d y es (a0 :: a1 :: a2 :: a3 :: a4 :: a5 :: a6 :: a7 :: a8 :: a9 :: a10 :: a11 :: a12 :: some (.int x) :: ls, st, M) Q := by
  rw [xw_step]
  show xr d y es _ Q (if 13 < (a0 :: a1 :: a2 :: a3 :: a4 :: a5 :: a6 :: a7 :: a8 :: a9 :: a10 :: a11 :: a12 :: b9 :: ls : pLo).length then _ else none) = _
  rw [xr_g]
  exact propext ⟨fun q => q.2, fun q => ⟨by simp only [List.length_cons]; omega, q⟩⟩
theorem q_astore13 {a0 a1 a2 a3 a4 a5 a6 a7 a8 a9 a10 a11 a12 : Option Value} {b9 : Option Value} {x : Nat} : xw d y ((pc, .astore 13, n, an) :: es) (a0 :: a1 :: a2 :: a3 :: a4 :: a5 :: a6 :: a7 :: a8 :: a9 :: a10 :: a11 :: a12 :: b9 :: ls, .ref x :: st, M) Q = xw d y es (a0 :: a1 :: a2 :: a3 :: a4 :: a5 :: a6 :: a7 :: a8 :: a9 :: a10 :: a11 :: a12 :: some (.ref x) :: ls, st, M) Q := by
  rw [xw_step]
  show xr d y es _ Q (if 13 < (a0 :: a1 :: a2 :: a3 :: a4 :: a5 :: a6 :: a7 :: a8 :: a9 :: a10 :: a11 :: a12 :: b9 :: ls : pLo).length then _ else none) = _
  rw [xr_g]
  exact propext ⟨fun q => q.2, fun q => ⟨by simp only [List.length_cons]; omega, q⟩⟩
theorem q_astore13N {a0 a1 a2 a3 a4 a5 a6 a7 a8 a9 a10 a11 a12 : Option Value} {b9 : Option Value} : xw d y ((pc, .astore 13, n, an) :: es) (a0 :: a1 :: a2 :: a3 :: a4 :: a5 :: a6 :: a7 :: a8 :: a9 :: a10 :: a11 :: a12 :: b9 :: ls, .null :: st, M) Q = xw d y es (a0 :: a1 :: a2 :: a3 :: a4 :: a5 :: a6 :: a7 :: a8 :: a9 :: a10 :: a11 :: a12 :: some .null :: ls, st, M) Q := by
  rw [xw_step]
  show xr d y es _ Q (if 13 < (a0 :: a1 :: a2 :: a3 :: a4 :: a5 :: a6 :: a7 :: a8 :: a9 :: a10 :: a11 :: a12 :: b9 :: ls : pLo).length then _ else none) = _
  rw [xr_g]
  exact propext ⟨fun q => q.2, fun q => ⟨by simp only [List.length_cons]; omega, q⟩⟩
theorem q_iinc13 {a0 a1 a2 a3 a4 a5 a6 a7 a8 a9 a10 a11 a12 : Option Value} {x : Int32} {i : Int} : xw d y ((pc, .iinc 13 i, n, an) :: es) (a0 :: a1 :: a2 :: a3 :: a4 :: a5 :: a6 :: a7 :: a8 :: a9 :: a10 :: a11 :: a12 :: some (.int x) :: ls, st, M) Q = xw d y es (a0 :: a1 :: a2 :: a3 :: a4 :: a5 :: a6 :: a7 :: a8 :: a9 :: a10 :: a11 :: a12 :: some (.int (x + iN i)) :: ls, st, M) Q := by
  rw [xw_step]
  rfl
theorem q_iload14 {a0 a1 a2 a3 a4 a5 a6 a7 a8 a9 a10 a11 a12 a13 : Option Value} {x : Int32} : xw d y ((pc, .iload 14, n, an) :: es) (a0 :: a1 :: a2 :: a3 :: a4 :: a5 :: a6 :: a7 :: a8 :: a9 :: a10 :: a11 :: a12 :: a13 :: some (.int x) :: ls, st, M) Q = xw d y es (a0 :: a1 :: a2 :: a3 :: a4 :: a5 :: a6 :: a7 :: a8 :: a9 :: a10 :: a11 :: a12 :: a13 :: some (.int x) :: ls, .int x :: st, M) Q := by
  rw [xw_step]
  rfl
theorem q_aload14 {a0 a1 a2 a3 a4 a5 a6 a7 a8 a9 a10 a11 a12 a13 : Option Value} {x : Nat} : xw d y ((pc, .aload 14, n, an) :: es) (a0 :: a1 :: a2 :: a3 :: a4 :: a5 :: a6 :: a7 :: a8 :: a9 :: a10 :: a11 :: a12 :: a13 :: some (.ref x) :: ls, st, M) Q = xw d y es (a0 :: a1 :: a2 :: a3 :: a4 :: a5 :: a6 :: a7 :: a8 :: a9 :: a10 :: a11 :: a12 :: a13 :: some (.ref x) :: ls, .ref x :: st, M) Q := by
  rw [xw_step]
  rfl
theorem q_aload14N {a0 a1 a2 a3 a4 a5 a6 a7 a8 a9 a10 a11 a12 a13 : Option Value} : xw d y ((pc, .aload 14, n, an) :: es) (a0 :: a1 :: a2 :: a3 :: a4 :: a5 :: a6 :: a7 :: a8 :: a9 :: a10 :: a11 :: a12 :: a13 :: some .null :: ls, st, M) Q = xw d y es (a0 :: a1 :: a2 :: a3 :: a4 :: a5 :: a6 :: a7 :: a8 :: a9 :: a10 :: a11 :: a12 :: a13 :: some .null :: ls, .null :: st, M) Q := by
  rw [xw_step]
  rfl
theorem q_istore14 {a0 a1 a2 a3 a4 a5 a6 a7 a8 a9 a10 a11 a12 a13 : Option Value} {b9 : Option Value} {x : Int32} : xw d y ((pc, .istore 14, n, an) :: es) (a0 :: a1 :: a2 :: a3 :: a4 :: a5 :: a6 :: a7 :: a8 :: a9 :: a10 :: a11 :: a12 :: a13 :: b9 :: ls, .int x :: st, M) Q = xw d y es (a0 :: a1 :: a2 :: a3 :: a4 :: a5 :: a6 :: a7 :: a8 :: a9 :: a10 :: a11 :: a12 :: a13 :: some (.int x) :: ls, st, M) Q := by
  rw [xw_step]
  show xr d y es _ Q (if 14 < (a0 :: a1 :: a2 :: a3 :: a4 :: a5 :: a6 :: a7 :: a8 :: a9 :: a10 :: a11 :: a12 :: a13 :: b9 :: ls : pLo).length then _ else none) = _
  rw [xr_g]
  exact propext ⟨fun q => q.2, fun q => ⟨by simp only [List.length_cons]; omega, q⟩⟩
theorem q_astore14 {a0 a1 a2 a3 a4 a5 a6 a7 a8 a9 a10 a11 a12 a13 : Option Value} {b9 : Option Value} {x : Nat} : xw d y ((pc, .astore 14, n, an) :: es) (a0 :: a1 :: a2 :: a3 :: a4 :: a5 :: a6 :: a7 :: a8 :: a9 :: a10 :: a11 :: a12 :: a13 :: b9 :: ls, .ref x :: st, M) Q = xw d y es (a0 :: a1 :: a2 :: a3 :: a4 :: a5 :: a6 :: a7 :: a8 :: a9 :: a10 :: a11 :: a12 :: a13 :: some (.ref x) :: ls, st, M) Q := by
  rw [xw_step]
  show xr d y es _ Q (if 14 < (a0 :: a1 :: a2 :: a3 :: a4 :: a5 :: a6 :: a7 :: a8 :: a9 :: a10 :: a11 :: a12 :: a13 :: b9 :: ls : pLo).length then _ else none) = _
  rw [xr_g]
  exact propext ⟨fun q => q.2, fun q => ⟨by simp only [List.length_cons]; omega, q⟩⟩
theorem q_astore14N {a0 a1 a2 a3 a4 a5 a6 a7 a8 a9 a10 a11 a12 a13 : Option Value} {b9 : Option Value} : xw d y ((pc, .astore 14, n, an) :: es) (a0 :: a1 :: a2 :: a3 :: a4 :: a5 :: a6 :: a7 :: a8 :: a9 :: a10 :: a11 :: a12 :: a13 :: b9 :: ls, .null :: st, M) Q = xw d y es (a0 :: a1 :: a2 :: a3 :: a4 :: a5 :: a6 :: a7 :: a8 :: a9 :: a10 :: a11 :: a12 :: a13 :: some .null :: ls, st, M) Q := by
  rw [xw_step]
  show xr d y es _ Q (if 14 < (a0 :: a1 :: a2 :: a3 :: a4 :: a5 :: a6 :: a7 :: a8 :: a9 :: a10 :: a11 :: a12 :: a13 :: b9 :: ls : pLo).length then _ else none) = _
  rw [xr_g]
  exact propext ⟨fun q => q.2, fun q => ⟨by simp only [List.length_cons]; omega, q⟩⟩
theorem q_iinc14 {a0 a1 a2 a3 a4 a5 a6 a7 a8 a9 a10 a11 a12 a13 : Option Value} {x : Int32} {i : Int} : xw d y ((pc, .iinc 14 i, n, an) :: es) (a0 :: a1 :: a2 :: a3 :: a4 :: a5 :: a6 :: a7 :: a8 :: a9 :: a10 :: a11 :: a12 :: a13 :: some (.int x) :: ls, st, M) Q = xw d y es (a0 :: a1 :: a2 :: a3 :: a4 :: a5 :: a6 :: a7 :: a8 :: a9 :: a10 :: a11 :: a12 :: a13 :: some (.int (x + iN i)) :: ls, st, M) Q := by
  rw [xw_step]
  rfl
theorem q_iload15 {a0 a1 a2 a3 a4 a5 a6 a7 a8 a9 a10 a11 a12 a13 a14 : Option Value} {x : Int32} : xw d y ((pc, .iload 15, n, an) :: es) (a0 :: a1 :: a2 :: a3 :: a4 :: a5 :: a6 :: a7 :: a8 :: a9 :: a10 :: a11 :: a12 :: a13 :: a14 :: some (.int x) :: ls, st, M) Q = xw d y es (a0 :: a1 :: a2 :: a3 :: a4 :: a5 :: a6 :: a7 :: a8 :: a9 :: a10 :: a11 :: a12 :: a13 :: a14 :: some (.int x) :: ls, .int x :: st, M) Q := by
  rw [xw_step]
  rfl
theorem q_aload15 {a0 a1 a2 a3 a4 a5 a6 a7 a8 a9 a10 a11 a12 a13 a14 : Option Value} {x : Nat} : xw d y ((pc, .aload 15, n, an) :: es) (a0 :: a1 :: a2 :: a3 :: a4 :: a5 :: a6 :: a7 :: a8 :: a9 :: a10 :: a11 :: a12 :: a13 :: a14 :: some (.ref x) :: ls, st, M) Q = xw d y es (a0 :: a1 :: a2 :: a3 :: a4 :: a5 :: a6 :: a7 :: a8 :: a9 :: a10 :: a11 :: a12 :: a13 :: a14 :: some (.ref x) :: ls, .ref x :: st, M) Q := by
  rw [xw_step]
  rfl
theorem q_aload15N {a0 a1 a2 a3 a4 a5 a6 a7 a8 a9 a10 a11 a12 a13 a14 : Option Value} : xw d y ((pc, .aload 15, n, an) :: es) (a0 :: a1 :: a2 :: a3 :: a4 :: a5 :: a6 :: a7 :: a8 :: a9 :: a10 :: a11 :: a12 :: a13 :: a14 :: some .null :: ls, st, M) Q = xw d y es (a0 :: a1 :: a2 :: a3 :: a4 :: a5 :: a6 :: a7 :: a8 :: a9 :: a10 :: a11 :: a12 :: a13 :: a14 :: some .null :: ls, .null :: st, M) Q := by
  rw [xw_step]
  rfl
theorem q_istore15 {a0 a1 a2 a3 a4 a5 a6 a7 a8 a9 a10 a11 a12 a13 a14 : Option Value} {b9 : Option Value} {x : Int32} : xw d y ((pc, .istore 15, n, an) :: es) (a0 :: a1 :: a2 :: a3 :: a4 :: a5 :: a6 :: a7 :: a8 :: a9 :: a10 :: a11 :: a12 :: a13 :: a14 :: b9 :: ls, .int x :: st, M) Q = xw d y es (a0 :: a1 :: a2 :: a3 :: a4 :: a5 :: a6 :: a7 :: a8 :: a9 :: a10 :: a11 :: a12 :: a13 :: a14 :: some (.int x) :: ls, st, M) Q := by
  rw [xw_step]
  show xr d y es _ Q (if 15 < (a0 :: a1 :: a2 :: a3 :: a4 :: a5 :: a6 :: a7 :: a8 :: a9 :: a10 :: a11 :: a12 :: a13 :: a14 :: b9 :: ls : pLo).length then _ else none) = _
  rw [xr_g]
  exact propext ⟨fun q => q.2, fun q => ⟨by simp only [List.length_cons]; omega, q⟩⟩
theorem q_astore15 {a0 a1 a2 a3 a4 a5 a6 a7 a8 a9 a10 a11 a12 a13 a14 : Option Value} {b9 : Option Value} {x : Nat} : xw d y ((pc, .astore 15, n, an) :: es) (a0 :: a1 :: a2 :: a3 :: a4 :: a5 :: a6 :: a7 :: a8 :: a9 :: a10 :: a11 :: a12 :: a13 :: a14 :: b9 :: ls, .ref x :: st, M) Q = xw d y es (a0 :: a1 :: a2 :: a3 :: a4 :: a5 :: a6 :: a7 :: a8 :: a9 :: a10 :: a11 :: a12 :: a13 :: a14 :: some (.ref x) :: ls, st, M) Q := by
  rw [xw_step]
  show xr d y es _ Q (if 15 < (a0 :: a1 :: a2 :: a3 :: a4 :: a5 :: a6 :: a7 :: a8 :: a9 :: a10 :: a11 :: a12 :: a13 :: a14 :: b9 :: ls : pLo).length then _ else none) = _
  rw [xr_g]
  exact propext ⟨fun q => q.2, fun q => ⟨by simp only [List.length_cons]; omega, q⟩⟩
theorem q_astore15N {a0 a1 a2 a3 a4 a5 a6 a7 a8 a9 a10 a11 a12 a13 a14 : Option Value} {b9 : Option Value} : xw d y ((pc, .astore 15, n, an) :: es) (a0 :: a1 :: a2 :: a3 :: a4 :: a5 :: a6 :: a7 :: a8 :: a9 :: a10 :: a11 :: a12 :: a13 :: a14 :: b9 :: ls, .null :: st, M) Q = xw d y es (a0 :: a1 :: a2 :: a3 :: a4 :: a5 :: a6 :: a7 :: a8 :: a9 :: a10 :: a11 :: a12 :: a13 :: a14 :: some .null :: ls, st, M) Q := by
  rw [xw_step]
  show xr d y es _ Q (if 15 < (a0 :: a1 :: a2 :: a3 :: a4 :: a5 :: a6 :: a7 :: a8 :: a9 :: a10 :: a11 :: a12 :: a13 :: a14 :: b9 :: ls : pLo).length then _ else none) = _
  rw [xr_g]
  exact propext ⟨fun q => q.2, fun q => ⟨by simp only [List.length_cons]; omega, q⟩⟩
theorem q_iinc15 {a0 a1 a2 a3 a4 a5 a6 a7 a8 a9 a10 a11 a12 a13 a14 : Option Value} {x : Int32} {i : Int} : xw d y ((pc, .iinc 15 i, n, an) :: es) (a0 :: a1 :: a2 :: a3 :: a4 :: a5 :: a6 :: a7 :: a8 :: a9 :: a10 :: a11 :: a12 :: a13 :: a14 :: some (.int x) :: ls, st, M) Q = xw d y es (a0 :: a1 :: a2 :: a3 :: a4 :: a5 :: a6 :: a7 :: a8 :: a9 :: a10 :: a11 :: a12 :: a13 :: a14 :: some (.int (x + iN i)) :: ls, st, M) Q := by
  rw [xw_step]
  rfl
theorem q_iadd {x y1 : Int32} : xw d y ((pc, .iadd, n, an) :: es) (ls, .int y1 :: .int x :: st, M) Q = xw d y es (ls, .int (x + y1) :: st, M) Q := by
  rw [xw_step]
  rfl
theorem q_isub {x y1 : Int32} : xw d y ((pc, .isub, n, an) :: es) (ls, .int y1 :: .int x :: st, M) Q = xw d y es (ls, .int (x - y1) :: st, M) Q := by
  rw [xw_step]
  rfl
theorem q_imul {x y1 : Int32} : xw d y ((pc, .imul, n, an) :: es) (ls, .int y1 :: .int x :: st, M) Q = xw d y es (ls, .int (x * y1) :: st, M) Q := by
  rw [xw_step]
  rfl
theorem q_iand {x y1 : Int32} : xw d y ((pc, .iand, n, an) :: es) (ls, .int y1 :: .int x :: st, M) Q = xw d y es (ls, .int (x &&& y1) :: st, M) Q := by
  rw [xw_step]
  rfl
theorem q_ior {x y1 : Int32} : xw d y ((pc, .ior, n, an) :: es) (ls, .int y1 :: .int x :: st, M) Q = xw d y es (ls, .int (x ||| y1) :: st, M) Q := by
  rw [xw_step]
  rfl
theorem q_ixor {x y1 : Int32} : xw d y ((pc, .ixor, n, an) :: es) (ls, .int y1 :: .int x :: st, M) Q = xw d y es (ls, .int (x ^^^ y1) :: st, M) Q := by
  rw [xw_step]
  rfl
theorem q_ishl {x y1 : Int32} : xw d y ((pc, .ishl, n, an) :: es) (ls, .int y1 :: .int x :: st, M) Q = xw d y es (ls, .int (x <<< (y1 &&& 31)) :: st, M) Q := by
  rw [xw_step]
  rfl
theorem q_ishr {x y1 : Int32} : xw d y ((pc, .ishr, n, an) :: es) (ls, .int y1 :: .int x :: st, M) Q = xw d y es (ls, .int (x >>> (y1 &&& 31)) :: st, M) Q := by
  rw [xw_step]
  rfl
theorem q_iushr {x y1 : Int32} : xw d y ((pc, .iushr, n, an) :: es) (ls, .int y1 :: .int x :: st, M) Q = xw d y es (ls, .int ((x.toUInt32 >>> (y1.toUInt32 &&& Int32.toUInt32 31)).toInt32) :: st, M) Q := by
  rw [xw_step]
  rfl
theorem q_idiv {x y1 : Int32} : xw d y ((pc, .idiv, n, an) :: es) (ls, .int y1 :: .int x :: st, M) Q = (¬ y1 = 0 ∧ xw d y es (ls, .int (x / y1) :: st, M) Q) := by
  rw [xw_step]
  show xr d y es _ Q (if y1 = 0 then none else _) = _
  by_cases h : y1 = 0
  · rw [if_pos h]; exact propext ⟨fun q => q.elim, fun q => absurd h q.1⟩
  · rw [if_neg h]; exact propext ⟨fun q => ⟨h, q⟩, fun q => q.2⟩
theorem q_irem {x y1 : Int32} : xw d y ((pc, .irem, n, an) :: es) (ls, .int y1 :: .int x :: st, M) Q = (¬ y1 = 0 ∧ xw d y es (ls, .int (x - x / y1 * y1) :: st, M) Q) := by
  rw [xw_step]
  show xr d y es _ Q (if y1 = 0 then none else _) = _
  by_cases h : y1 = 0
  · rw [if_pos h]; exact propext ⟨fun q => q.elim, fun q => absurd h q.1⟩
  · rw [if_neg h]; exact propext ⟨fun q => ⟨h, q⟩, fun q => q.2⟩
theorem q_ineg {x : Int32} : xw d y ((pc, .ineg, n, an) :: es) (ls, .int x :: st, M) Q = xw d y es (ls, .int (-x) :: st, M) Q := by
  rw [xw_step]
  rfl
theorem q_i2l {x : Int32} : xw d y ((pc, .i2l, n, an) :: es) (ls, .int x :: st, M) Q = xw d y es (ls, .long x.toInt64 :: st, M) Q := by
  rw [xw_step]
  rfl
theorem q_lcmp {x y1 : Int64} : xw d y ((pc, .lcmp, n, an) :: es) (ls, .long y1 :: .long x :: st, M) Q = xw d y es (ls, .int (lg_cmp x y1) :: st, M) Q := by
  rw [xw_step]
  rfl
theorem q_dup_i {x : Int32} : xw d y ((pc, .dup, n, an) :: es) (ls, .int x :: st, M) Q = xw d y es (ls, .int x :: .int x :: st, M) Q := by
  rw [xw_step]
  rfl
theorem q_dup_r {x : Nat} : xw d y ((pc, .dup, n, an) :: es) (ls, .ref x :: st, M) Q = xw d y es (ls, .ref x :: .ref x :: st, M) Q := by
  rw [xw_step]
  rfl
theorem q_dup2 {x : Int32} {h : Nat} : xw d y ((pc, .dup2, n, an) :: es) (ls, .int x :: .ref h :: st, M) Q = xw d y es (ls, .int x :: .ref h :: .int x :: .ref h :: st, M) Q := by
  rw [xw_step]
  rfl
theorem q_pop_i {x : Int32} : xw d y ((pc, .pop, n, an) :: es) (ls, .int x :: st, M) Q = xw d y es (ls, st, M) Q := by
  rw [xw_step]
  rfl
theorem q_pop_r {x : Nat} : xw d y ((pc, .pop, n, an) :: es) (ls, .ref x :: st, M) Q = xw d y es (ls, st, M) Q := by
  rw [xw_step]
  rfl
theorem q_if_eq {x : Int32} {o : Int} {b : Nat} {r : List Nat} : xw d y ((pc, .ifCond .eq o, n, b :: r) :: es) (ls, .int x :: st, M) Q = ((x = 0 → bw d y b (ls, st, M) Q) ∧ (¬ x = 0 → xw d y es (ls, st, M) Q)) := by
  rw [xw_step]
  exact xr_if
theorem q_if_lt {x : Int32} {o : Int} {b : Nat} {r : List Nat} : xw d y ((pc, .ifCond .lt o, n, b :: r) :: es) (ls, .int x :: st, M) Q = ((x < 0 → bw d y b (ls, st, M) Q) ∧ (¬ x < 0 → xw d y es (ls, st, M) Q)) := by
  rw [xw_step]
  exact xr_if
theorem q_if_ge {x : Int32} {o : Int} {b : Nat} {r : List Nat} : xw d y ((pc, .ifCond .ge o, n, b :: r) :: es) (ls, .int x :: st, M) Q = ((0 ≤ x → bw d y b (ls, st, M) Q) ∧ (¬ 0 ≤ x → xw d y es (ls, st, M) Q)) := by
  rw [xw_step]
  exact xr_if
theorem q_if_gt {x : Int32} {o : Int} {b : Nat} {r : List Nat} : xw d y ((pc, .ifCond .gt o, n, b :: r) :: es) (ls, .int x :: st, M) Q = ((0 < x → bw d y b (ls, st, M) Q) ∧ (¬ 0 < x → xw d y es (ls, st, M) Q)) := by
  rw [xw_step]
  exact xr_if
theorem q_if_le {x : Int32} {o : Int} {b : Nat} {r : List Nat} : xw d y ((pc, .ifCond .le o, n, b :: r) :: es) (ls, .int x :: st, M) Q = ((x ≤ 0 → bw d y b (ls, st, M) Q) ∧ (¬ x ≤ 0 → xw d y es (ls, st, M) Q)) := by
  rw [xw_step]
  exact xr_if
theorem q_if_ne {x : Int32} {o : Int} {b : Nat} {r : List Nat} : xw d y ((pc, .ifCond .ne o, n, b :: r) :: es) (ls, .int x :: st, M) Q = ((x = 0 → xw d y es (ls, st, M) Q) ∧ (¬ x = 0 → bw d y b (ls, st, M) Q)) := by
  rw [xw_step]
  refine (xr_if).trans ?_
  exact propext ⟨fun q => ⟨fun h => q.2 (fun z => z h), q.1⟩, fun q => ⟨q.2, fun h => q.1 (Classical.not_not.mp h)⟩⟩
theorem q_ic_eq {x y1 : Int32} {o : Int} {b : Nat} {r : List Nat} : xw d y ((pc, .if_icmp .eq o, n, b :: r) :: es) (ls, .int y1 :: .int x :: st, M) Q = ((x = y1 → bw d y b (ls, st, M) Q) ∧ (¬ x = y1 → xw d y es (ls, st, M) Q)) := by
  rw [xw_step]
  exact xr_if
theorem q_ic_lt {x y1 : Int32} {o : Int} {b : Nat} {r : List Nat} : xw d y ((pc, .if_icmp .lt o, n, b :: r) :: es) (ls, .int y1 :: .int x :: st, M) Q = ((x < y1 → bw d y b (ls, st, M) Q) ∧ (¬ x < y1 → xw d y es (ls, st, M) Q)) := by
  rw [xw_step]
  exact xr_if
theorem q_ic_ge {x y1 : Int32} {o : Int} {b : Nat} {r : List Nat} : xw d y ((pc, .if_icmp .ge o, n, b :: r) :: es) (ls, .int y1 :: .int x :: st, M) Q = ((y1 ≤ x → bw d y b (ls, st, M) Q) ∧ (¬ y1 ≤ x → xw d y es (ls, st, M) Q)) := by
  rw [xw_step]
  exact xr_if
theorem q_ic_gt {x y1 : Int32} {o : Int} {b : Nat} {r : List Nat} : xw d y ((pc, .if_icmp .gt o, n, b :: r) :: es) (ls, .int y1 :: .int x :: st, M) Q = ((y1 < x → bw d y b (ls, st, M) Q) ∧ (¬ y1 < x → xw d y es (ls, st, M) Q)) := by
  rw [xw_step]
  exact xr_if
theorem q_ic_le {x y1 : Int32} {o : Int} {b : Nat} {r : List Nat} : xw d y ((pc, .if_icmp .le o, n, b :: r) :: es) (ls, .int y1 :: .int x :: st, M) Q = ((x ≤ y1 → bw d y b (ls, st, M) Q) ∧ (¬ x ≤ y1 → xw d y es (ls, st, M) Q)) := by
  rw [xw_step]
  exact xr_if
theorem q_ic_ne {x y1 : Int32} {o : Int} {b : Nat} {r : List Nat} : xw d y ((pc, .if_icmp .ne o, n, b :: r) :: es) (ls, .int y1 :: .int x :: st, M) Q = ((x = y1 → xw d y es (ls, st, M) Q) ∧ (¬ x = y1 → bw d y b (ls, st, M) Q)) := by
  rw [xw_step]
  refine (xr_if).trans ?_
  exact propext ⟨fun q => ⟨fun h => q.2 (fun z => z h), q.1⟩, fun q => ⟨q.2, fun h => q.1 (Classical.not_not.mp h)⟩⟩
theorem q_ifnull_r {o : Int} {b : Nat} {r : List Nat} {x : Nat} : xw d y ((pc, .ifnull o, n, b :: r) :: es) (ls, .ref x :: st, M) Q = xw d y es (ls, st, M) Q := by
  rw [xw_step]
  rfl
theorem q_ifnull_n {o : Int} {b : Nat} {r : List Nat} : xw d y ((pc, .ifnull o, n, b :: r) :: es) (ls, .null :: st, M) Q = bw d y b (ls, st, M) Q := by
  rw [xw_step]
  rfl
theorem q_ifnonnull_r {o : Int} {b : Nat} {r : List Nat} {x : Nat} : xw d y ((pc, .ifnonnull o, n, b :: r) :: es) (ls, .ref x :: st, M) Q = bw d y b (ls, st, M) Q := by
  rw [xw_step]
  rfl
theorem q_ifnonnull_n {o : Int} {b : Nat} {r : List Nat} : xw d y ((pc, .ifnonnull o, n, b :: r) :: es) (ls, .null :: st, M) Q = xw d y es (ls, st, M) Q := by
  rw [xw_step]
  rfl
theorem q_goto {o : Int} {b : Nat} {r : List Nat} : xw d y ((pc, .goto o, n, b :: r) :: es) (ls, st, M) Q = bw d y b (ls, st, M) Q := by
  rw [xw_step]
  rfl
theorem q_nop {b : Nat} {r : List Nat} : xw d y ((pc, .nop, n, b :: r) :: es) (ls, st, M) Q = bw d y b (ls, st, M) Q := by
  rw [xw_step]
  rfl
/-- a switch's block -/
def swt (d y : Nat) (ls : pLo) (st : List Value) (M : pMem) (Q : pOut → pMem → Prop) : Option Nat → Prop
  | some b => bw d y b (ls, st, M) Q
  | none => False
theorem xr_sw {k : Nat} {x : Int32} {f : Int32 → Option Nat} : xr d y es k Q (pSw (ls, .int x :: st, M) f) = swt d y ls st M Q (f x) := by
  unfold pSw
  dsimp only
  cases f x <;> rfl
theorem q_table {x : Int32} {df lo hi : Int} {os : Array Int} : xw d y ((pc, .tableswitch df lo hi os, n, an) :: es) (ls, .int x :: st, M) Q = swt d y ls st M Q (if x.toInt < lo ∨ hi < x.toInt then an.head? else an[(x.toInt - lo).toNat + 1]?) := by
  rw [xw_step]
  exact xr_sw (f := fun x => if x.toInt < lo ∨ hi < x.toInt then an.head? else an[(x.toInt - lo).toNat + 1]?)
theorem q_lookup {x : Int32} {df : Int} {ps : Array (Int × Int)} : xw d y ((pc, .lookupswitch df ps, n, an) :: es) (ls, .int x :: st, M) Q = swt d y ls st M Q (pLk ps.toList an.tail (an.headD 0) x.toInt) := by
  rw [xw_step]
  exact xr_sw (f := fun x => pLk ps.toList an.tail (an.headD 0) x.toInt)
theorem q_get_i {i k a b c h : Nat} : xw d y ((pc, .getfield i, n, k :: 0 :: a :: b :: c :: ts) :: es) (ls, .ref h :: st, M) Q = (pTag M h ts = true ∧ xw d y es (ls, .int (gI M h k) :: st, M) Q) := by
  rw [xw_step]
  exact xr_g
theorem q_get_z {i k a b c h : Nat} : xw d y ((pc, .getfield i, n, k :: 2 :: a :: b :: c :: ts) :: es) (ls, .ref h :: st, M) Q = (pTag M h ts = true ∧ xw d y es (ls, .int (gI M h k) :: st, M) Q) := by
  rw [xw_step]
  exact xr_g
theorem q_get_r {i k a b c h : Nat} : xw d y ((pc, .getfield i, n, k :: 1 :: a :: b :: c :: ts) :: es) (ls, .ref h :: st, M) Q = (pTag M h ts = true ∧ xw d y es (ls, pRf (gP M h k) :: st, M) Q) := by
  rw [xw_step]
  exact xr_g
theorem q_put_i {i k a b c h : Nat} {x : Int32} : xw d y ((pc, .putfield i, n, k :: 0 :: a :: b :: c :: ts) :: es) (ls, .int x :: .ref h :: st, M) Q = (pTag M h ts = true ∧ xw d y es (ls, st, sI M h k x) Q) := by
  rw [xw_step]
  refine (xr_g).trans ?_
  exact propext ⟨fun q => ⟨q.1.1, q.2⟩, fun q => ⟨⟨q.1, Or.inl rfl⟩, q.2⟩⟩
theorem q_put_z {i k a b c h : Nat} {x : Int32} : xw d y ((pc, .putfield i, n, k :: 2 :: a :: b :: c :: ts) :: es) (ls, .int x :: .ref h :: st, M) Q = (pTag M h ts = true ∧ (x = 0 ∨ x = 1) ∧ xw d y es (ls, st, sI M h k x) Q) := by
  rw [xw_step]
  refine (xr_g).trans ?_
  exact propext ⟨fun q => ⟨q.1.1, by rcases q.1.2 with h9 | h9; cases h9; exact h9.2, q.2⟩, fun q => ⟨⟨q.1, Or.inr ⟨rfl, q.2.1⟩⟩, q.2.2⟩⟩
theorem q_put_r {i k a b c h : Nat} {x : Nat} : xw d y ((pc, .putfield i, n, k :: 1 :: a :: b :: c :: ts) :: es) (ls, .ref x :: .ref h :: st, M) Q = (pTag M h ts = true ∧ xw d y es (ls, st, sP M h k (some x)) Q) := by
  rw [xw_step]
  refine (xr_g).trans ?_
  exact propext ⟨fun q => ⟨q.1.1, q.2⟩, fun q => ⟨⟨q.1, rfl⟩, q.2⟩⟩
theorem q_iald {h : Nat} {i : Int32} : xw d y ((pc, .iaload, n, an) :: es) (ls, .int i :: .ref h :: st, M) Q = (((gS M h).1 = 100 ∨ (gS M h).1 = 103) ∧ pIn i (gS M h).2 = true ∧ xw d y es (ls, .int (gI M h (pIx i)) :: st, M) Q) := by
  rw [xw_step]
  refine (xr_g).trans ?_
  exact propext ⟨fun q => ⟨q.1.1, q.1.2, q.2⟩, fun q => ⟨⟨q.1, q.2.1⟩, q.2.2⟩⟩
theorem q_iast {h : Nat} {i : Int32} {x : Int32} : xw d y ((pc, .iastore, n, an) :: es) (ls, .int x :: .int i :: .ref h :: st, M) Q = ((gS M h).1 = 100 ∧ pIn i (gS M h).2 = true ∧ xw d y es (ls, st, sI M h (pIx i) x) Q) := by
  rw [xw_step]
  refine (xr_g).trans ?_
  exact propext ⟨fun q => ⟨q.1.1, q.1.2, q.2⟩, fun q => ⟨⟨q.1, q.2.1⟩, q.2.2⟩⟩
theorem q_lald {h : Nat} {i : Int32} : xw d y ((pc, .laload, n, an) :: es) (ls, .int i :: .ref h :: st, M) Q = ((gS M h).1 = 101 ∧ pIn i (gS M h).2 = true ∧ xw d y es (ls, .long (gJ M h (pIx i)) :: st, M) Q) := by
  rw [xw_step]
  refine (xr_g).trans ?_
  exact propext ⟨fun q => ⟨q.1.1, q.1.2, q.2⟩, fun q => ⟨⟨q.1, q.2.1⟩, q.2.2⟩⟩
theorem q_last {h : Nat} {i : Int32} {x : Int64} : xw d y ((pc, .lastore, n, an) :: es) (ls, .long x :: .int i :: .ref h :: st, M) Q = ((gS M h).1 = 101 ∧ pIn i (gS M h).2 = true ∧ xw d y es (ls, st, sJ M h (pIx i) x) Q) := by
  rw [xw_step]
  refine (xr_g).trans ?_
  exact propext ⟨fun q => ⟨q.1.1, q.1.2, q.2⟩, fun q => ⟨⟨q.1, q.2.1⟩, q.2.2⟩⟩
theorem q_aald {h : Nat} {i : Int32} : xw d y ((pc, .aaload, n, an) :: es) (ls, .int i :: .ref h :: st, M) Q = ((gS M h).1 = 102 ∧ pIn i (gS M h).2 = true ∧ xw d y es (ls, pRf (gP M h (pIx i)) :: st, M) Q) := by
  rw [xw_step]
  refine (xr_g).trans ?_
  exact propext ⟨fun q => ⟨q.1.1, q.1.2, q.2⟩, fun q => ⟨⟨q.1, q.2.1⟩, q.2.2⟩⟩
theorem q_aast_r {h : Nat} {i : Int32} {x : Nat} : xw d y ((pc, .aastore, n, an) :: es) (ls, .ref x :: .int i :: .ref h :: st, M) Q = ((gS M h).1 = 102 ∧ pIn i (gS M h).2 = true ∧ (gS M x).1 = 7 ∧ xw d y es (ls, st, sP M h (pIx i) (some x)) Q) := by
  rw [xw_step]
  refine (xr_g).trans ?_
  exact propext ⟨fun q => ⟨q.1.1, q.1.2.1, q.1.2.2, q.2⟩, fun q => ⟨⟨q.1, q.2.1, q.2.2.1⟩, q.2.2.2⟩⟩
theorem q_aast_n {h : Nat} {i : Int32} : xw d y ((pc, .aastore, n, an) :: es) (ls, .null :: .int i :: .ref h :: st, M) Q = ((gS M h).1 = 102 ∧ pIn i (gS M h).2 = true ∧ xw d y es (ls, st, sP M h (pIx i) none) Q) := by
  rw [xw_step]
  refine (xr_g).trans ?_
  exact propext ⟨fun q => ⟨q.1.1, q.1.2, q.2⟩, fun q => ⟨⟨q.1, q.2.1⟩, q.2.2⟩⟩
theorem q_alen {h : Nat} : xw d y ((pc, .arraylength, n, an) :: es) (ls, .ref h :: st, M) Q = ((100 ≤ (gS M h).1 ∧ (gS M h).1 ≤ 103) ∧ xw d y es (ls, .int (iN (gS M h).2) :: st, M) Q) := by
  rw [xw_step]
  exact xr_g
theorem q_newa {i9 : Nat} {k : Int32} : xw d y ((pc, .newarray .int, n, an) :: es) (ls, .int k :: st, M) Q = ((0 ≤ k.toInt ∧ k.toInt < 1000000) ∧ xw d y es (ls, .ref (gN M) :: st, nw M 100 (pIx k) (pIx k)) Q) := by
  rw [xw_step]
  exact xr_g
theorem q_newl {i9 : Nat} {k : Int32} : xw d y ((pc, .newarray .long, n, an) :: es) (ls, .int k :: st, M) Q = ((0 ≤ k.toInt ∧ k.toInt < 1000000) ∧ xw d y es (ls, .ref (gN M) :: st, nw M 101 (pIx k) (pIx k)) Q) := by
  rw [xw_step]
  exact xr_g
theorem q_newq {i9 : Nat} {k : Int32} : xw d y ((pc, .anewarray i9, n, an) :: es) (ls, .int k :: st, M) Q = ((0 ≤ k.toInt ∧ k.toInt < 1000000) ∧ xw d y es (ls, .ref (gN M) :: st, nw M 102 (pIx k) (pIx k)) Q) := by
  rw [xw_step]
  exact xr_g
theorem q_new {i t k : Nat} {r : List Nat} : xw d y ((pc, .new i, n, 1 :: t :: k :: r) :: es) (ls, st, M) Q = xw d y es (ls, .ref (gN M) :: st, nw M t 0 k) Q := by
  rw [xw_step]
  rfl
theorem q_thr {i k : Nat} {r : List Nat} : xw d y ((pc, .new i, n, 2 :: k :: r) :: es) (ls, st, M) Q = (pRm st ≤ 8 ∧ Q (.inr k) (nx M)) := by
  rw [xw_step]
  exact xr_g
theorem q_obj {i h : Nat} {r : List Nat} : xw d y ((pc, .invokespecial i, n, 0 :: r) :: es) (ls, .ref h :: st, M) Q = (pRm st ≤ 8 ∧ xw d y es (ls, st, M) Q) := by
  rw [xw_step]
  exact xr_g
theorem q_max {i : Nat} {r : List Nat} {x y1 : Int32} : xw d y ((pc, .invokestatic i, n, 1 :: r) :: es) (ls, .int y1 :: .int x :: st, M) Q = (pRm (.int y1 :: .int x :: st) ≤ 16 ∧ xw d y es (ls, .int (if x < y1 then y1 else x) :: st, M) Q) := by
  rw [xw_step]
  exact xr_g
theorem q_min {i : Nat} {r : List Nat} {x y1 : Int32} : xw d y ((pc, .invokestatic i, n, 2 :: r) :: es) (ls, .int y1 :: .int x :: st, M) Q = (pRm (.int y1 :: .int x :: st) ≤ 16 ∧ xw d y es (ls, .int (if y1 < x then y1 else x) :: st, M) Q) := by
  rw [xw_step]
  exact xr_g
theorem q_cpy {i a b : Nat} {r : List Nat} {k dp sq : Int32} : xw d y ((pc, .invokestatic i, n, 3 :: r) :: es) (ls, .int k :: .int dp :: .ref b :: .int sq :: .ref a :: st, M) Q = (((gS M a).1 = 100 ∧ (gS M b).1 = 100 ∧ a ≠ b ∧ 0 ≤ sq.toInt ∧ 0 ≤ dp.toInt ∧ 0 ≤ k.toInt ∧ pIx sq + pIx k ≤ (gS M a).2 ∧ pIx dp + pIx k ≤ (gS M b).2 ∧ pRm st ≤ 8) ∧ xw d y es (ls, st, sR M b (va_cpy (gI M a) (gI M b) (pIx sq) (pIx dp) (pIx k))) Q) := by
  rw [xw_step]
  exact xr_g
/-- a call on an object -/
def inv (d y : Nat) (es : List pEnt) (kind : Nat) (ls : pLo) (h : Nat) (as st : List Value) (M : pMem) (Q : pOut → pMem → Prop) : Option Nat → Prop
  | some z => pRm st ≤ 8 ∧ mw d z (.ref h :: as) M (kont d y es kind ls st Q)
  | none => False
theorem inv_1 {kind h t z : Nat} {as : List Value} : inv d y es kind ls h as st M Q (pFind (gS M h).1 [t, z]) = ((gS M h).1 = t ∧ pRm st ≤ 8 ∧ mw d z (.ref h :: as) M (kont d y es kind ls st Q)) := by
  unfold pFind
  split
  · rename_i e
    exact propext ⟨fun q => ⟨e.symm, q⟩, fun q => q.2⟩
  · rename_i e
    exact propext ⟨fun q => q.elim, fun q => absurd q.1.symm e⟩
theorem inv_2 {kind h t z t2 : Nat} {as : List Value} : inv d y es kind ls h as st M Q (pFind (gS M h).1 [t, z, t2, z]) = (((gS M h).1 = t ∨ (gS M h).1 = t2) ∧ pRm st ≤ 8 ∧ mw d z (.ref h :: as) M (kont d y es kind ls st Q)) := by
  unfold pFind
  split
  · rename_i e
    exact propext ⟨fun q => ⟨Or.inl e.symm, q⟩, fun q => q.2⟩
  · rename_i e
    rw [inv_1]
    exact propext ⟨fun q => ⟨Or.inr q.1, q.2⟩, fun q => ⟨q.1.resolve_left (fun z => e z.symm), q.2⟩⟩
theorem xr_inv {kind n9 : Nat} {zs : List Nat} {h : Nat} {as st0 : List Value} (h1 : st0.drop n9 = .ref h :: st) (h2 : (st0.take n9).reverse = as) (h3 : (st0.take n9).length = n9) : xr d y es kind Q (pInvV (ls, st0, M) n9 zs) = inv d y es kind ls h as st M Q (pFind (gS M h).1 zs) := by
  unfold pInvV
  dsimp only
  rw [h1]
  dsimp only
  cases pFind (gS M h).1 zs with
  | none => rfl
  | some z =>
    dsimp only
    rw [xr_g, h2]
    exact propext ⟨fun q => ⟨q.1.1, q.2⟩, fun q => ⟨⟨q.1, h3⟩, q.2⟩⟩
theorem xr_invS {kind n9 z : Nat} {as st0 : List Value} (h1 : st0.drop n9 = st) (h2 : (st0.take n9).reverse = as) (h3 : (st0.take n9).length = n9) : xr d y es kind Q (pInvS (ls, st0, M) n9 z) = (pRm st ≤ 8 ∧ mw d z as M (kont d y es kind ls st Q)) := by
  unfold pInvS
  dsimp only
  rw [xr_g, h2, h1]
  exact propext ⟨fun q => ⟨q.1.1, q.2⟩, fun q => ⟨⟨q.1, h3⟩, q.2⟩⟩
theorem q_invv0 {i kind p0 p1 h : Nat} {zs : List Nat} : xw d y ((pc, .invokevirtual i, n, kind :: 0 :: p0 :: p1 :: zs) :: es) (ls, .ref h :: st, M) Q = inv d y es kind ls h [] st M Q (pFind (gS M h).1 zs) := by
  rw [xw_step]
  exact xr_inv (n9 := 0) (st0 := .ref h :: st) (as := []) rfl rfl rfl
theorem q_invi0_14 {i p0 p1 h : Nat} {zs : List Nat} : xw d y ((pc, .invokespecial i, n, 14 :: 0 :: p0 :: p1 :: zs) :: es) (ls, .ref h :: st, M) Q = inv d y es 14 ls h [] st M Q (pFind (gS M h).1 zs) := by
  rw [xw_step]
  exact xr_inv (n9 := 0) (st0 := .ref h :: st) (as := []) rfl rfl rfl
theorem q_invi0_15 {i p0 p1 h : Nat} {zs : List Nat} : xw d y ((pc, .invokespecial i, n, 15 :: 0 :: p0 :: p1 :: zs) :: es) (ls, .ref h :: st, M) Q = inv d y es 15 ls h [] st M Q (pFind (gS M h).1 zs) := by
  rw [xw_step]
  exact xr_inv (n9 := 0) (st0 := .ref h :: st) (as := []) rfl rfl rfl
theorem q_invs0_20 {i p0 p1 z : Nat} : xw d y ((pc, .invokestatic i, n, [20, 0, p0, p1, z]) :: es) (ls, st, M) Q = (pRm st ≤ 8 ∧ mw d z [] M (kont d y es 20 ls st Q)) := by
  rw [xw_step]
  exact xr_invS (n9 := 0) (st0 := st) (as := []) rfl rfl rfl
theorem q_invs0_21 {i p0 p1 z : Nat} : xw d y ((pc, .invokestatic i, n, [21, 0, p0, p1, z]) :: es) (ls, st, M) Q = (pRm st ≤ 8 ∧ mw d z [] M (kont d y es 21 ls st Q)) := by
  rw [xw_step]
  exact xr_invS (n9 := 0) (st0 := st) (as := []) rfl rfl rfl
theorem q_invs0_22 {i p0 p1 z : Nat} : xw d y ((pc, .invokestatic i, n, [22, 0, p0, p1, z]) :: es) (ls, st, M) Q = (pRm st ≤ 8 ∧ mw d z [] M (kont d y es 22 ls st Q)) := by
  rw [xw_step]
  exact xr_invS (n9 := 0) (st0 := st) (as := []) rfl rfl rfl
theorem q_invv1 {b1 : Value} {i kind p0 p1 h : Nat} {zs : List Nat} : xw d y ((pc, .invokevirtual i, n, kind :: 1 :: p0 :: p1 :: zs) :: es) (ls, b1 :: .ref h :: st, M) Q = inv d y es kind ls h [b1] st M Q (pFind (gS M h).1 zs) := by
  rw [xw_step]
  exact xr_inv (n9 := 1) (st0 := b1 :: .ref h :: st) (as := [b1]) rfl rfl rfl
theorem q_invi1_14 {b1 : Value} {i p0 p1 h : Nat} {zs : List Nat} : xw d y ((pc, .invokespecial i, n, 14 :: 1 :: p0 :: p1 :: zs) :: es) (ls, b1 :: .ref h :: st, M) Q = inv d y es 14 ls h [b1] st M Q (pFind (gS M h).1 zs) := by
  rw [xw_step]
  exact xr_inv (n9 := 1) (st0 := b1 :: .ref h :: st) (as := [b1]) rfl rfl rfl
theorem q_invi1_15 {b1 : Value} {i p0 p1 h : Nat} {zs : List Nat} : xw d y ((pc, .invokespecial i, n, 15 :: 1 :: p0 :: p1 :: zs) :: es) (ls, b1 :: .ref h :: st, M) Q = inv d y es 15 ls h [b1] st M Q (pFind (gS M h).1 zs) := by
  rw [xw_step]
  exact xr_inv (n9 := 1) (st0 := b1 :: .ref h :: st) (as := [b1]) rfl rfl rfl
theorem q_invs1_20 {b1 : Value} {i p0 p1 z : Nat} : xw d y ((pc, .invokestatic i, n, [20, 1, p0, p1, z]) :: es) (ls, b1 :: st, M) Q = (pRm st ≤ 8 ∧ mw d z [b1] M (kont d y es 20 ls st Q)) := by
  rw [xw_step]
  exact xr_invS (n9 := 1) (st0 := b1 :: st) (as := [b1]) rfl rfl rfl
theorem q_invs1_21 {b1 : Value} {i p0 p1 z : Nat} : xw d y ((pc, .invokestatic i, n, [21, 1, p0, p1, z]) :: es) (ls, b1 :: st, M) Q = (pRm st ≤ 8 ∧ mw d z [b1] M (kont d y es 21 ls st Q)) := by
  rw [xw_step]
  exact xr_invS (n9 := 1) (st0 := b1 :: st) (as := [b1]) rfl rfl rfl
theorem q_invs1_22 {b1 : Value} {i p0 p1 z : Nat} : xw d y ((pc, .invokestatic i, n, [22, 1, p0, p1, z]) :: es) (ls, b1 :: st, M) Q = (pRm st ≤ 8 ∧ mw d z [b1] M (kont d y es 22 ls st Q)) := by
  rw [xw_step]
  exact xr_invS (n9 := 1) (st0 := b1 :: st) (as := [b1]) rfl rfl rfl
theorem q_invv2 {b1 b2 : Value} {i kind p0 p1 h : Nat} {zs : List Nat} : xw d y ((pc, .invokevirtual i, n, kind :: 2 :: p0 :: p1 :: zs) :: es) (ls, b2 :: b1 :: .ref h :: st, M) Q = inv d y es kind ls h [b1, b2] st M Q (pFind (gS M h).1 zs) := by
  rw [xw_step]
  exact xr_inv (n9 := 2) (st0 := b2 :: b1 :: .ref h :: st) (as := [b1, b2]) rfl rfl rfl
theorem q_invi2_14 {b1 b2 : Value} {i p0 p1 h : Nat} {zs : List Nat} : xw d y ((pc, .invokespecial i, n, 14 :: 2 :: p0 :: p1 :: zs) :: es) (ls, b2 :: b1 :: .ref h :: st, M) Q = inv d y es 14 ls h [b1, b2] st M Q (pFind (gS M h).1 zs) := by
  rw [xw_step]
  exact xr_inv (n9 := 2) (st0 := b2 :: b1 :: .ref h :: st) (as := [b1, b2]) rfl rfl rfl
theorem q_invi2_15 {b1 b2 : Value} {i p0 p1 h : Nat} {zs : List Nat} : xw d y ((pc, .invokespecial i, n, 15 :: 2 :: p0 :: p1 :: zs) :: es) (ls, b2 :: b1 :: .ref h :: st, M) Q = inv d y es 15 ls h [b1, b2] st M Q (pFind (gS M h).1 zs) := by
  rw [xw_step]
  exact xr_inv (n9 := 2) (st0 := b2 :: b1 :: .ref h :: st) (as := [b1, b2]) rfl rfl rfl
theorem q_invs2_20 {b1 b2 : Value} {i p0 p1 z : Nat} : xw d y ((pc, .invokestatic i, n, [20, 2, p0, p1, z]) :: es) (ls, b2 :: b1 :: st, M) Q = (pRm st ≤ 8 ∧ mw d z [b1, b2] M (kont d y es 20 ls st Q)) := by
  rw [xw_step]
  exact xr_invS (n9 := 2) (st0 := b2 :: b1 :: st) (as := [b1, b2]) rfl rfl rfl
theorem q_invs2_21 {b1 b2 : Value} {i p0 p1 z : Nat} : xw d y ((pc, .invokestatic i, n, [21, 2, p0, p1, z]) :: es) (ls, b2 :: b1 :: st, M) Q = (pRm st ≤ 8 ∧ mw d z [b1, b2] M (kont d y es 21 ls st Q)) := by
  rw [xw_step]
  exact xr_invS (n9 := 2) (st0 := b2 :: b1 :: st) (as := [b1, b2]) rfl rfl rfl
theorem q_invs2_22 {b1 b2 : Value} {i p0 p1 z : Nat} : xw d y ((pc, .invokestatic i, n, [22, 2, p0, p1, z]) :: es) (ls, b2 :: b1 :: st, M) Q = (pRm st ≤ 8 ∧ mw d z [b1, b2] M (kont d y es 22 ls st Q)) := by
  rw [xw_step]
  exact xr_invS (n9 := 2) (st0 := b2 :: b1 :: st) (as := [b1, b2]) rfl rfl rfl
theorem q_invv3 {b1 b2 b3 : Value} {i kind p0 p1 h : Nat} {zs : List Nat} : xw d y ((pc, .invokevirtual i, n, kind :: 3 :: p0 :: p1 :: zs) :: es) (ls, b3 :: b2 :: b1 :: .ref h :: st, M) Q = inv d y es kind ls h [b1, b2, b3] st M Q (pFind (gS M h).1 zs) := by
  rw [xw_step]
  exact xr_inv (n9 := 3) (st0 := b3 :: b2 :: b1 :: .ref h :: st) (as := [b1, b2, b3]) rfl rfl rfl
theorem q_invi3_14 {b1 b2 b3 : Value} {i p0 p1 h : Nat} {zs : List Nat} : xw d y ((pc, .invokespecial i, n, 14 :: 3 :: p0 :: p1 :: zs) :: es) (ls, b3 :: b2 :: b1 :: .ref h :: st, M) Q = inv d y es 14 ls h [b1, b2, b3] st M Q (pFind (gS M h).1 zs) := by
  rw [xw_step]
  exact xr_inv (n9 := 3) (st0 := b3 :: b2 :: b1 :: .ref h :: st) (as := [b1, b2, b3]) rfl rfl rfl
theorem q_invi3_15 {b1 b2 b3 : Value} {i p0 p1 h : Nat} {zs : List Nat} : xw d y ((pc, .invokespecial i, n, 15 :: 3 :: p0 :: p1 :: zs) :: es) (ls, b3 :: b2 :: b1 :: .ref h :: st, M) Q = inv d y es 15 ls h [b1, b2, b3] st M Q (pFind (gS M h).1 zs) := by
  rw [xw_step]
  exact xr_inv (n9 := 3) (st0 := b3 :: b2 :: b1 :: .ref h :: st) (as := [b1, b2, b3]) rfl rfl rfl
theorem q_invs3_20 {b1 b2 b3 : Value} {i p0 p1 z : Nat} : xw d y ((pc, .invokestatic i, n, [20, 3, p0, p1, z]) :: es) (ls, b3 :: b2 :: b1 :: st, M) Q = (pRm st ≤ 8 ∧ mw d z [b1, b2, b3] M (kont d y es 20 ls st Q)) := by
  rw [xw_step]
  exact xr_invS (n9 := 3) (st0 := b3 :: b2 :: b1 :: st) (as := [b1, b2, b3]) rfl rfl rfl
theorem q_invs3_21 {b1 b2 b3 : Value} {i p0 p1 z : Nat} : xw d y ((pc, .invokestatic i, n, [21, 3, p0, p1, z]) :: es) (ls, b3 :: b2 :: b1 :: st, M) Q = (pRm st ≤ 8 ∧ mw d z [b1, b2, b3] M (kont d y es 21 ls st Q)) := by
  rw [xw_step]
  exact xr_invS (n9 := 3) (st0 := b3 :: b2 :: b1 :: st) (as := [b1, b2, b3]) rfl rfl rfl
theorem q_invs3_22 {b1 b2 b3 : Value} {i p0 p1 z : Nat} : xw d y ((pc, .invokestatic i, n, [22, 3, p0, p1, z]) :: es) (ls, b3 :: b2 :: b1 :: st, M) Q = (pRm st ≤ 8 ∧ mw d z [b1, b2, b3] M (kont d y es 22 ls st Q)) := by
  rw [xw_step]
  exact xr_invS (n9 := 3) (st0 := b3 :: b2 :: b1 :: st) (as := [b1, b2, b3]) rfl rfl rfl
theorem q_invv4 {b1 b2 b3 b4 : Value} {i kind p0 p1 h : Nat} {zs : List Nat} : xw d y ((pc, .invokevirtual i, n, kind :: 4 :: p0 :: p1 :: zs) :: es) (ls, b4 :: b3 :: b2 :: b1 :: .ref h :: st, M) Q = inv d y es kind ls h [b1, b2, b3, b4] st M Q (pFind (gS M h).1 zs) := by
  rw [xw_step]
  exact xr_inv (n9 := 4) (st0 := b4 :: b3 :: b2 :: b1 :: .ref h :: st) (as := [b1, b2, b3, b4]) rfl rfl rfl
theorem q_invi4_14 {b1 b2 b3 b4 : Value} {i p0 p1 h : Nat} {zs : List Nat} : xw d y ((pc, .invokespecial i, n, 14 :: 4 :: p0 :: p1 :: zs) :: es) (ls, b4 :: b3 :: b2 :: b1 :: .ref h :: st, M) Q = inv d y es 14 ls h [b1, b2, b3, b4] st M Q (pFind (gS M h).1 zs) := by
  rw [xw_step]
  exact xr_inv (n9 := 4) (st0 := b4 :: b3 :: b2 :: b1 :: .ref h :: st) (as := [b1, b2, b3, b4]) rfl rfl rfl
theorem q_invi4_15 {b1 b2 b3 b4 : Value} {i p0 p1 h : Nat} {zs : List Nat} : xw d y ((pc, .invokespecial i, n, 15 :: 4 :: p0 :: p1 :: zs) :: es) (ls, b4 :: b3 :: b2 :: b1 :: .ref h :: st, M) Q = inv d y es 15 ls h [b1, b2, b3, b4] st M Q (pFind (gS M h).1 zs) := by
  rw [xw_step]
  exact xr_inv (n9 := 4) (st0 := b4 :: b3 :: b2 :: b1 :: .ref h :: st) (as := [b1, b2, b3, b4]) rfl rfl rfl
theorem q_invs4_20 {b1 b2 b3 b4 : Value} {i p0 p1 z : Nat} : xw d y ((pc, .invokestatic i, n, [20, 4, p0, p1, z]) :: es) (ls, b4 :: b3 :: b2 :: b1 :: st, M) Q = (pRm st ≤ 8 ∧ mw d z [b1, b2, b3, b4] M (kont d y es 20 ls st Q)) := by
  rw [xw_step]
  exact xr_invS (n9 := 4) (st0 := b4 :: b3 :: b2 :: b1 :: st) (as := [b1, b2, b3, b4]) rfl rfl rfl
theorem q_invs4_21 {b1 b2 b3 b4 : Value} {i p0 p1 z : Nat} : xw d y ((pc, .invokestatic i, n, [21, 4, p0, p1, z]) :: es) (ls, b4 :: b3 :: b2 :: b1 :: st, M) Q = (pRm st ≤ 8 ∧ mw d z [b1, b2, b3, b4] M (kont d y es 21 ls st Q)) := by
  rw [xw_step]
  exact xr_invS (n9 := 4) (st0 := b4 :: b3 :: b2 :: b1 :: st) (as := [b1, b2, b3, b4]) rfl rfl rfl
theorem q_invs4_22 {b1 b2 b3 b4 : Value} {i p0 p1 z : Nat} : xw d y ((pc, .invokestatic i, n, [22, 4, p0, p1, z]) :: es) (ls, b4 :: b3 :: b2 :: b1 :: st, M) Q = (pRm st ≤ 8 ∧ mw d z [b1, b2, b3, b4] M (kont d y es 22 ls st Q)) := by
  rw [xw_step]
  exact xr_invS (n9 := 4) (st0 := b4 :: b3 :: b2 :: b1 :: st) (as := [b1, b2, b3, b4]) rfl rfl rfl
theorem q_invv5 {b1 b2 b3 b4 b5 : Value} {i kind p0 p1 h : Nat} {zs : List Nat} : xw d y ((pc, .invokevirtual i, n, kind :: 5 :: p0 :: p1 :: zs) :: es) (ls, b5 :: b4 :: b3 :: b2 :: b1 :: .ref h :: st, M) Q = inv d y es kind ls h [b1, b2, b3, b4, b5] st M Q (pFind (gS M h).1 zs) := by
  rw [xw_step]
  exact xr_inv (n9 := 5) (st0 := b5 :: b4 :: b3 :: b2 :: b1 :: .ref h :: st) (as := [b1, b2, b3, b4, b5]) rfl rfl rfl
theorem q_invi5_14 {b1 b2 b3 b4 b5 : Value} {i p0 p1 h : Nat} {zs : List Nat} : xw d y ((pc, .invokespecial i, n, 14 :: 5 :: p0 :: p1 :: zs) :: es) (ls, b5 :: b4 :: b3 :: b2 :: b1 :: .ref h :: st, M) Q = inv d y es 14 ls h [b1, b2, b3, b4, b5] st M Q (pFind (gS M h).1 zs) := by
  rw [xw_step]
  exact xr_inv (n9 := 5) (st0 := b5 :: b4 :: b3 :: b2 :: b1 :: .ref h :: st) (as := [b1, b2, b3, b4, b5]) rfl rfl rfl
theorem q_invi5_15 {b1 b2 b3 b4 b5 : Value} {i p0 p1 h : Nat} {zs : List Nat} : xw d y ((pc, .invokespecial i, n, 15 :: 5 :: p0 :: p1 :: zs) :: es) (ls, b5 :: b4 :: b3 :: b2 :: b1 :: .ref h :: st, M) Q = inv d y es 15 ls h [b1, b2, b3, b4, b5] st M Q (pFind (gS M h).1 zs) := by
  rw [xw_step]
  exact xr_inv (n9 := 5) (st0 := b5 :: b4 :: b3 :: b2 :: b1 :: .ref h :: st) (as := [b1, b2, b3, b4, b5]) rfl rfl rfl
theorem q_invs5_20 {b1 b2 b3 b4 b5 : Value} {i p0 p1 z : Nat} : xw d y ((pc, .invokestatic i, n, [20, 5, p0, p1, z]) :: es) (ls, b5 :: b4 :: b3 :: b2 :: b1 :: st, M) Q = (pRm st ≤ 8 ∧ mw d z [b1, b2, b3, b4, b5] M (kont d y es 20 ls st Q)) := by
  rw [xw_step]
  exact xr_invS (n9 := 5) (st0 := b5 :: b4 :: b3 :: b2 :: b1 :: st) (as := [b1, b2, b3, b4, b5]) rfl rfl rfl
theorem q_invs5_21 {b1 b2 b3 b4 b5 : Value} {i p0 p1 z : Nat} : xw d y ((pc, .invokestatic i, n, [21, 5, p0, p1, z]) :: es) (ls, b5 :: b4 :: b3 :: b2 :: b1 :: st, M) Q = (pRm st ≤ 8 ∧ mw d z [b1, b2, b3, b4, b5] M (kont d y es 21 ls st Q)) := by
  rw [xw_step]
  exact xr_invS (n9 := 5) (st0 := b5 :: b4 :: b3 :: b2 :: b1 :: st) (as := [b1, b2, b3, b4, b5]) rfl rfl rfl
theorem q_invs5_22 {b1 b2 b3 b4 b5 : Value} {i p0 p1 z : Nat} : xw d y ((pc, .invokestatic i, n, [22, 5, p0, p1, z]) :: es) (ls, b5 :: b4 :: b3 :: b2 :: b1 :: st, M) Q = (pRm st ≤ 8 ∧ mw d z [b1, b2, b3, b4, b5] M (kont d y es 22 ls st Q)) := by
  rw [xw_step]
  exact xr_invS (n9 := 5) (st0 := b5 :: b4 :: b3 :: b2 :: b1 :: st) (as := [b1, b2, b3, b4, b5]) rfl rfl rfl
theorem q_invv6 {b1 b2 b3 b4 b5 b6 : Value} {i kind p0 p1 h : Nat} {zs : List Nat} : xw d y ((pc, .invokevirtual i, n, kind :: 6 :: p0 :: p1 :: zs) :: es) (ls, b6 :: b5 :: b4 :: b3 :: b2 :: b1 :: .ref h :: st, M) Q = inv d y es kind ls h [b1, b2, b3, b4, b5, b6] st M Q (pFind (gS M h).1 zs) := by
  rw [xw_step]
  exact xr_inv (n9 := 6) (st0 := b6 :: b5 :: b4 :: b3 :: b2 :: b1 :: .ref h :: st) (as := [b1, b2, b3, b4, b5, b6]) rfl rfl rfl
theorem q_invi6_14 {b1 b2 b3 b4 b5 b6 : Value} {i p0 p1 h : Nat} {zs : List Nat} : xw d y ((pc, .invokespecial i, n, 14 :: 6 :: p0 :: p1 :: zs) :: es) (ls, b6 :: b5 :: b4 :: b3 :: b2 :: b1 :: .ref h :: st, M) Q = inv d y es 14 ls h [b1, b2, b3, b4, b5, b6] st M Q (pFind (gS M h).1 zs) := by
  rw [xw_step]
  exact xr_inv (n9 := 6) (st0 := b6 :: b5 :: b4 :: b3 :: b2 :: b1 :: .ref h :: st) (as := [b1, b2, b3, b4, b5, b6]) rfl rfl rfl
theorem q_invi6_15 {b1 b2 b3 b4 b5 b6 : Value} {i p0 p1 h : Nat} {zs : List Nat} : xw d y ((pc, .invokespecial i, n, 15 :: 6 :: p0 :: p1 :: zs) :: es) (ls, b6 :: b5 :: b4 :: b3 :: b2 :: b1 :: .ref h :: st, M) Q = inv d y es 15 ls h [b1, b2, b3, b4, b5, b6] st M Q (pFind (gS M h).1 zs) := by
  rw [xw_step]
  exact xr_inv (n9 := 6) (st0 := b6 :: b5 :: b4 :: b3 :: b2 :: b1 :: .ref h :: st) (as := [b1, b2, b3, b4, b5, b6]) rfl rfl rfl
theorem q_invs6_20 {b1 b2 b3 b4 b5 b6 : Value} {i p0 p1 z : Nat} : xw d y ((pc, .invokestatic i, n, [20, 6, p0, p1, z]) :: es) (ls, b6 :: b5 :: b4 :: b3 :: b2 :: b1 :: st, M) Q = (pRm st ≤ 8 ∧ mw d z [b1, b2, b3, b4, b5, b6] M (kont d y es 20 ls st Q)) := by
  rw [xw_step]
  exact xr_invS (n9 := 6) (st0 := b6 :: b5 :: b4 :: b3 :: b2 :: b1 :: st) (as := [b1, b2, b3, b4, b5, b6]) rfl rfl rfl
theorem q_invs6_21 {b1 b2 b3 b4 b5 b6 : Value} {i p0 p1 z : Nat} : xw d y ((pc, .invokestatic i, n, [21, 6, p0, p1, z]) :: es) (ls, b6 :: b5 :: b4 :: b3 :: b2 :: b1 :: st, M) Q = (pRm st ≤ 8 ∧ mw d z [b1, b2, b3, b4, b5, b6] M (kont d y es 21 ls st Q)) := by
  rw [xw_step]
  exact xr_invS (n9 := 6) (st0 := b6 :: b5 :: b4 :: b3 :: b2 :: b1 :: st) (as := [b1, b2, b3, b4, b5, b6]) rfl rfl rfl
theorem q_invs6_22 {b1 b2 b3 b4 b5 b6 : Value} {i p0 p1 z : Nat} : xw d y ((pc, .invokestatic i, n, [22, 6, p0, p1, z]) :: es) (ls, b6 :: b5 :: b4 :: b3 :: b2 :: b1 :: st, M) Q = (pRm st ≤ 8 ∧ mw d z [b1, b2, b3, b4, b5, b6] M (kont d y es 22 ls st Q)) := by
  rw [xw_step]
  exact xr_invS (n9 := 6) (st0 := b6 :: b5 :: b4 :: b3 :: b2 :: b1 :: st) (as := [b1, b2, b3, b4, b5, b6]) rfl rfl rfl
theorem q_invs7_20 {b1 b2 b3 b4 b5 b6 b7 : Value} {i p0 p1 z : Nat} : xw d y ((pc, .invokestatic i, n, [20, 7, p0, p1, z]) :: es) (ls, b7 :: b6 :: b5 :: b4 :: b3 :: b2 :: b1 :: st, M) Q = (pRm st ≤ 8 ∧ mw d z [b1, b2, b3, b4, b5, b6, b7] M (kont d y es 20 ls st Q)) := by
  rw [xw_step]
  exact xr_invS (n9 := 7) (st0 := b7 :: b6 :: b5 :: b4 :: b3 :: b2 :: b1 :: st) (as := [b1, b2, b3, b4, b5, b6, b7]) rfl rfl rfl
theorem q_invs7_21 {b1 b2 b3 b4 b5 b6 b7 : Value} {i p0 p1 z : Nat} : xw d y ((pc, .invokestatic i, n, [21, 7, p0, p1, z]) :: es) (ls, b7 :: b6 :: b5 :: b4 :: b3 :: b2 :: b1 :: st, M) Q = (pRm st ≤ 8 ∧ mw d z [b1, b2, b3, b4, b5, b6, b7] M (kont d y es 21 ls st Q)) := by
  rw [xw_step]
  exact xr_invS (n9 := 7) (st0 := b7 :: b6 :: b5 :: b4 :: b3 :: b2 :: b1 :: st) (as := [b1, b2, b3, b4, b5, b6, b7]) rfl rfl rfl
theorem q_invs7_22 {b1 b2 b3 b4 b5 b6 b7 : Value} {i p0 p1 z : Nat} : xw d y ((pc, .invokestatic i, n, [22, 7, p0, p1, z]) :: es) (ls, b7 :: b6 :: b5 :: b4 :: b3 :: b2 :: b1 :: st, M) Q = (pRm st ≤ 8 ∧ mw d z [b1, b2, b3, b4, b5, b6, b7] M (kont d y es 22 ls st Q)) := by
  rw [xw_step]
  exact xr_invS (n9 := 7) (st0 := b7 :: b6 :: b5 :: b4 :: b3 :: b2 :: b1 :: st) (as := [b1, b2, b3, b4, b5, b6, b7]) rfl rfl rfl
theorem q_iret {x : Int32} : xw d y ((pc, .ireturn, n, [0]) :: es) (ls, [.int x], M) Q = Q (.inl (some (.int x))) M := by
  rw [xw_step]
  show xr d y es _ Q (if ([0] : List Nat) = [0] ∨ ([0] : List Nat) = [2] ∧ (x = 0 ∨ x = 1) then _ else none) = _
  rw [xr_g]
  exact propext ⟨fun q => q.2, fun q => ⟨Or.inl rfl, q⟩⟩
theorem q_zret {x : Int32} : xw d y ((pc, .ireturn, n, [2]) :: es) (ls, [.int x], M) Q = ((x = 0 ∨ x = 1) ∧ Q (.inl (some (.int x))) M) := by
  rw [xw_step]
  show xr d y es _ Q (if ([2] : List Nat) = [0] ∨ ([2] : List Nat) = [2] ∧ (x = 0 ∨ x = 1) then _ else none) = _
  rw [xr_g]
  exact propext ⟨fun q => ⟨by rcases q.1 with h9 | h9; cases h9; exact h9.2, q.2⟩, fun q => ⟨Or.inr ⟨rfl, q.1⟩, q.2⟩⟩
theorem q_aret_r {x : Nat} : xw d y ((pc, .areturn, n, an) :: es) (ls, [.ref x], M) Q = Q (.inl (some (.ref x))) M := by
  rw [xw_step]
  rfl
theorem q_aret_n : xw d y ((pc, .areturn, n, an) :: es) (ls, [.null], M) Q = Q (.inl (some .null)) M := by
  rw [xw_step]
  rfl
theorem q_vret : xw d y ((pc, .return_, n, an) :: es) (ls, [], M) Q = Q (.inl none) M := by
  rw [xw_step]
  rfl
theorem k_some {kind : Nat} {v : Value} {M' : pMem} : kont d y es kind ls st Q (.inl (some v)) M' = xw d y es (ls, v :: st, M') Q := rfl
theorem k_none {kind : Nat} {M' : pMem} : kont d y es kind ls st Q (.inl none) M' = xw d y es (ls, st, M') Q := rfl
theorem k_thr {kind k : Nat} {M' : pMem} (h : Hs y = []) (hk : kind = 10 ∨ kind = 20) : kont d y es kind ls st Q (.inr k) M' = Q (.inr k) M' := by
  unfold kont
  rw [h]
  exact propext ⟨fun q => q.2, fun q => ⟨hk, q⟩⟩
end EQ
