/-! COUNTS as ints, and the small methods -/
def nN (k : Nat) : Int32 := iN (k : Int)
theorem L_0 : iN 0 = nN 0 := rfl
theorem L_1 : iN 1 = nN 1 := rfl
theorem L_2 : iN 2 = nN 2 := rfl
theorem L_3 : iN 3 = nN 3 := rfl
theorem L_4 : iN 4 = nN 4 := rfl
theorem L_5 : iN 5 = nN 5 := rfl
theorem L_6 : iN 6 = nN 6 := rfl
theorem L_7 : iN 7 = nN 7 := rfl
theorem L_8 : iN 8 = nN 8 := rfl
theorem L_9 : iN 9 = nN 9 := rfl
theorem L_10 : iN 10 = nN 10 := rfl
theorem L_11 : iN 11 = nN 11 := rfl
theorem L_12 : iN 12 = nN 12 := rfl
theorem L_13 : iN 13 = nN 13 := rfl
theorem L_14 : iN 14 = nN 14 := rfl
theorem L_15 : iN 15 = nN 15 := rfl
theorem L_16 : iN 16 = nN 16 := rfl
theorem L_17 : iN 17 = nN 17 := rfl
theorem L_18 : iN 18 = nN 18 := rfl
theorem L_19 : iN 19 = nN 19 := rfl
theorem L_20 : iN 20 = nN 20 := rfl
theorem L_21 : iN 21 = nN 21 := rfl
theorem L_22 : iN 22 = nN 22 := rfl
theorem L_23 : iN 23 = nN 23 := rfl
theorem L_24 : iN 24 = nN 24 := rfl
theorem L_25 : iN 25 = nN 25 := rfl
theorem L_26 : iN 26 = nN 26 := rfl
theorem L_27 : iN 27 = nN 27 := rfl
theorem L_28 : iN 28 = nN 28 := rfl
theorem L_29 : iN 29 = nN 29 := rfl
theorem L_30 : iN 30 = nN 30 := rfl
theorem L_31 : iN 31 = nN 31 := rfl
theorem L_32 : iN 32 = nN 32 := rfl
theorem L_40 : iN 40 = nN 40 := rfl
theorem L_41 : iN 41 = nN 41 := rfl
theorem L_43 : iN 43 = nN 43 := rfl
theorem L_46 : iN 46 = nN 46 := rfl
theorem L_48 : iN 48 = nN 48 := rfl
theorem L_57 : iN 57 = nN 57 := rfl
theorem L_59 : iN 59 = nN 59 := rfl
theorem L_60 : iN 60 = nN 60 := rfl
theorem L_62 : iN 62 = nN 62 := rfl
theorem L_63 : iN 63 = nN 63 := rfl
theorem L_82 : iN 82 = nN 82 := rfl
theorem L_97 : iN 97 = nN 97 := rfl
theorem L_99 : iN 99 = nN 99 := rfl
theorem L_122 : iN 122 = nN 122 := rfl
theorem L_140 : iN 140 = nN 140 := rfl
theorem L_144 : iN 144 = nN 144 := rfl
theorem L_255 : iN 255 = nN 255 := rfl
theorem L_400 : iN 400 = nN 400 := rfl
theorem L_401 : iN 401 = nN 401 := rfl
theorem L_480 : iN 480 = nN 480 := rfl
theorem L_940 : iN 940 = nN 940 := rfl
theorem L_999 : iN 999 = nN 999 := rfl
theorem L_1000 : iN 1000 = nN 1000 := rfl
theorem L_1001 : iN 1001 = nN 1001 := rfl
theorem L_1002 : iN 1002 = nN 1002 := rfl
theorem L_1003 : iN 1003 = nN 1003 := rfl
theorem L_1004 : iN 1004 = nN 1004 := rfl
theorem L_1005 : iN 1005 = nN 1005 := rfl
theorem L_1006 : iN 1006 = nN 1006 := rfl
theorem L_1007 : iN 1007 = nN 1007 := rfl
theorem L_1008 : iN 1008 = nN 1008 := rfl
theorem L_1009 : iN 1009 = nN 1009 := rfl
theorem L_1010 : iN 1010 = nN 1010 := rfl
theorem L_1011 : iN 1011 = nN 1011 := rfl
theorem L_1012 : iN 1012 = nN 1012 := rfl
theorem L_1013 : iN 1013 = nN 1013 := rfl
theorem L_1014 : iN 1014 = nN 1014 := rfl
theorem L_1024 : iN 1024 = nN 1024 := rfl
theorem L_2000 : iN 2000 = nN 2000 := rfl
theorem L_2040 : iN 2040 = nN 2040 := rfl
theorem L_2041 : iN 2041 = nN 2041 := rfl
theorem L_2043 : iN 2043 = nN 2043 := rfl
theorem L_2059 : iN 2059 = nN 2059 := rfl
theorem L_2060 : iN 2060 = nN 2060 := rfl
theorem L_2062 : iN 2062 = nN 2062 := rfl
theorem L_3000 : iN 3000 = nN 3000 := rfl
theorem L_3001 : iN 3001 = nN 3001 := rfl
theorem L_3346 : iN 3346 = nN 3346 := rfl
theorem L_12345 : iN 12345 = nN 12345 := rfl
theorem L_32767 : iN 32767 = nN 32767 := rfl
theorem L_100000 : iN 100000 = nN 100000 := rfl
theorem L_1000000 : iN 1000000 = nN 1000000 := rfl
theorem L_252645135 : iN 252645135 = nN 252645135 := rfl
theorem L_858993459 : iN 858993459 = nN 858993459 := rfl
theorem L_1103515245 : iN 1103515245 = nN 1103515245 := rfl
theorem L_1431655765 : iN 1431655765 = nN 1431655765 := rfl
theorem nN_0 : (0 : Int32) = nN 0 := by decide +kernel
theorem nN_add (a b : Nat) : nN a + nN b = nN (a + b) := by unfold nN; rw [iN_add, Int.natCast_add]
theorem nN_mul (a b : Nat) : nN a * nN b = nN (a * b) := by unfold nN; rw [iN_mul, Int.natCast_mul]
theorem sm_n {a : Nat} (h : a < 2147483648) : Sm (a : Int) := by unfold Sm; omega
theorem nN_toInt {a : Nat} (h : a < 2147483648) : (nN a).toInt = a := iN_toInt (sm_n h)
theorem nN_eq {a b : Nat} (ha : a < 2147483648) (hb : b < 2147483648) : (nN a = nN b) = (a = b) := by
  have := iN_eq (sm_n ha) (sm_n hb)
  refine propext ⟨fun h => by have := this.mp h; omega, fun h => by rw [h]⟩
theorem nN_lt {a b : Nat} (ha : a < 2147483648) (hb : b < 2147483648) : (nN a < nN b) = (a < b) := by
  have := iN_lt (sm_n ha) (sm_n hb)
  exact propext ⟨fun h => by have := this.mp h; omega, fun h => this.mpr (by omega)⟩
theorem nN_le {a b : Nat} (ha : a < 2147483648) (hb : b < 2147483648) : (nN a ≤ nN b) = (a ≤ b) := by
  have := iN_le (sm_n ha) (sm_n hb)
  exact propext ⟨fun h => by have := this.mp h; omega, fun h => this.mpr (by omega)⟩
theorem nN_lt0 {a : Nat} (ha : a < 2147483648) : (nN a < 0) = False := by
  rw [nN_0, nN_lt ha (by omega)]
  exact eq_false (by omega)
theorem nN_ge0 {a : Nat} (ha : a < 2147483648) : (0 ≤ nN a) = True := by
  rw [nN_0, nN_le (by omega) ha]
  exact eq_true (by omega)
theorem nN_gt0 {a : Nat} (ha : a < 2147483648) : (0 < nN a) = (0 < a) := by
  rw [nN_0, nN_lt (by omega) ha]
theorem nN_le0 {a : Nat} (ha : a < 2147483648) : (nN a ≤ 0) = (a = 0) := by
  rw [nN_0, nN_le ha (by omega)]
  exact propext ⟨fun h => by omega, fun h => by omega⟩
theorem nN_eq0 {a : Nat} (ha : a < 2147483648) : (nN a = 0) = (a = 0) := by
  rw [nN_0, nN_eq ha (by omega)]
theorem nN_eq1 {a : Nat} (ha : a < 2147483648) : (nN a = 1) = (a = 1) := by
  rw [show (1 : Int32) = nN 1 from by decide +kernel, nN_eq ha (by omega)]
theorem nN_neN {a : Nat} (ha : a < 2147483648) : (nN a = iN (-1)) = False := by
  refine eq_false fun h => ?_
  have := (iN_eq (sm_n ha) (b := -1) ⟨by decide, by decide⟩).mp h
  omega
theorem iNm_lt0 : (iN (-1) < 0) = True := eq_true (by decide +kernel)
theorem pIn_n {a n : Nat} (ha : a < 2147483648) : (pIn (nN a) n = true) = (a < n) := by
  refine propext ((pIn_iN (sm_n ha)).trans ⟨fun h => by omega, fun h => by omega⟩)
theorem pIx_n {a : Nat} (ha : a < 2147483648) : pIx (nN a) = a := by
  show pIx (iN _) = _
  rw [pIx_iN (sm_n ha)]
  omega
theorem w_atN {d a n : Nat} {k : Nat} {M : pMem} {Q : pOut → pMem → Prop} (hs : gS M a = (100, n)) (hn : n < 1000000) (hk : k < n) : mw (d + 1) 44 [.ref a, .int (nN k)] M Q = Q (.inl (some (.int (gI M a k)))) M := by
  show mw (d + 1) 44 [.ref a, .int (iN (k : Int))] M Q = _
  rw [w_at hs hn (sm_n (by omega)), if_pos (by omega)]
  rfl
theorem w_atM {d a n : Nat} {M : pMem} {Q : pOut → pMem → Prop} (hs : gS M a = (100, n)) (hn : n < 1000000) : mw (d + 1) 44 [.ref a, .int (iN (-1))] M Q = Q (.inl (some (.int (iN (-1))))) M := by
  rw [w_at hs hn ⟨by decide, by decide⟩, if_neg (by omega)]
theorem w_putN {d a n k : Nat} {x : Int32} {M : pMem} {Q : pOut → pMem → Prop} (hs : gS M a = (100, n)) (hn : n < 1000000) (hk : k < n) : mw (d + 1) 45 [.ref a, .int (nN k), .int x] M Q = Q (.inl none) (sI M a k x) := by
  have hk' : k < 2147483648 := by omega
  have h2 : ¬ n ≤ k := by omega
  have h3 : iN (n : Int) = nN n := rfl
  simp only [m_45, q_iload1, q_if_lt, q_aload0, q_aload0N, q_alen, q_ic_ge, q_iload2, q_iast, q_nop, q_vret, e_45_0, e_45_1, hs, nN_lt0 hk', pIn_n hk', pIx_n hk', h3, nN_le (show n < 2147483648 by omega) hk', hk, h2]
  simp
theorem w_addN {d a n k : Nat} {x : Int32} {M : pMem} {Q : pOut → pMem → Prop} (hs : gS M a = (100, n)) (hn : n < 1000000) (hk : k < n) : mw (d + 1) 46 [.ref a, .int (nN k), .int x] M Q = Q (.inl none) (sI M a k (gI M a k + x)) := by
  have hk' : k < 2147483648 := by omega
  have h2 : ¬ n ≤ k := by omega
  have h3 : iN (n : Int) = nN n := rfl
  simp only [m_46, q_iload1, q_if_lt, q_aload0, q_aload0N, q_alen, q_ic_ge, q_dup2, q_iald, q_iload2, q_iadd, q_iast, q_nop, q_vret, e_46_0, e_46_1, hs, nN_lt0 hk', pIn_n hk', pIx_n hk', h3, nN_le (show n < 2147483648 by omega) hk', hk, h2]
  simp
theorem pRm_i {x : Int32} {st : List Value} : pRm (.int x :: st) = 1 + pRm st := by simp [pRm, Value.category]
theorem pRm_r {x : Nat} {st : List Value} : pRm (.ref x :: st) = 1 + pRm st := by simp [pRm, Value.category]
theorem pRm_0 : pRm [] = 0 := rfl
theorem add_n0 {s : Int32} : s + nN 0 = s := by rw [← nN_0]; exact Int32.add_zero s
theorem pF_1 {t z : Nat} {r : List Nat} : pFind t (t :: z :: r) = some z := by unfold pFind; rw [if_pos rfl]
theorem pF_2 {z w : Nat} : pFind 10 [8, w, 10, z] = some z := by simp [pFind]
theorem inv_s {d y : Nat} {es : List pEnt} {Q : pOut → pMem → Prop} {ls : pLo} {st : List Value} {M : pMem} {kind h z : Nat} {as : List Value} : inv d y es kind ls h as st M Q (some z) = (pRm st ≤ 8 ∧ mw d z (.ref h :: as) M (kont d y es kind ls st Q)) := rfl
theorem zb_0 : (nN 0 = 0 ∨ nN 0 = 1) = True := eq_true (by decide +kernel)
theorem zb_1 : (nN 1 = 0 ∨ nN 1 = 1) = True := eq_true (by decide +kernel)
theorem z10 : (nN 1 = 0) = False := eq_false (by decide +kernel)
theorem z00 : (nN 0 = 0) = True := eq_true (by decide +kernel)
theorem z01 : (nN 0 = nN 1) = False := eq_false (by decide +kernel)
theorem z1m : (nN 1 = iN (-1)) = False := eq_false (by decide +kernel)
/-- truth as an int -/
def bI (b : Prop) [Decidable b] : Int32 := if b then nN 1 else nN 0
theorem bI_z {b : Prop} [Decidable b] : (bI b = 0 ∨ bI b = 1) = True := by
  unfold bI
  split
  · exact zb_1
  · exact zb_0
theorem bI_eq0 {b : Prop} [Decidable b] : (bI b = 0) = ¬ b := by
  unfold bI
  split
  · rename_i h; simp [h, z10]
  · rename_i h; simp [h, z00]
theorem bI_eq1 {b : Prop} [Decidable b] : (bI b = nN 1) = b := by
  unfold bI
  split
  · rename_i h; simp [h]
  · rename_i h; simp [h, z01]
theorem bI_t {b : Prop} [Decidable b] (h : b) : nN 1 = bI b := by unfold bI; rw [if_pos h]
theorem bI_f {b : Prop} [Decidable b] (h : ¬ b) : nN 0 = bI b := by unfold bI; rw [if_neg h]
theorem w_hasBit {d : Nat} {x k : Int32} {M : pMem} {Q : pOut → pMem → Prop} : mw (d + 1) 48 [.int x, .int k] M Q = Q (.inl (some (.int (bI ((x >>> (k &&& 31)) &&& nN 1 = nN 1))))) M := by
  simp only [m_48, q_iload0, q_iload1, q_ishr, q_iconst, q_iand, q_ic_ne, q_goto, q_nop, q_zret, e_48_0, e_48_1, e_48_2, L_0, L_1, bI]
  by_cases h : (x >>> (k &&& 31)) &&& nN 1 = nN 1 <;> simp [h, zb_0, zb_1]
theorem w_oneIf {d : Nat} {x : Int32} {M : pMem} {Q : pOut → pMem → Prop} : mw (d + 1) 49 [.int x] M Q = Q (.inl (some (.int (if x = 0 then nN 0 else nN 1)))) M := by
  simp only [m_49, q_iload0, q_if_eq, q_iconst, q_goto, q_nop, q_iret, e_49_0, e_49_1, e_49_2, L_0, L_1]
  by_cases h : x = 0 <;> simp [h]
/-- a loop that counts up -/
def lp {α : Type} : Nat → Nat → α → (Nat → α → α) → α
  | 0, _, s, _ => s
  | j + 1, k, s, f => lp j (k + 1) (f k s) f
theorem lp_rule {α : Type} {d y b : Nat} {C : Nat → α → pCfg} {f : Nat → α → α} {n : Nat} {Q : pOut → pMem → Prop} (hs : ∀ k s, k < n → bw d y b (C k s) Q = bw d y b (C (k + 1) (f k s)) Q) : ∀ (j k : Nat) (s : α), k + j = n → bw d y b (C k s) Q = bw d y b (C n (lp j k s f)) Q := by
  intro j
  induction j with
  | zero => intro k s h; have : k = n := by omega
            subst this; rfl
  | succ j ih => intro k s h; rw [hs k s (by omega)]; exact ih (k + 1) (f k s) (by omega)
theorem lp_congr {α : Type} {f g : Nat → α → α} : ∀ (j k : Nat) (s : α), (∀ i s, k ≤ i → i < k + j → f i s = g i s) → lp j k s f = lp j k s g := by
  intro j
  induction j with
  | zero => intro k s _; rfl
  | succ j ih => intro k s h; show lp j (k + 1) (f k s) f = lp j (k + 1) (g k s) g; rw [h k s (by omega) (by omega)]; exact ih _ _ (fun i s h1 h2 => h i s (by omega) (by omega))
