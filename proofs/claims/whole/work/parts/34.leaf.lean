/-! COUNTS as ints, and the small methods -/
def nN (k : Nat) : Int32 := iN (k : Int)
theorem iN_lit (k : Nat) : iN (@OfNat.ofNat Int k (@instOfNat k)) = nN (@OfNat.ofNat Nat k (instOfNatNat k)) := rfl
theorem nN_0 : (0 : Int32) = nN 0 := by decide +kernel
theorem nN_add (a b : Nat) : nN a + nN b = nN (a + b) := by unfold nN; rw [iN_add, Int.natCast_add]
theorem nN_mul (a b : Nat) : nN a * nN b = nN (a * b) := by unfold nN; rw [iN_mul, Int.natCast_mul]
theorem sm_n {a : Nat} (h : a < 2147483648) : Sm (a : Int) := by unfold Sm; omega
theorem nN_toInt {a : Nat} (h : a < 2147483648) : (nN a).toInt = a := iN_toInt (sm_n h)
theorem nN_eq {a b : Nat} (ha : a < 2147483648) (hb : b < 2147483648) : (nN a = nN b) = (a = b) := by
  have := iN_eq (sm_n ha) (sm_n hb)
  refine propext ⟨fun h => by have := this.mp h; omega, fun h => by rw [h]⟩
theorem nN_lt {a b : Nat} (ha : a < 2147483648) (hb : b < 2147483648) : (nN a < nN b) = (a < b) := by
  have := iN_lt (sm_n ha) (sm_n hb)
  exact propext ⟨fun h => by have := this.mp h; omega, fun h => this.mpr (by omega)⟩
theorem nN_le {a b : Nat} (ha : a < 2147483648) (hb : b < 2147483648) : (nN a ≤ nN b) = (a ≤ b) := by
  have := iN_le (sm_n ha) (sm_n hb)
  exact propext ⟨fun h => by have := this.mp h; omega, fun h => this.mpr (by omega)⟩
theorem nN_lt0 {a : Nat} (ha : a < 2147483648) : (nN a < 0) = False := by
  rw [nN_0, nN_lt ha (by omega)]
  exact eq_false (by omega)
theorem nN_ge0 {a : Nat} (ha : a < 2147483648) : (0 ≤ nN a) = True := by
  rw [nN_0, nN_le (by omega) ha]
  exact eq_true (by omega)
theorem nN_gt0 {a : Nat} (ha : a < 2147483648) : (0 < nN a) = (0 < a) := by
  rw [nN_0, nN_lt (by omega) ha]
theorem nN_le0 {a : Nat} (ha : a < 2147483648) : (nN a ≤ 0) = (a = 0) := by
  rw [nN_0, nN_le ha (by omega)]
  exact propext ⟨fun h => by omega, fun h => by omega⟩
theorem nN_eq0 {a : Nat} (ha : a < 2147483648) : (nN a = 0) = (a = 0) := by
  rw [nN_0, nN_eq ha (by omega)]
theorem nN_neN {a : Nat} (ha : a < 2147483648) : (nN a = iN (-1)) = False := by
  refine eq_false fun h => ?_
  have := (iN_eq (sm_n ha) (b := -1) ⟨by decide, by decide⟩).mp h
  omega
theorem iNm_lt0 : (iN (-1) < 0) = True := eq_true (by decide +kernel)
theorem pIn_n {a n : Nat} (ha : a < 2147483648) : (pIn (nN a) n = true) = (a < n) := by
  refine propext ((pIn_iN (sm_n ha)).trans ⟨fun h => by omega, fun h => by omega⟩)
theorem pIx_n {a : Nat} (ha : a < 2147483648) : pIx (nN a) = a := by
  show pIx (iN _) = _
  rw [pIx_iN (sm_n ha)]
  omega
theorem w_atN {d a n : Nat} {k : Nat} {M : pMem} {Q : pOut → pMem → Prop} (hs : gS M a = (100, n)) (hn : n < 1000000) (hk : k < n) : mw (d + 1) 44 [.ref a, .int (nN k)] M Q = Q (.inl (some (.int (gI M a k)))) M := by
  show mw (d + 1) 44 [.ref a, .int (iN (k : Int))] M Q = _
  rw [w_at hs hn (sm_n (by omega)), if_pos (by omega)]
  rfl
theorem w_atM {d a n : Nat} {M : pMem} {Q : pOut → pMem → Prop} (hs : gS M a = (100, n)) (hn : n < 1000000) : mw (d + 1) 44 [.ref a, .int (iN (-1))] M Q = Q (.inl (some (.int (iN (-1))))) M := by
  rw [w_at hs hn ⟨by decide, by decide⟩, if_neg (by omega)]
theorem w_putN {d a n k : Nat} {x : Int32} {M : pMem} {Q : pOut → pMem → Prop} (hs : gS M a = (100, n)) (hn : n < 1000000) (hk : k < n) : mw (d + 1) 45 [.ref a, .int (nN k), .int x] M Q = Q (.inl none) (sI M a k x) := by
  have hk' : k < 2147483648 := by omega
  have h2 : ¬ n ≤ k := by omega
  have h3 : iN (n : Int) = nN n := rfl
  simp only [m_45, q_iload1, q_if_lt, q_aload0, q_aload0N, q_alen, q_ic_ge, q_iload2, q_iast, q_nop, q_vret, e_45_0, e_45_1, hs, nN_lt0 hk', pIn_n hk', pIx_n hk', h3, nN_le (show n < 2147483648 by omega) hk', hk, h2]
  simp
theorem w_addN {d a n k : Nat} {x : Int32} {M : pMem} {Q : pOut → pMem → Prop} (hs : gS M a = (100, n)) (hn : n < 1000000) (hk : k < n) : mw (d + 1) 46 [.ref a, .int (nN k), .int x] M Q = Q (.inl none) (sI M a k (gI M a k + x)) := by
  have hk' : k < 2147483648 := by omega
  have h2 : ¬ n ≤ k := by omega
  have h3 : iN (n : Int) = nN n := rfl
  simp only [m_46, q_iload1, q_if_lt, q_aload0, q_aload0N, q_alen, q_ic_ge, q_dup2, q_iald, q_iload2, q_iadd, q_iast, q_nop, q_vret, e_46_0, e_46_1, hs, nN_lt0 hk', pIn_n hk', pIx_n hk', h3, nN_le (show n < 2147483648 by omega) hk', hk, h2]
  simp
theorem zb_0 : (iN 0 = 0 ∨ iN 0 = 1) = True := eq_true (by decide +kernel)
theorem zb_1 : (iN 1 = 0 ∨ iN 1 = 1) = True := eq_true (by decide +kernel)
theorem z10 : (iN 1 = 0) = False := eq_false (by decide +kernel)
theorem z00 : (iN 0 = 0) = True := eq_true (by decide +kernel)
theorem z01 : (iN 0 = iN 1) = False := eq_false (by decide +kernel)
theorem z1m : (iN 1 = iN (-1)) = False := eq_false (by decide +kernel)
/-- truth as an int -/
def bI (b : Prop) [Decidable b] : Int32 := if b then iN 1 else iN 0
theorem bI_z {b : Prop} [Decidable b] : (bI b = 0 ∨ bI b = 1) = True := by
  unfold bI
  split
  · exact zb_1
  · exact zb_0
theorem bI_eq0 {b : Prop} [Decidable b] : (bI b = 0) = ¬ b := by
  unfold bI
  split
  · rename_i h; simp [h, z10]
  · rename_i h; simp [h, z00]
theorem bI_eq1 {b : Prop} [Decidable b] : (bI b = iN 1) = b := by
  unfold bI
  split
  · rename_i h; simp [h]
  · rename_i h; simp [h, z01]
theorem bI_t {b : Prop} [Decidable b] (h : b) : iN 1 = bI b := by unfold bI; rw [if_pos h]
theorem bI_f {b : Prop} [Decidable b] (h : ¬ b) : iN 0 = bI b := by unfold bI; rw [if_neg h]
theorem w_hasBit {d : Nat} {x k : Int32} {M : pMem} {Q : pOut → pMem → Prop} : mw (d + 1) 48 [.int x, .int k] M Q = Q (.inl (some (.int (bI ((x >>> (k &&& 31)) &&& iN 1 = iN 1))))) M := by
  simp only [m_48, q_iload0, q_iload1, q_ishr, q_iconst, q_iand, q_ic_ne, q_goto, q_nop, q_zret, e_48_0, e_48_1, e_48_2, bI]
  by_cases h : (x >>> (k &&& 31)) &&& iN 1 = iN 1 <;> simp [h, zb_0, zb_1]
theorem w_oneIf {d : Nat} {x : Int32} {M : pMem} {Q : pOut → pMem → Prop} : mw (d + 1) 49 [.int x] M Q = Q (.inl (some (.int (if x = 0 then iN 0 else iN 1)))) M := by
  simp only [m_49, q_iload0, q_if_eq, q_iconst, q_goto, q_nop, q_iret, e_49_0, e_49_1, e_49_2]
  by_cases h : x = 0 <;> simp [h]
/-- a loop that counts up -/
def lp {α : Type} : Nat → Nat → α → (Nat → α → α) → α
  | 0, _, s, _ => s
  | j + 1, k, s, f => lp j (k + 1) (f k s) f
theorem lp_rule {α : Type} {d y b : Nat} {C : Nat → α → pCfg} {f : Nat → α → α} {n : Nat} {Q : pOut → pMem → Prop} (hs : ∀ k s, k < n → bw d y b (C k s) Q = bw d y b (C (k + 1) (f k s)) Q) : ∀ (j k : Nat) (s : α), k + j = n → bw d y b (C k s) Q = bw d y b (C n (lp j k s f)) Q := by
  intro j
  induction j with
  | zero => intro k s h; have : k = n := by omega
            subst this; rfl
  | succ j ih => intro k s h; rw [hs k s (by omega)]; exact ih (k + 1) (f k s) (by omega)
theorem lp_congr {α : Type} {f g : Nat → α → α} : ∀ (j k : Nat) (s : α), (∀ i s, k ≤ i → i < k + j → f i s = g i s) → lp j k s f = lp j k s g := by
  intro j
  induction j with
  | zero => intro k s _; rfl
  | succ j ih => intro k s h; show lp j (k + 1) (f k s) f = lp j (k + 1) (g k s) g; rw [h k s (by omega) (by omega)]; exact ih _ _ (fun i s h1 h2 => h i s (by omega) (by omega))
