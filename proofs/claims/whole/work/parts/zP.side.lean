/-! WHAT STANDS BESIDE THE MEMORY at the law's entry -/
section SID
variable {s : State} {b : Nat}
theorem kn_all (hts : ∀ w ∈ lw_tbl, w.before #[Value.ref b] s = true) : ∀ (k : Nat), ∃ d : ClassId × (Nat → Nat), ∀ q, vwCl[k]? = some q → u_Kn s q.1 q.2.1 q.2.2 d.1 d.2 := by
  have h2 := tb2_of hts
  have g0 := u_known (C := RX0) (T := TX0) (n := 8) h2 (fun w hw => (cw_0 w hw).1) (h2 (.instantiable RX0 8) (List.mem_of_getElem? (i := 188) (by decide +kernel)))
  have g1 := u_known (C := RX1) (T := TX1) (n := 6) h2 (fun w hw => (cw_1 w hw).1) (h2 (.instantiable RX1 6) (List.mem_of_getElem? (i := 150) (by decide +kernel)))
  have g2 := u_known (C := RX2) (T := TX2) (n := 4) h2 (fun w hw => (cw_2 w hw).1) (h2 (.instantiable RX2 4) (List.mem_of_getElem? (i := 455) (by decide +kernel)))
  have g3 := u_known (C := RX3) (T := TX3) (n := 6) h2 (fun w hw => (cw_3 w hw).1) (h2 (.instantiable RX3 6) (List.mem_of_getElem? (i := 405) (by decide +kernel)))
  have g4 := u_known (C := RX5) (T := TX5) (n := 5) h2 (fun w hw => (cw_5 w hw).1) (h2 (.instantiable RX5 5) (List.mem_of_getElem? (i := 431) (by decide +kernel)))
  have g5 := u_known (C := RX6) (T := TX6) (n := 2) h2 (fun w hw => (cw_6 w hw).1) (h2 (.instantiable RX6 2) (List.mem_of_getElem? (i := 128) (by decide +kernel)))
  have g6 := u_known (C := RX7) (T := TX7) (n := 3) h2 (fun w hw => (cw_7 w hw).1) (h2 (.instantiable RX7 3) (List.mem_of_getElem? (i := 641) (by decide +kernel)))
  have g7 := u_known (C := RX8) (T := TX8) (n := 12) h2 (fun w hw => (cw_8 w hw).1) (h2 (.instantiable RX8 12) (List.mem_of_getElem? (i := 381) (by decide +kernel)))
  have g8 := u_known (C := RX9) (T := TX9) (n := 15) h2 (fun w hw => (cw_9 w hw).1) (h2 (.instantiable RX9 15) (List.mem_of_getElem? (i := 144) (by decide +kernel)))
  have g9 := u_known (C := RX10) (T := TX10) (n := 18) h2 (fun w hw => (cw_10 w hw).1) (h2 (.instantiable RX10 18) (List.mem_of_getElem? (i := 305) (by decide +kernel)))
  have g10 := u_known (C := RX11) (T := TX11) (n := 11) h2 (fun w hw => (cw_11 w hw).1) (h2 (.instantiable RX11 11) (List.mem_of_getElem? (i := 120) (by decide +kernel)))
  have g11 := u_known (C := RX12) (T := TX12) (n := 29) h2 (fun w hw => (cw_12 w hw).1) (h2 (.instantiable RX12 29) (List.mem_of_getElem? (i := 1476) (by decide +kernel)))
  intro k
  match k with
  | 0 =>
    obtain ⟨c, i, h⟩ := g0
    exact ⟨(c, i), fun q hq => by cases hq; exact h⟩
  | 1 =>
    obtain ⟨c, i, h⟩ := g1
    exact ⟨(c, i), fun q hq => by cases hq; exact h⟩
  | 2 =>
    obtain ⟨c, i, h⟩ := g2
    exact ⟨(c, i), fun q hq => by cases hq; exact h⟩
  | 3 =>
    obtain ⟨c, i, h⟩ := g3
    exact ⟨(c, i), fun q hq => by cases hq; exact h⟩
  | 4 =>
    obtain ⟨c, i, h⟩ := g4
    exact ⟨(c, i), fun q hq => by cases hq; exact h⟩
  | 5 =>
    obtain ⟨c, i, h⟩ := g5
    exact ⟨(c, i), fun q hq => by cases hq; exact h⟩
  | 6 =>
    obtain ⟨c, i, h⟩ := g6
    exact ⟨(c, i), fun q hq => by cases hq; exact h⟩
  | 7 =>
    obtain ⟨c, i, h⟩ := g7
    exact ⟨(c, i), fun q hq => by cases hq; exact h⟩
  | 8 =>
    obtain ⟨c, i, h⟩ := g8
    exact ⟨(c, i), fun q hq => by cases hq; exact h⟩
  | 9 =>
    obtain ⟨c, i, h⟩ := g9
    exact ⟨(c, i), fun q hq => by cases hq; exact h⟩
  | 10 =>
    obtain ⟨c, i, h⟩ := g10
    exact ⟨(c, i), fun q hq => by cases hq; exact h⟩
  | 11 =>
    obtain ⟨c, i, h⟩ := g11
    exact ⟨(c, i), fun q hq => by cases hq; exact h⟩
  | k + 12 =>
    obtain ⟨c, i, h⟩ := g0
    exact ⟨(c, i), fun q hq => by simp [vwCl] at hq⟩
theorem vaK_0 (hts : ∀ w ∈ lw_tbl, w.before #[Value.ref b] s = true) : ∃ D : va_G, va_K D vwCl [] s := by
  have h := kn_all hts
  exact ⟨(fun k => (Classical.choose (h k)).1, fun k => (Classical.choose (h k)).2), fun k q hq => Classical.choose_spec (h k) q hq, fun k q h => by simp at h⟩
/-- the text constants -/
def tmS (i : Nat) : Term := .string (pStrs.getD i ("", 0, "")).1 (pStrs.getD i ("", 0, "")).2.1
def lnS (i : Nat) : Nat := pLens.getD i 0
def byS (i j : Nat) : Int32 := (pByts.getD i []).getD j 0
def vlS (i : Nat) : Term := .field (tmS i) "java/lang/String" "value" "[B"
def strAt (i : Nat) : List Cond := [.exactly (tmS i) "java/lang/String", .eq (.field (tmS i) "java/lang/String" "coder" "B") (.int 0), .arrayOf (vlS i) .byte, .eq (.length (vlS i)) (.int (Int32.ofNat (lnS i)))] ++ (List.range (lnS i)).map (fun j => Cond.eq (.elem (vlS i) (.int (Int32.ofNat j))) (.int (byS i j)))
def flG : List Cond := flatC (Jvm.Cond.and given_1 narrow_1)
theorem fl_str : flG.drop 71 = (List.range 46).flatMap strAt := by decide +kernel
theorem fl_mem {c : Cond} {i : Nat} (hi : i < 46) (h : c ∈ strAt i) : c ∈ flG := by
  refine List.mem_of_mem_drop (i := 71) ?_
  rw [fl_str]
  exact List.mem_flatMap.mpr ⟨i, List.mem_range.mpr hi, h⟩
theorem ln_ok : ∀ i, i < 46 → lnS i < 2 ^ 31 := by decide +kernel
def sameS (i j : Nat) : Bool := decide (lnS i = lnS j) && (List.range (lnS i)).all (fun k => decide (byS i k = byS j k))
theorem same_ok : ∀ i, i < 46 → ∀ j, j < 46 → sameS i j = true → i = j := by decide +kernel
theorem OF_det {o n d : String} {v w : Value} {a : Nat} {A : Nat → Prop} {H : Heap} (h1 : va_OF o n d v a A s H) (h2 : va_OF o n d w a A s H) : v = w := by
  obtain ⟨cf, k, i, f, cell, g1, g2, g3, g4, g5, g6⟩ := h1
  obtain ⟨cf', k', i', f', cell', e1, e2, e3, e4, e5, e6⟩ := h2
  rw [g1] at e1
  cases e1
  rw [g3] at e3
  cases e3
  rw [g5] at e5
  cases e5
  rfl
theorem T_det {t N N' : Nat} {f f' : Nat → Int32} {A : Nat → Prop} {H : Heap} (h1 : va_T .byte t N (fun j => .int (f j)) A s H) (h2 : va_T .byte t N' (fun j => .int (f' j)) A s H) (hN : N < 2 ^ 31) (hN' : N' < 2 ^ 31) : N = N' ∧ ∀ j, j < N → f j = f' j := by
  obtain ⟨cell, g1, g2, g3, g4, g5, g6, g7⟩ := h1
  obtain ⟨cell', e1, e2, e3, e4, e5, e6, e7⟩ := h2
  rw [g1] at e1
  cases e1
  have e : N = N' := by
    rw [g5] at e5
    have h1 : (Int32.ofNat N).toInt = (Int32.ofNat N').toInt := by rw [e5]
    rwa [Int32.toInt_ofNat_of_lt hN, Int32.toInt_ofNat_of_lt hN', Int.natCast_inj] at h1
  subst e
  refine ⟨rfl, fun j hj => ?_⟩
  have h1 := (g6 j hj).symm.trans (e6 j hj)
  injection h1 with h1
  injection h1
theorem str_0 (hfl : ∀ c ∈ flG, c.before #[Value.ref b] s = true) : ∃ adK adV : Nat → Nat, vk_S 46 pLens pByts adK adV (fun q => s.heap.size ≤ q) s s.heap ∧ ∀ i : Nat, i < 46 → (tmS i).eval #[Value.ref b] s none [] s = some (.ref (adK i)) := by
  have hA : ∀ a : Nat, a < s.heap.size → ¬ s.heap.size ≤ a := fun a h => Nat.not_le.mpr h
  have h0 : ∀ i : Nat, ∃ q : Nat × Nat, i < 46 → (tmS i).eval #[Value.ref b] s none [] s = some (.ref q.1) ∧ va_O "java/lang/String" q.1 (fun q => s.heap.size ≤ q) s s.heap ∧ va_OF "java/lang/String" "coder" "B" (.int 0) q.1 (fun q => s.heap.size ≤ q) s s.heap ∧ va_OF "java/lang/String" "value" "[B" (.ref q.2) q.1 (fun q => s.heap.size ≤ q) s s.heap ∧ va_T .byte q.2 (lnS i) (fun j => .int (byS i j)) (fun q => s.heap.size ≤ q) s s.heap := by
    intro i
    by_cases hi : i < 46
    · have m1 : (Cond.exactly (tmS i) "java/lang/String").before #[Value.ref b] s = true := hfl _ (fl_mem hi (by unfold strAt; simp))
      have m2 : (Cond.eq (.field (tmS i) "java/lang/String" "coder" "B") (.int 0)).before #[Value.ref b] s = true := hfl _ (fl_mem hi (by unfold strAt; simp))
      have m3 : (Cond.arrayOf (vlS i) .byte).before #[Value.ref b] s = true := hfl _ (fl_mem hi (by unfold strAt; simp))
      have m4 : (Cond.eq (.length (vlS i)) (.int (Int32.ofNat (lnS i)))).before #[Value.ref b] s = true := hfl _ (fl_mem hi (by unfold strAt; simp))
      have m5 : ∀ j, j < lnS i → (Cond.eq (.elem (vlS i) (.int (Int32.ofNat j))) (.int (byS i j))).before #[Value.ref b] s = true := fun j hj => hfl _ (fl_mem hi (List.mem_append_right _ (List.mem_map.mpr ⟨j, List.mem_range.mpr hj, rfl⟩)))
      obtain ⟨a, c, cA, kA, q1, q2, q3, q4, q5, q6, -⟩ := Cond.exactly_spec (args := #[Value.ref b]) (first := s) (o := none) (s := s) (idx := []) (t := tmS i) (cls := "java/lang/String") m1
      obtain ⟨t, ht, hT⟩ := va_Tof (f := fun j => .int (byS i j)) (A := fun q => s.heap.size ≤ q) (ln_ok i hi) m3 (va_eqt m4) (fun j hj => va_eqt (m5 j hj)) hA
      exact ⟨(a, t), fun _ => ⟨q1, ⟨cA, q3, q5, by rw [q6]; exact q2, hA a (Array.getElem?_eq_some_iff.mp q3).1⟩, vk_OFof q1 (va_eqt m2) hA, vk_OFof q1 ht hA, hT⟩⟩
    · exact ⟨(0, 0), fun h => absurd h hi⟩
  obtain ⟨ad, had⟩ := Classical.axiomOfChoice h0
  refine ⟨fun i => (ad i).1, fun i => (ad i).2, ⟨fun i hi => (had i hi).2, fun i j hi hj e => ?_⟩, fun i hi => (had i hi).1⟩
  obtain ⟨-, -, -, v1, t1⟩ := had i hi
  obtain ⟨-, -, -, v2, t2⟩ := had j hj
  have e : (ad i).1 = (ad j).1 := e
  rw [← e] at v2
  have ev := OF_det v1 v2
  injection ev with ev
  rw [← ev] at t2
  obtain ⟨l1, l2⟩ := T_det t1 t2 (ln_ok i hi) (ln_ok j hj)
  refine same_ok i hi j hj ?_
  unfold sameS
  rw [Bool.and_eq_true, decide_eq_true_iff, List.all_eq_true]
  exact ⟨l1, fun k hk => decide_eq_true (l2 k (List.mem_range.mp hk))⟩
def sIx : List Nat := [309, 385, 985, 1020, 1041, 1104, 1111, 1125, 1129, 1130, 1143, 1144, 1161, 1182, 1252, 1329, 1362, 1363, 1449, 1450, 1608, 1615, 1616, 1629, 1638, 1639, 1640, 1653, 1654, 1655, 1656, 1657, 1658, 1659, 1660, 1665, 1670, 1671, 1672, 1677, 1678, 1714, 1727, 1728, 1733, 1734]
theorem sr_ok : ∀ j, j < 46 → lw_tb2[sIx.getD j 0]? = some (Cond.stringRef (pStrs.getD j ("", 0, "")).1 (pStrs.getD j ("", 0, "")).2.1 (pStrs.getD j ("", 0, "")).2.2) := by decide +kernel
theorem pside_0 (hts : ∀ w ∈ lw_tbl, w.before #[Value.ref b] s = true) (hgv : (Jvm.Cond.and given_1 narrow_1).before #[Value.ref b] s = true) : ∃ sp adV : Nat → Nat, sp 0 = b ∧ pSide s.heap.size sp pStrs pLens pByts adV pNcs s := by
  have h2 := tb2_of hts
  have hfl : ∀ c ∈ flG, c.before #[Value.ref b] s = true := flat_of_before _ hgv
  have hA : ∀ a : Nat, a < s.heap.size → ¬ s.heap.size ≤ a := fun a h => Nat.not_le.mpr h
  obtain ⟨adK, adV, hs, hev⟩ := str_0 hfl
  have e1 : ∀ j, (fun k => if k = 0 then b else adK (k - 1)) (1 + j) = adK j := fun j => by
    show (if 1 + j = 0 then b else adK (1 + j - 1)) = adK j
    rw [if_neg (by omega), show 1 + j - 1 = j from by omega]
  refine ⟨fun k => if k = 0 then b else adK (k - 1), adV, rfl, fun w hw => ?_, fun j q hj => ?_, ?_, fun q hq => ?_, ⟨?_, ?_⟩, ?_, ?_, ?_⟩
  · exact va_Nw.of (sw_ot hw) (h2 w (List.mem_filter.mp hw).1)
  · have hlt : j < 46 := (List.getElem?_eq_some_iff.mp hj).1
    have hq : pStrs.getD j ("", 0, "") = q := by rw [List.getD_eq_getElem?_getD, hj]; rfl
    have h3 := sr_ok j hlt
    have h4 := hev j hlt
    unfold tmS at h4
    rw [hq] at h3 h4
    rw [e1]
    exact vk_R.of (h2 _ (List.mem_of_getElem? h3)) h4
  · exact va_AO.of (h2 (.arrayOver (.object RX7)) (List.mem_of_getElem? (i := 235) (by decide +kernel)))
  · have hm : ∀ q, q ∈ pNcs → (Cond.not (.castable q.1 q.2)) ∈ flG := by
      intro q hq
      simp only [pNcs, List.mem_cons, List.not_mem_nil, or_false] at hq
      rcases hq with rfl | rfl | rfl | rfl
      · exact List.mem_of_getElem? (i := 52) (by decide +kernel)
      · exact List.mem_of_getElem? (i := 22) (by decide +kernel)
      · exact List.mem_of_getElem? (i := 25) (by decide +kernel)
      · exact List.mem_of_getElem? (i := 55) (by decide +kernel)
    exact va_Nc.of (hfl _ (hm q hq))
  · exact vx_Zqof (h2 (.laysStatic Bundle.tN "UNASSIGNED_STACK" Bundle.steD) (List.mem_of_getElem? (i := 970) (by decide +kernel))) (h2 (.initialized Bundle.tN) (List.mem_of_getElem? (i := 110) (by decide +kernel))) (hfl (.isRef (.static Bundle.tN "UNASSIGNED_STACK" Bundle.steD)) (List.mem_of_getElem? (i := 9) (by decide +kernel))) hA
  · exact vx_Zqof (h2 (.laysStatic Bundle.tN "SUPPRESSED_SENTINEL" Bundle.listD) (List.mem_of_getElem? (i := 972) (by decide +kernel))) (h2 (.initialized Bundle.tN) (List.mem_of_getElem? (i := 110) (by decide +kernel))) (hfl (.isRef (.static Bundle.tN "SUPPRESSED_SENTINEL" Bundle.listD)) (List.mem_of_getElem? (i := 10) (by decide +kernel))) hA
  · have : (fun j => (fun k => if k = 0 then b else adK (k - 1)) (1 + j)) = adK := funext e1
    rw [this]
    exact hs
  · exact va_Zof (h2 (.laysStatic "java/lang/String" "COMPACT_STRINGS" "Z") (List.mem_of_getElem? (i := 759) (by decide +kernel))) (h2 (.initialized "java/lang/String") (List.mem_of_getElem? (i := 105) (by decide +kernel))) (va_eqt (hfl (.eq (.static "java/lang/String" "COMPACT_STRINGS" "Z") (.int 1)) (List.mem_of_getElem? (i := 4) (by decide +kernel)))) hA
  · exact va_Zqof (h2 (.laysStatic "jdk/internal/util/Preconditions" "SIOOBE_FORMATTER" "Ljava/util/function/BiFunction;") (List.mem_of_getElem? (i := 775) (by decide +kernel))) (h2 (.initialized "jdk/internal/util/Preconditions") (List.mem_of_getElem? (i := 107) (by decide +kernel))) (hfl (.isRef (.static "jdk/internal/util/Preconditions" "SIOOBE_FORMATTER" "Ljava/util/function/BiFunction;")) (List.mem_of_getElem? (i := 5) (by decide +kernel))) hA
end SID
