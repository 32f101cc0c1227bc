/-! THE WORDS OF TEMPERS, the law's model's parts of them -/
def tW : List (List Nat) := [[119, 111, 114, 116, 104], [97, 109, 111, 117, 110, 116], [104, 97, 110, 100, 115], [108, 101, 102, 116], [111, 119, 101, 100], [100, 101, 98, 116], [110, 101, 97, 114], [116, 105, 109, 101, 100], [97, 103, 97, 105, 110], [116, 97, 107, 101], [114, 101, 102, 117, 115, 101], [105, 102], [110, 111, 116], [97, 110, 100], [111, 114]]
def tS : List Nat := [900028, 900029, 900030, 900031, 900032, 900033, 900025, 900026, 900027, 900021, 900022, 900023, 900024, 900034, 900035]
theorem tS_ok : ∀ i, i < 15 → StO (tS.getD i 0) (tW.getD i []) := by
  unfold StO
  decide +kernel
theorem tW_1 : ∀ i, i < 15 → 1 ≤ (tW.getD i []).length ∧ 900001 ≤ tS.getD i 0 ∧ tS.getD i 0 < 900047 := by decide +kernel
theorem tW_2 : tW.Nodup := by decide +kernel
theorem tW_3 : tW.length = 15 := rfl
section TW
variable {d n u p q k m c sr i : Nat} {b : Nat → Nat} {W : List (List Nat)} {M M1 M' : pMem} {Q : pOut → pMem → Prop} {x y : Int32}
theorem wixF_iff {x : List Nat} : ∀ (V : List (List Nat)) (c i : Nat), V.Nodup → i < V.length → c + V.length < 3001 → (wixF x V c = c + i ↔ x = V.getD i []) := by
  intro V
  induction V with
  | nil => intro c i _ h; simp at h
  | cons w V ih =>
    intro c i hn hi hc
    simp only [List.length_cons] at hi hc
    rw [List.nodup_cons] at hn
    show (if x = w then c else wixF x V (c + 1)) = c + i ↔ _
    cases i with
    | zero =>
      show _ ↔ x = w
      have g := wixF_ge (x := x) V (c + 1) (by omega)
      by_cases e : x = w
      · rw [if_pos e]; simp [e]
      · rw [if_neg e]; exact ⟨fun z => by omega, fun z => absurd z e⟩
    | succ i =>
      show _ ↔ x = V.getD i []
      have g := ih (c + 1) i hn.2 (by omega) (by omega)
      by_cases e : x = w
      · rw [if_pos e]
        refine ⟨fun z => by omega, fun z => ?_⟩
        exfalso
        apply hn.1
        rw [← e, z, List.getD_eq_getElem?_getD, List.getElem?_eq_getElem (show i < V.length by omega)]
        exact List.getElem_mem _
      · rw [if_neg e, ← g]
        exact ⟨fun z => by omega, fun z => by omega⟩
theorem th_word (hB : p = n ∨ (p < n ∧ isB b p = true)) (hi : i < W.length) (hnd : W.Nodup) (hW : W.length < 100) : (isW n b (W.getD i []) p) = (th W n b p = 1000 + i) := by
  rcases hB with e | ⟨hp, hB⟩
  · rw [th_3000 (by omega)]
    exact propext ⟨fun z => absurd z.1 (by omega), fun z => by omega⟩
  · have g := wixF_iff (x := tx n b p) W 1000 i hnd hi (by omega)
    rcases th_kinds (b := b) hW hp with ⟨h1, h2⟩ | ⟨h1, h2⟩ | ⟨h1, h2, h3, h4⟩
    · exact propext ⟨fun z => absurd z.2.1 (by omega), fun z => by omega⟩
    · exact propext ⟨fun z => absurd z.2.1 (by omega), fun z => by omega⟩
    · have h0 := (isB_iff.mp hB).1
      have hl := kd_le (c := b p)
      have hk : kd (b p) = 1 := by omega
      have e : th W n b p = wixF (tx n b p) W 1000 := by
        unfold th
        rw [if_neg (by omega), if_neg h1, if_neg h2]
      rw [e]
      exact propext ⟨fun z => g.mpr z.2.2, fun z => ⟨hp, hk, g.mp z⟩⟩
theorem W2_t : W2 n b tW := by
  intro p hp h
  have hW : tW.length < 100 := by decide
  rcases th_kinds (b := b) hW hp with ⟨h1, h2⟩ | ⟨h1, h2⟩ | ⟨h1, h2, h3, h4⟩
  · omega
  · omega
  · have e : th tW n b p = wixF (tx n b p) tW 1000 := by
      unfold th
      rw [if_neg (by omega), if_neg h1, if_neg h2]
    have hl := tx_len (b := b) hp
    have g9 := te_spec (b := b) hp
    rw [e] at h
    rcases h with h | h
    · rw [(wixF_iff tW 1000 9 tW_2 (by decide) (by decide)).mp h] at hl
      have e : (tW.getD 9 []).length = 4 := rfl
      omega
    · rw [(wixF_iff tW 1000 10 tW_2 (by decide) (by decide)).mp h] at hl
      have e : (tW.getD 10 []).length = 6 := rfl
      omega
theorem w_hasT (h : MdS M u n b q p) (hi : i < 15) (hsr : sr = tS.getD i 0) : mw (d + 4) 63 [.ref u, .ref sr] M (fun o M' => (if th tW n b p = 1000 + i then o = .inl (some (.int (nN 1))) ∧ MdS M' u n b (te n b p) (nx9 n b p) else o = .inl (some (.int (nN 0))) ∧ MdS M' u n b p p) ∧ Ag (fun h k => h = u ∧ k = 9) M M') := by
  obtain ⟨g1, g2, g3⟩ := tW_1 i hi
  have hs : (gS M sr).1 = 104 := by
    have := h.sh.ks (sr - 900001) (by omega)
    rw [show 900001 + (sr - 900001) = sr by omega] at this
    exact this
  have hS := tS_ok i hi
  rw [← hsr] at hS
  refine mw_mono (w_has0 h hs hS g1) ?_
  rintro o M1 ⟨h1, A1⟩
  refine ⟨?_, A1⟩
  have e := th_word (n := n) (b := b) (p := p) (i := i) h.at9 (by rw [tW_3]; omega) tW_2 (by decide)
  rcases h1 with ⟨a1, a2, a3⟩ | ⟨a1, a2, a3⟩ <;> rw [e] at a1
  · rw [if_pos a1]; exact ⟨a2, a3⟩
  · rw [if_neg a1]; exact ⟨a2, a3⟩
end TW
