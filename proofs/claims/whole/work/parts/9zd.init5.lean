/-! THE LAW'S BEGIN: all is well -/
def a00 : Nat → Int32 := fun k => if k = 7 then nN 10 else 0
def Fr0 (M : pMem) : Prop := ∀ h, gN M ≤ h → h < 900000 → (gS M h).1 = 0
section LB
variable {L : Nat} {xs : Nat → Int32} {h k t n w a1 a2 : Nat} {M : pMem} {z : Int32} {y : Option Nat}
theorem Fr0.nw (F : Fr0 M) : Fr0 (nw M t n w) := fun h h1 h2 => by
  have h3 : gN M + 1 ≤ h := h1
  rw [gS_nw, if_neg (by omega)]
  exact F h (by omega) h2
theorem Fr0.sP (F : Fr0 M) : Fr0 (sP M h k y) := F
theorem Fr0.sI (F : Fr0 M) : Fr0 (sI M h k z) := F
theorem Fr0.nwp (F : Fr0 M) : Fr0 (nwp M h k n) := (F.nw).sP
theorem Fr0.nwq (F : Fr0 M) : Fr0 (nwq M h k n) := (F.nw).sP
theorem Fr0.f197 (F : Fr0 M) : Fr0 (f197 M h) := F.nwp
theorem Fr0.f156 (F : Fr0 M) : Fr0 (f156 M h) := F.nwp.nwp.nwp.nwp.nwp
theorem Fr0.f141 (F : Fr0 M) : Fr0 (f141 M h) := F.nwp.nwp.nwp.nwp.nwp.nwp.nwp
theorem Fr0.f169 (F : Fr0 M) : Fr0 (f169 M h) := F.nwp.nwp.nwp.nwp
theorem Fr0.f190 (F : Fr0 M) : Fr0 (f190 M h a1) := F.nwp.nwp.nwp.sP
theorem Fr0.f179 (F : Fr0 M) : Fr0 (f179 M h a1 a2 z) := F.nwp.nwp.sP.sP.sI.sI
theorem Fr0.f205 (F : Fr0 M) : Fr0 (f205 M h a1) := F.f179.nwp
theorem Fr0.f241 (F : Fr0 M) : Fr0 (f241 M h a1 a2) := F.f179.sP
theorem Fr0.f215 (F : Fr0 M) : Fr0 (f215 M h) := F.nw.f156.sP.nw.f141.sP.nwq.nwp.nwp.nwp.nwp.nwp.nwp.sI
theorem fr_st0 : Fr0 (st0 L xs) := fun h h1 h2 => by
  show (if h = 900000 then ((103 : Nat), L) else if 900001 ≤ h ∧ h < 900047 then ((104 : Nat), (0 : Nat)) else ((0 : Nat), (0 : Nat))).1 = 0
  rw [if_neg (by omega), if_neg (by omega)]
theorem fr_st4 : Fr0 (st4 L xs) := fr_st0.nw.nw.f197.sP.nw.f215.sP.nw.f215.sP.nw.f215.sP
theorem fr_st9 : Fr0 (st9 L xs) := fr_st4.nw.f241.sP.nw.f205.sP.nw.f169.sP.nw.f190.sP.nw.sP.sI.sI
theorem fr_stz : Fr0 (stz L xs) := fr_st9.nw.nwp.nwp.nwp.nwp.sI.nwp.nwp.nwp.nwp.nwp.nwp.nwp.nwp.nwp.sI.nw
theorem bm_st0 : BM (st0 L xs) := fun h k hs _ => by
  have hs : (if h = 900000 then ((103 : Nat), L) else if 900001 ≤ h ∧ h < 900047 then ((104 : Nat), (0 : Nat)) else ((0 : Nat), (0 : Nat))).1 = 12 := hs
  split at hs
  · cases hs
  · split at hs <;> cases hs
theorem bm_stz : BM (stz L xs) := by
  have h1 : mw 101 0 [.ref 0] (nw (st0 L xs) 11 0 11) (fun _ M' => M' = st9 L xs) := by rw [i_0]
  obtain ⟨_, M1, _, rfl, b1⟩ := mw_bm h1 (bm_st0.nw)
  have h2 : mw 101 50 [.ref 86] (nw (st9 L xs) 12 0 29) (fun _ M' => M' = stm L xs) := by rw [i_50]
  obtain ⟨_, M1, _, rfl, b2⟩ := mw_bm h2 (b1.nw)
  exact b2.nw
set_option maxRecDepth 100000 in
set_option maxHeartbeats 4000000 in
theorem sh_t3 : ShT (gS (stz L xs)) (gP (stz L xs)) 3 := ShT.mk rfl rfl rfl rfl rfl rfl rfl rfl rfl rfl rfl rfl rfl rfl rfl rfl rfl rfl rfl rfl rfl rfl rfl rfl rfl rfl rfl rfl rfl rfl rfl rfl rfl rfl rfl rfl rfl rfl rfl rfl rfl rfl rfl
set_option maxRecDepth 100000 in
set_option maxHeartbeats 4000000 in
theorem sh_t25 : ShT (gS (stz L xs)) (gP (stz L xs)) 25 := ShT.mk rfl rfl rfl rfl rfl rfl rfl rfl rfl rfl rfl rfl rfl rfl rfl rfl rfl rfl rfl rfl rfl rfl rfl rfl rfl rfl rfl rfl rfl rfl rfl rfl rfl rfl rfl rfl rfl rfl rfl rfl rfl rfl rfl
set_option maxRecDepth 100000 in
set_option maxHeartbeats 4000000 in
theorem sh_t47 : ShT (gS (stz L xs)) (gP (stz L xs)) 47 := ShT.mk rfl rfl rfl rfl rfl rfl rfl rfl rfl rfl rfl rfl rfl rfl rfl rfl rfl rfl rfl rfl rfl rfl rfl rfl rfl rfl rfl rfl rfl rfl rfl rfl rfl rfl rfl rfl rfl rfl rfl rfl rfl rfl rfl
set_option maxRecDepth 100000 in
set_option maxHeartbeats 4000000 in
theorem sh_f : ShF (gS (stz L xs)) (gP (stz L xs)) := ShF.mk rfl rfl rfl rfl rfl rfl rfl rfl rfl rfl rfl rfl rfl sh_t3 sh_t25 sh_t47 rfl rfl rfl rfl rfl rfl rfl rfl rfl rfl rfl rfl rfl rfl rfl rfl rfl rfl rfl rfl rfl rfl rfl rfl rfl rfl rfl rfl rfl rfl rfl rfl rfl rfl rfl rfl rfl rfl
set_option maxRecDepth 100000 in
set_option maxHeartbeats 4000000 in
theorem sh_ks : ∀ i, i < 46 → (gS (stz L xs) (900001 + i)).1 = 104
  | 0, _ => rfl
  | 1, _ => rfl
  | 2, _ => rfl
  | 3, _ => rfl
  | 4, _ => rfl
  | 5, _ => rfl
  | 6, _ => rfl
  | 7, _ => rfl
  | 8, _ => rfl
  | 9, _ => rfl
  | 10, _ => rfl
  | 11, _ => rfl
  | 12, _ => rfl
  | 13, _ => rfl
  | 14, _ => rfl
  | 15, _ => rfl
  | 16, _ => rfl
  | 17, _ => rfl
  | 18, _ => rfl
  | 19, _ => rfl
  | 20, _ => rfl
  | 21, _ => rfl
  | 22, _ => rfl
  | 23, _ => rfl
  | 24, _ => rfl
  | 25, _ => rfl
  | 26, _ => rfl
  | 27, _ => rfl
  | 28, _ => rfl
  | 29, _ => rfl
  | 30, _ => rfl
  | 31, _ => rfl
  | 32, _ => rfl
  | 33, _ => rfl
  | 34, _ => rfl
  | 35, _ => rfl
  | 36, _ => rfl
  | 37, _ => rfl
  | 38, _ => rfl
  | 39, _ => rfl
  | 40, _ => rfl
  | 41, _ => rfl
  | 42, _ => rfl
  | 43, _ => rfl
  | 44, _ => rfl
  | 45, _ => rfl
  | i + 46, h => absurd h (by omega)
set_option maxRecDepth 100000 in
set_option maxHeartbeats 4000000 in
theorem sh_m : ShM (gS (stz L xs)) (gP (stz L xs)) 86 := ShM.mk rfl rfl rfl rfl rfl rfl rfl rfl rfl rfl rfl rfl rfl rfl rfl rfl rfl rfl rfl rfl rfl rfl rfl rfl rfl rfl rfl sh_ks
theorem a0_P : nP a00 = 0 := by decide +kernel
theorem a0_F : nF a00 = 0 := by decide +kernel
theorem a0_E : nE a00 = 0 := by decide +kernel
theorem a0_R : nR a00 = 0 := by decide +kernel
theorem a0_T : nT a00 = 0 := by decide +kernel
theorem a0_at (k : Nat) : a00 k = if k = 7 then nN 10 else 0 := rfl
set_option maxRecDepth 100000 in
set_option maxHeartbeats 4000000 in
theorem rep_0 : Rep (stz L xs) 3 a00 := Rep.mk sh_t3 rfl rfl rfl rfl rfl rfl rfl rfl (fun q hq => absurd hq (by rw [a0_P]; omega)) (fun q hq => absurd hq (by rw [a0_P]; omega)) (fun q hq => absurd hq (by rw [a0_P]; omega)) (fun q hq => absurd hq (by rw [a0_P]; omega)) (fun q hq => absurd hq (by rw [a0_P]; omega)) (fun q hq => absurd hq (by rw [a0_F]; omega)) (fun q hq => absurd hq (by rw [a0_F]; omega)) (fun q hq => absurd hq (by rw [a0_F]; omega)) (fun q hq => absurd hq (by rw [a0_F]; omega)) (fun q hq => absurd hq (by rw [a0_F]; omega)) (fun q hq => absurd hq (by rw [a0_F]; omega)) (fun f k hq => absurd hq (by rw [a0_F]; omega)) (fun q hq => absurd hq (by rw [a0_E]; omega)) (fun q hq => absurd hq (by rw [a0_E]; omega)) (fun q hq => absurd hq (by rw [a0_E]; omega)) (fun q hq => absurd hq (by rw [a0_R]; omega)) (fun r k hq => absurd hq (by rw [a0_R]; omega))
theorem wf_0 : Wf a00 := by
  have z : ∀ k, k ≠ 7 → a00 k = nN 0 := fun k h => by rw [a0_at, if_neg h]; exact nN_0
  refine Wf.mk ?_ ?_ ?_ ?_ ?_ ?_ ?_ ?_ ?_ ?_ ?_ ?_ ?_ ?_ ?_ ?_ ?_ ?_ ?_ ?_ ?_ ?_
  · rw [a0_P]; exact z _ (by omega)
  · rw [a0_P]; omega
  · rw [a0_T]; exact z _ (by omega)
  · rw [a0_T]; omega
  · rw [a0_F]; exact z _ (by omega)
  · rw [a0_F]; omega
  · rw [a0_E]; exact z _ (by omega)
  · rw [a0_E]; omega
  · rw [a0_R]; exact z _ (by omega)
  · rw [a0_R]; omega
  · exact ⟨10, by omega, rfl⟩
  · exact ⟨0, by omega, z _ (by omega)⟩
  · intro q hq; rw [a0_P] at hq; omega
  · intro q hq; rw [a0_P] at hq; omega
  · intro q hq; rw [a0_P] at hq; omega
  · intro q hq; rw [a0_F] at hq; omega
  · intro q hq; rw [a0_F] at hq; omega
  · intro q hq; rw [a0_F] at hq; omega
  · intro q hq; rw [a0_F] at hq; omega
  · intro q hq; rw [a0_F] at hq; omega
  · intro q hq; rw [a0_E] at hq; omega
  · intro q hq; rw [a0_R] at hq; omega
theorem wt_0 : Wt a00 0 := by
  refine ⟨wf_0, ?_, ?_, ?_, 0, Nat.le_refl _, by rw [a0_at, if_neg (by omega)]; exact nN_0⟩
  · intro p g hp; rw [a0_P] at hp; omega
  · intro q hq; rw [a0_P] at hq; omega
  · intro q hq; rw [a0_T] at hq; omega
theorem rd_0 : Rd a00 := fun r i k hr => by rw [a0_R] at hr; omega
set_option maxRecDepth 100000 in
set_option maxHeartbeats 4000000 in
theorem ci_0 : CI (stz L xs) a00 a00 false 0 (fun _ => 0) (iN (-1)) := by
  have q : ∀ t, (∀ k, gP (stz L xs) (t + 15) k = none) → QO (stz L xs) t := fun t h k _ q hq => by rw [h k] at hq; cases hq
  refine CI.mk sh_f rep_0 (fun k hk => absurd hk (by rw [a0_T]; omega)) (fun h => absurd h (by simp)) (fun h => absurd h (by simp)) (q 3 fun k => rfl) (q 25 fun k => rfl) rfl rfl rfl (fun k hk => absurd hk (by omega)) ?_ rfl
  rw [show gI (stz L xs) 0 9 = nN 0 from rfl]
  exact bI_f (by simp)
set_option maxRecDepth 100000 in
set_option maxHeartbeats 4000000 in
theorem mi_0 : MI (stz L xs) 86 a00 a00 false 0 (fun _ => 0) (iN (-1)) := by
  have r : gI (stz L xs) 87 = a00 := funext fun k => by
    show (if 87 = 87 ∧ k = 7 then nN 10 else 0) = a00 k
    rw [a0_at]
    by_cases c : k = 7
    · rw [if_pos ⟨rfl, c⟩, if_pos c]
    · rw [if_neg (fun z => c z.2), if_neg c]
  refine MI.mk ⟨sh_m, r⟩ (fun h => absurd h (by simp)) ?_ ?_ (fun k hk => absurd hk (by omega)) rfl
  · rw [show gI (stz L xs) 86 3 = nN 0 from rfl]
    exact bI_f (by simp)
  · rfl
set_option maxRecDepth 100000 in
set_option maxHeartbeats 4000000 in
theorem li_0 : LI L xs 60000 0 (stz L xs) := by
  have n1 : gN (stz L xs) = 101 := rfl
  refine ⟨⟨a00, a00, false, 0, fun _ => 0, iN (-1), LwS.mk ci_0 mi_0 (GdS.mk wt_0 rd_0 (fun h => absurd h (by simp)) (by omega) (fun _ => by omega)) ⟨by omega, fr_stz⟩ bm_stz (by omega) (by omega)⟩, ⟨by omega, ?_⟩, rfl, rfl, fun k => rfl⟩
  show gL (stz L xs) ≤ 60000
  exact Nat.le_of_ble_eq_true rfl
theorem law_run (hL : L ≤ 3072) : mw (101 + 1) 279 [.ref 900000] (st0 L xs) (LEnd 60000) := by
  rw [law_begin]
  exact law_loop hL 512 0 (stz L xs) none none (by omega) li_0
end LB
