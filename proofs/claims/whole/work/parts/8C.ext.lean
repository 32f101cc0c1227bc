/-! MORE CELLS: what held of those that were there still holds -/
def Ex (M M' : pMem) : Prop := gN M ≤ gN M' ∧ ∀ h, (gS M h).1 ≠ 0 → gS M' h = gS M h ∧ gP M' h = gP M h ∧ gI M' h = gI M h ∧ gJ M' h = gJ M h
def Fr (M : pMem) : Prop := 101 ≤ gN M ∧ ∀ h, gN M ≤ h → h < 900000 → (gS M h).1 = 0
section EX
variable {d t n u q : Nat} {a a' ak : Nat → Int32} {img : Bool} {b : Nat → Nat} {fl : Int32} {M M1 M2 M' : pMem} {Q : pOut → pMem → Prop} {h k : Nat} {cs : List Nat}
theorem Ex.S (E : Ex M M') (z : (gS M h).1 ≠ 0) : gS M' h = gS M h := (E.2 h z).1
theorem Ex.P (E : Ex M M') (z : (gS M h).1 ≠ 0) : gP M' h k = gP M h k := by rw [(E.2 h z).2.1]
theorem Ex.I (E : Ex M M') (z : (gS M h).1 ≠ 0) : gI M' h k = gI M h k := by rw [(E.2 h z).2.2.1]
theorem Ex.rfl : Ex M M := ⟨Nat.le_refl _, fun _ _ => ⟨Eq.refl _, Eq.refl _, Eq.refl _, Eq.refl _⟩⟩
theorem Ex.trans (A : Ex M M1) (B : Ex M1 M2) : Ex M M2 := ⟨Nat.le_trans A.1 B.1, fun h z => by
  obtain ⟨a1, a2, a3, a4⟩ := A.2 h z
  obtain ⟨b1, b2, b3, b4⟩ := B.2 h (by rw [a1]; exact z)
  exact ⟨b1.trans a1, b2.trans a2, b3.trans a3, b4.trans a4⟩⟩
theorem Ex.nx (hF : Fr M) (hN : gN M < 900000) : Ex M (nx M) := ⟨Nat.le_succ _, fun h z => by
  have : h ≠ gN M := fun e => z (by rw [e]; exact hF.2 _ (Nat.le_refl _) hN)
  refine ⟨?_, Eq.refl _, Eq.refl _, Eq.refl _⟩
  show (if h = gN M then ((0 : Nat), (0 : Nat)) else gS M h) = gS M h
  rw [if_neg this]⟩
theorem Ex.nw {t9 n9 w9 : Nat} (hF : Fr M) (hN : gN M < 900000) : Ex M (nw M t9 n9 w9) := ⟨Nat.le_succ _, fun h z => by
  have : h ≠ gN M := fun e => z (by rw [e]; exact hF.2 _ (Nat.le_refl _) hN)
  refine ⟨?_, ?_, ?_, ?_⟩
  · show (if h = gN M then (t9, n9) else gS M h) = gS M h
    rw [if_neg this]
  · show upR (gP M) (gN M) (fun _ => none) h = gP M h
    unfold upR; rw [if_neg this]
  · show upR (gI M) (gN M) (fun _ => 0) h = gI M h
    unfold upR; rw [if_neg this]
  · show upR (gJ M) (gN M) (fun _ => 0) h = gJ M h
    unfold upR; rw [if_neg this]⟩
theorem Fr.nx (hF : Fr M) : Fr (nx M) := ⟨Nat.le_succ_of_le hF.1, fun h h1 h2 => by
  have h1 : gN M + 1 ≤ h := h1
  show (if h = gN M then ((0 : Nat), (0 : Nat)) else gS M h).1 = 0
  rw [if_neg (by omega)]
  exact hF.2 h (by omega) h2⟩
theorem Fr.nw {t9 n9 w9 : Nat} (hF : Fr M) : Fr (nw M t9 n9 w9) := ⟨Nat.le_succ_of_le hF.1, fun h h1 h2 => by
  have h1 : gN M + 1 ≤ h := h1
  show (if h = gN M then (t9, n9) else gS M h).1 = 0
  rw [if_neg (by omega)]
  exact hF.2 h (by omega) h2⟩
theorem Fr.ag {X : Nat → Nat → Prop} (hF : Fr M) (A : Ag X M M') : Fr M' := by
  unfold Fr
  rw [A.S, A.N]
  exact hF
theorem ShT.ex {t : Nat} (h : ShT (gS M) (gP M) t) (E : Ex M M') : ShT (gS M') (gP M') t := by
  refine ShT.mk ?_ ?_ ?_ ?_ ?_ ?_ ?_ ?_ ?_ ?_ ?_ ?_ ?_ ?_ ?_ ?_ ?_ ?_ ?_ ?_ ?_ ?_ ?_ ?_ ?_ ?_ ?_ ?_ ?_ ?_ ?_ ?_ ?_ ?_ ?_ ?_ ?_ ?_ ?_ ?_ ?_ ?_ ?_
  · rw [E.S (by rw [h.k0]; decide)]; exact h.k0
  · rw [E.S (by rw [h.k1]; decide)]; exact h.k1
  · rw [E.S (by rw [h.k2]; decide)]; exact h.k2
  · rw [E.S (by rw [h.k3]; decide)]; exact h.k3
  · rw [E.S (by rw [h.k4]; decide)]; exact h.k4
  · rw [E.S (by rw [h.k5]; decide)]; exact h.k5
  · rw [E.S (by rw [h.k6]; decide)]; exact h.k6
  · rw [E.S (by rw [h.k7]; decide)]; exact h.k7
  · rw [E.S (by rw [h.k8]; decide)]; exact h.k8
  · rw [E.S (by rw [h.k9]; decide)]; exact h.k9
  · rw [E.S (by rw [h.k10]; decide)]; exact h.k10
  · rw [E.S (by rw [h.k11]; decide)]; exact h.k11
  · rw [E.S (by rw [h.k12]; decide)]; exact h.k12
  · rw [E.S (by rw [h.k13]; decide)]; exact h.k13
  · rw [E.S (by rw [h.k14]; decide)]; exact h.k14
  · rw [E.S (by rw [h.k15]; decide)]; exact h.k15
  · rw [E.S (by rw [h.k16]; decide)]; exact h.k16
  · rw [E.S (by rw [h.k17]; decide)]; exact h.k17
  · rw [E.S (by rw [h.k18]; decide)]; exact h.k18
  · rw [E.S (by rw [h.k19]; decide)]; exact h.k19
  · rw [E.S (by rw [h.k20]; decide)]; exact h.k20
  · rw [E.S (by rw [h.k21]; decide)]; exact h.k21
  · rw [E.P (by rw [h.k0]; decide)]; exact h.p0
  · rw [E.P (by rw [h.k0]; decide)]; exact h.p1
  · rw [E.P (by rw [h.k0]; decide)]; exact h.p2
  · rw [E.P (by rw [h.k0]; decide)]; exact h.p3
  · rw [E.P (by rw [h.k0]; decide)]; exact h.p4
  · rw [E.P (by rw [h.k0]; decide)]; exact h.p5
  · rw [E.P (by rw [h.k0]; decide)]; exact h.p6
  · rw [E.P (by rw [h.k0]; decide)]; exact h.p7
  · rw [E.P (by rw [h.k0]; decide)]; exact h.p8
  · rw [E.P (by rw [h.k1]; decide)]; exact h.q0
  · rw [E.P (by rw [h.k1]; decide)]; exact h.q1
  · rw [E.P (by rw [h.k1]; decide)]; exact h.q2
  · rw [E.P (by rw [h.k1]; decide)]; exact h.q3
  · rw [E.P (by rw [h.k1]; decide)]; exact h.q4
  · rw [E.P (by rw [h.k7]; decide)]; exact h.r0
  · rw [E.P (by rw [h.k7]; decide)]; exact h.r1
  · rw [E.P (by rw [h.k7]; decide)]; exact h.r2
  · rw [E.P (by rw [h.k7]; decide)]; exact h.r3
  · rw [E.P (by rw [h.k7]; decide)]; exact h.r4
  · rw [E.P (by rw [h.k7]; decide)]; exact h.r5
  · rw [E.P (by rw [h.k7]; decide)]; exact h.r6
theorem ShM.ex {u : Nat} (h : ShM (gS M) (gP M) u) (E : Ex M M') : ShM (gS M') (gP M') u := by
  refine ShM.mk ?_ ?_ ?_ ?_ ?_ ?_ ?_ ?_ ?_ ?_ ?_ ?_ ?_ ?_ ?_ ?_ ?_ ?_ ?_ ?_ ?_ ?_ ?_ ?_ ?_ ?_ ?_ ?_
  · rw [E.S (by rw [h.k0]; decide)]; exact h.k0
  · rw [E.S (by rw [h.k1]; decide)]; exact h.k1
  · rw [E.S (by rw [h.k2]; decide)]; exact h.k2
  · rw [E.S (by rw [h.k3]; decide)]; exact h.k3
  · rw [E.S (by rw [h.k4]; decide)]; exact h.k4
  · rw [E.S (by rw [h.k5]; decide)]; exact h.k5
  · rw [E.S (by rw [h.k6]; decide)]; exact h.k6
  · rw [E.S (by rw [h.k7]; decide)]; exact h.k7
  · rw [E.S (by rw [h.k8]; decide)]; exact h.k8
  · rw [E.S (by rw [h.k9]; decide)]; exact h.k9
  · rw [E.S (by rw [h.k10]; decide)]; exact h.k10
  · rw [E.S (by rw [h.k11]; decide)]; exact h.k11
  · rw [E.S (by rw [h.k12]; decide)]; exact h.k12
  · rw [E.S (by rw [h.k13]; decide)]; exact h.k13
  · rw [E.P (by rw [h.k0]; decide)]; exact h.p1
  · rw [E.P (by rw [h.k0]; decide)]; exact h.p2
  · rw [E.P (by rw [h.k0]; decide)]; exact h.p4
  · rw [E.P (by rw [h.k0]; decide)]; exact h.p5
  · rw [E.P (by rw [h.k0]; decide)]; exact h.p13
  · rw [E.P (by rw [h.k0]; decide)]; exact h.p18
  · rw [E.P (by rw [h.k0]; decide)]; exact h.p19
  · rw [E.P (by rw [h.k0]; decide)]; exact h.p20
  · rw [E.P (by rw [h.k0]; decide)]; exact h.p21
  · rw [E.P (by rw [h.k0]; decide)]; exact h.p22
  · rw [E.P (by rw [h.k0]; decide)]; exact h.p23
  · rw [E.P (by rw [h.k0]; decide)]; exact h.p24
  · rw [E.P (by rw [h.k0]; decide)]; exact h.p27
  · intro i hi; rw [E.S (by rw [h.ks i hi]; decide)]; exact h.ks i hi
theorem ShF.ex (h : ShF (gS M) (gP M)) (E : Ex M M') : ShF (gS M') (gP M') := by
  refine ShF.mk ?_ ?_ ?_ ?_ ?_ ?_ ?_ ?_ ?_ ?_ ?_ ?_ ?_ ?_ ?_ ?_ ?_ ?_ ?_ ?_ ?_ ?_ ?_ ?_ ?_ ?_ ?_ ?_ ?_ ?_ ?_ ?_ ?_ ?_ ?_ ?_ ?_ ?_ ?_ ?_ ?_ ?_ ?_ ?_ ?_ ?_ ?_ ?_ ?_ ?_ ?_ ?_ ?_ ?_
  · rw [E.S (by rw [h.k0]; decide)]; exact h.k0
  · rw [E.P (by rw [h.k0]; decide)]; exact h.p0
  · rw [E.P (by rw [h.k0]; decide)]; exact h.p1
  · rw [E.P (by rw [h.k0]; decide)]; exact h.p2
  · rw [E.P (by rw [h.k0]; decide)]; exact h.p3
  · rw [E.P (by rw [h.k0]; decide)]; exact h.p4
  · rw [E.P (by rw [h.k0]; decide)]; exact h.p5
  · rw [E.P (by rw [h.k0]; decide)]; exact h.p6
  · rw [E.P (by rw [h.k0]; decide)]; exact h.p7
  · rw [E.P (by rw [h.k0]; decide)]; exact h.p8
  · rw [E.S (by rw [h.k1]; decide)]; exact h.k1
  · rw [E.P (by rw [h.k1]; decide)]; exact h.q1
  · rw [E.S (by rw [h.k2]; decide)]; exact h.k2
  · exact h.t3.ex E
  · exact h.t25.ex E
  · exact h.t47.ex E
  · rw [E.S (by rw [h.k69]; decide)]; exact h.k69
  · rw [E.S (by rw [h.k70]; decide)]; exact h.k70
  · rw [E.S (by rw [h.k71]; decide)]; exact h.k71
  · rw [E.P (by rw [h.k69]; decide)]; exact h.q69a
  · rw [E.P (by rw [h.k69]; decide)]; exact h.q69b
  · rw [E.P (by rw [h.k69]; decide)]; exact h.q69c
  · rw [E.P (by rw [h.k69]; decide)]; exact h.q69d
  · rw [E.P (by rw [h.k69]; decide)]; exact h.q69e
  · rw [E.S (by rw [h.k72]; decide)]; exact h.k72
  · rw [E.S (by rw [h.k73]; decide)]; exact h.k73
  · rw [E.S (by rw [h.k74]; decide)]; exact h.k74
  · rw [E.S (by rw [h.k75]; decide)]; exact h.k75
  · rw [E.P (by rw [h.k72]; decide)]; exact h.q72a
  · rw [E.P (by rw [h.k72]; decide)]; exact h.q72b
  · rw [E.P (by rw [h.k72]; decide)]; exact h.q72c
  · rw [E.P (by rw [h.k72]; decide)]; exact h.q72d
  · rw [E.P (by rw [h.k72]; decide)]; exact h.q72e
  · rw [E.S (by rw [h.k76]; decide)]; exact h.k76
  · rw [E.S (by rw [h.k77]; decide)]; exact h.k77
  · rw [E.S (by rw [h.k78]; decide)]; exact h.k78
  · rw [E.S (by rw [h.k79]; decide)]; exact h.k79
  · rw [E.S (by rw [h.k80]; decide)]; exact h.k80
  · rw [E.P (by rw [h.k76]; decide)]; exact h.q76a
  · rw [E.P (by rw [h.k76]; decide)]; exact h.q76b
  · rw [E.P (by rw [h.k76]; decide)]; exact h.q76c
  · rw [E.P (by rw [h.k76]; decide)]; exact h.q76d
  · rw [E.S (by rw [h.k81]; decide)]; exact h.k81
  · rw [E.S (by rw [h.k82]; decide)]; exact h.k82
  · rw [E.S (by rw [h.k83]; decide)]; exact h.k83
  · rw [E.S (by rw [h.k84]; decide)]; exact h.k84
  · rw [E.P (by rw [h.k81]; decide)]; exact h.q81a
  · rw [E.P (by rw [h.k81]; decide)]; exact h.q81b
  · rw [E.P (by rw [h.k81]; decide)]; exact h.q81c
  · rw [E.P (by rw [h.k81]; decide)]; exact h.q81d
  · rw [E.S (by rw [h.k85]; decide)]; exact h.k85
  · rw [E.S (by rw [h.k9]; decide)]; exact h.k9
  · rw [E.S (by rw [h.s1]; decide)]; exact h.s1
  · rw [E.S (by rw [h.s2]; decide)]; exact h.s2
theorem rep_ext (r : Rep M t a) (sh : ShT (gS M') (gP M') t) (w : ∀ i k, i < 22 → gI M' (t + i) k = gI M (t + i) k) : Rep M' t a := by
  have w0 : ∀ k, gI M' t k = gI M t k := fun k => w 0 k (by omega)
  refine Rep.mk sh ?_ ?_ ?_ ?_ ?_ ?_ ?_ ?_ ?_ ?_ ?_ ?_ ?_ ?_ ?_ ?_ ?_ ?_ ?_ ?_ ?_ ?_ ?_ ?_ ?_
  · rw [w 1 _ (by omega)]; exact r.np
  · rw [w 7 _ (by omega)]; exact r.nf
  · rw [w0]; exact r.nt
  · rw [w0]; exact r.ne
  · rw [w0]; exact r.nr
  · rw [w0]; exact r.nx
  · rw [w0]; exact r.day
  · rw [w0]; exact r.law
  · intro q hq; rw [w 2 _ (by omega)]; exact r.lim q hq
  · intro q hq; rw [w 3 _ (by omega)]; exact r.tmp q hq
  · intro q hq; rw [w 4 _ (by omega)]; exact r.near q hq
  · intro q hq; rw [w 5 _ (by omega)]; exact r.rich q hq
  · intro q hq; rw [w 6 _ (by omega)]; exact r.debt q hq
  · intro q hq; rw [w 8 _ (by omega)]; exact r.g q hq
  · intro q hq; rw [w 9 _ (by omega)]; exact r.h q hq
  · intro q hq; rw [w 10 _ (by omega)]; exact r.am q hq
  · intro q hq; rw [w 11 _ (by omega)]; exact r.hd q hq
  · intro q hq; rw [w 12 _ (by omega)]; exact r.en q hq
  · intro q hq; rw [w 13 _ (by omega)]; exact r.fc q hq
  · intro f k h1 h2; rw [w 14 _ (by omega)]; exact r.row f k h1 h2
  · intro q hq; rw [w 17 _ (by omega)]; exact r.nb q hq
  · intro q hq; rw [w 18 _ (by omega)]; exact r.no q hq
  · intro q hq; rw [w 19 _ (by omega)]; exact r.nw q hq
  · intro q hq; rw [w 20 _ (by omega)]; exact r.rs q hq
  · intro q k h1 h2 h3; rw [w 21 _ (by omega)]; exact r.rr q k h1 h2 h3
theorem Rep.ex (r : Rep M t a) (E : Ex M M') : Rep M' t a := by
  have w : ∀ i k, i < 22 → gI M' (t + i) k = gI M (t + i) k := by
    intro i k hi
    refine E.I ?_
    have : i = 0 ∨ i = 1 ∨ i = 2 ∨ i = 3 ∨ i = 4 ∨ i = 5 ∨ i = 6 ∨ i = 7 ∨ i = 8 ∨ i = 9 ∨ i = 10 ∨ i = 11 ∨ i = 12 ∨ i = 13 ∨ i = 14 ∨ i = 15 ∨ i = 16 ∨ i = 17 ∨ i = 18 ∨ i = 19 ∨ i = 20 ∨ i = 21 := by omega
    rcases this with rfl | rfl | rfl | rfl | rfl | rfl | rfl | rfl | rfl | rfl | rfl | rfl | rfl | rfl | rfl | rfl | rfl | rfl | rfl | rfl | rfl | rfl
    · rw [Nat.add_zero, r.sh.k0]; decide
    · rw [show t + 1 = t + 1 from rfl]; rw [r.sh.k1]; decide
    · rw [show t + 2 = t + 2 from rfl]; rw [r.sh.k2]; decide
    · rw [show t + 3 = t + 3 from rfl]; rw [r.sh.k3]; decide
    · rw [show t + 4 = t + 4 from rfl]; rw [r.sh.k4]; decide
    · rw [show t + 5 = t + 5 from rfl]; rw [r.sh.k5]; decide
    · rw [show t + 6 = t + 6 from rfl]; rw [r.sh.k6]; decide
    · rw [show t + 7 = t + 7 from rfl]; rw [r.sh.k7]; decide
    · rw [show t + 8 = t + 8 from rfl]; rw [r.sh.k8]; decide
    · rw [show t + 9 = t + 9 from rfl]; rw [r.sh.k9]; decide
    · rw [show t + 10 = t + 10 from rfl]; rw [r.sh.k10]; decide
    · rw [show t + 11 = t + 11 from rfl]; rw [r.sh.k11]; decide
    · rw [show t + 12 = t + 12 from rfl]; rw [r.sh.k12]; decide
    · rw [show t + 13 = t + 13 from rfl]; rw [r.sh.k13]; decide
    · rw [show t + 14 = t + 14 from rfl]; rw [r.sh.k14]; decide
    · rw [show t + 15 = t + 15 from rfl]; rw [r.sh.k15]; decide
    · rw [show t + 16 = t + 16 from rfl]; rw [r.sh.k16]; decide
    · rw [show t + 17 = t + 17 from rfl]; rw [r.sh.k17]; decide
    · rw [show t + 18 = t + 18 from rfl]; rw [r.sh.k18]; decide
    · rw [show t + 19 = t + 19 from rfl]; rw [r.sh.k19]; decide
    · rw [show t + 20 = t + 20 from rfl]; rw [r.sh.k20]; decide
    · rw [show t + 21 = t + 21 from rfl]; rw [r.sh.k21]; decide
  refine rep_ext r (r.sh.ex E) w
theorem TmO.ex (h : TmO M q cs) (E : Ex M M') : TmO M' q cs := by
  obtain ⟨⟨g1, g2, g3, g4, g5, g6⟩, h2, h3, h4, h5⟩ := h
  have e0 : (gS M q).1 ≠ 0 := by rw [g2]; decide
  have e1 : (gS M (q + 1)).1 ≠ 0 := by rw [g3]; decide
  have e2 : (gS M (q + 2)).1 ≠ 0 := by rw [g4]; decide
  exact ⟨⟨g1, by rw [E.S e0]; exact g2, by rw [E.S e1]; exact g3, by rw [E.S e2]; exact g4, by rw [E.P e0]; exact g5, by rw [E.P e0]; exact g6⟩, by rw [E.S e2]; exact h2, fun i hi => by rw [E.I e2]; exact h3 i hi, h4, h5⟩
theorem TmR.ex (h : TmR M t a) (hk : (gS M (t + 15)).1 ≠ 0) (E : Ex M M') : TmR M' t a := by
  intro k hk9
  obtain ⟨q, cs, h1, h2, h3⟩ := h k hk9
  exact ⟨q, cs, by rw [E.P hk]; exact h1, h2.ex E, h3⟩
theorem QO.ex (h : QO M t) (hk : (gS M (t + 15)).1 ≠ 0) (E : Ex M M') : QO M' t := by
  intro k hk9 q hq
  rw [E.P hk] at hq
  have := h k hk9 q hq
  rw [E.S (by rw [this]; decide)]
  exact this
theorem CI.ex (c : CI M a ak img n b fl) (E : Ex M M') : CI M' a ak img n b fl := by
  have e3 : (gS M (3 + 15)).1 ≠ 0 := by rw [c.sh.t3.k15]; decide
  have e25 : (gS M (25 + 15)).1 ≠ 0 := by rw [c.sh.t25.k15]; decide
  refine CI.mk (c.sh.ex E) (c.rep.ex E) (c.tm.ex e3 E) (fun z => (c.kr z).ex E) (fun z => (c.kt z).ex e25 E) (c.qo.ex e3 E) (c.qk.ex e25 E) ?_ ?_ ?_ ?_ ?_ ?_
  · rw [E.I (by rw [c.sh.k69]; decide)]; exact c.l69
  · rw [E.I (by rw [c.sh.k72]; decide)]; exact c.l72
  · rw [E.I (by rw [c.sh.k1]; decide)]; exact c.tn
  · intro k hk; rw [E.I (by rw [c.sh.k2]; decide)]; exact c.tb k hk
  · rw [E.I (by rw [c.sh.k0]; decide)]; exact c.im
  · rw [E.I (by rw [c.sh.k0]; decide)]; exact c.fo
end EX
