/-! FRAMES: what a run leaves as it was -/
def Ag (X : Nat → Nat → Prop) (M M' : pMem) : Prop := (gP M' = gP M ∧ gS M' = gS M) ∧ (gJ M' = gJ M ∧ gN M' = gN M ∧ gL M' = gL M) ∧ ∀ h k, ¬ X h k → gI M' h k = gI M h k
section AG
variable {X Y : Nat → Nat → Prop} {M M1 M2 M' : pMem} {h k t u q : Nat} {x : Int32} {a : Nat → Int32}
theorem Ag.rfl : Ag X M M := ⟨⟨Eq.refl _, Eq.refl _⟩, ⟨Eq.refl _, Eq.refl _, Eq.refl _⟩, fun _ _ _ => Eq.refl _⟩
theorem Ag.P (A : Ag X M M') : gP M' = gP M := A.1.1
theorem Ag.S (A : Ag X M M') : gS M' = gS M := A.1.2
theorem Ag.J (A : Ag X M M') : gJ M' = gJ M := A.2.1.1
theorem Ag.N (A : Ag X M M') : gN M' = gN M := A.2.1.2.1
theorem Ag.L (A : Ag X M M') : gL M' = gL M := A.2.1.2.2
theorem Ag.I (A : Ag X M M') (n : ¬ X h k) : gI M' h k = gI M h k := A.2.2 h k n
theorem Ag.trans (A : Ag X M M1) (B : Ag X M1 M2) : Ag X M M2 := ⟨⟨B.P.trans A.P, B.S.trans A.S⟩, ⟨B.J.trans A.J, B.N.trans A.N, B.L.trans A.L⟩, fun h k n => (B.I n).trans (A.I n)⟩
theorem Ag.mono (A : Ag X M M') (w : ∀ h k, X h k → Y h k) : Ag Y M M' := ⟨A.1, A.2.1, fun h k n => A.I (fun z => n (w h k z))⟩
theorem Ag.one (w : X h k) : Ag X M (sI M h k x) := ⟨⟨Eq.refl _, Eq.refl _⟩, ⟨Eq.refl _, Eq.refl _, Eq.refl _⟩, fun h' k' n => by
  rw [gI_sI, if_neg]
  rintro ⟨e1, e2⟩
  subst e1; subst e2
  exact n w⟩
theorem Ag.put (A : Ag X M M') (w : X h k) : Ag X M (sI M' h k x) := A.trans (Ag.one w)
theorem Ag.row (A : Ag X M M') (n : ∀ k, ¬ X h k) : gI M' h = gI M h := funext fun k => A.I (n k)
theorem Rep.ag (r : Rep M t a) (A : Ag X M M') (n : ∀ h k, t ≤ h → h < t + 22 → h ≠ t + 16 → ¬ X h k) : Rep M' t a := by
  have w : ∀ i k, i < 22 → i ≠ 16 → gI M' (t + i) k = gI M (t + i) k := fun i k h1 h2 => A.I (n _ _ (by omega) (by omega) (by omega))
  have w0 : ∀ k, gI M' t k = gI M t k := fun k => w 0 k (by omega) (by omega)
  refine Rep.mk ?_ ?_ ?_ ?_ ?_ ?_ ?_ ?_ ?_ ?_ ?_ ?_ ?_ ?_ ?_ ?_ ?_ ?_ ?_ ?_ ?_ ?_ ?_ ?_ ?_ ?_
  · rw [A.P, A.S]; exact r.sh
  · rw [w 1 _ (by omega) (by omega)]; exact r.np
  · rw [w 7 _ (by omega) (by omega)]; exact r.nf
  · rw [w0]; exact r.nt
  · rw [w0]; exact r.ne
  · rw [w0]; exact r.nr
  · rw [w0]; exact r.nx
  · rw [w0]; exact r.day
  · rw [w0]; exact r.law
  · intro q hq; rw [w 2 _ (by omega) (by omega)]; exact r.lim q hq
  · intro q hq; rw [w 3 _ (by omega) (by omega)]; exact r.tmp q hq
  · intro q hq; rw [w 4 _ (by omega) (by omega)]; exact r.near q hq
  · intro q hq; rw [w 5 _ (by omega) (by omega)]; exact r.rich q hq
  · intro q hq; rw [w 6 _ (by omega) (by omega)]; exact r.debt q hq
  · intro q hq; rw [w 8 _ (by omega) (by omega)]; exact r.g q hq
  · intro q hq; rw [w 9 _ (by omega) (by omega)]; exact r.h q hq
  · intro q hq; rw [w 10 _ (by omega) (by omega)]; exact r.am q hq
  · intro q hq; rw [w 11 _ (by omega) (by omega)]; exact r.hd q hq
  · intro q hq; rw [w 12 _ (by omega) (by omega)]; exact r.en q hq
  · intro q hq; rw [w 13 _ (by omega) (by omega)]; exact r.fc q hq
  · intro f k h1 h2; rw [w 14 _ (by omega) (by omega)]; exact r.row f k h1 h2
  · intro q hq; rw [w 17 _ (by omega) (by omega)]; exact r.nb q hq
  · intro q hq; rw [w 18 _ (by omega) (by omega)]; exact r.no q hq
  · intro q hq; rw [w 19 _ (by omega) (by omega)]; exact r.nw q hq
  · intro q hq; rw [w 20 _ (by omega) (by omega)]; exact r.rs q hq
  · intro q k h1 h2 h3; rw [w 21 _ (by omega) (by omega)]; exact r.rr q k h1 h2 h3
end AG
/-! A TEMPER'S CODE -/
def TSh (S : Nat → Nat × Nat) (P : Nat → Nat → Option Nat) (q : Nat) : Prop := 101 ≤ q ∧ (S q).1 = 7 ∧ S (q + 1) = (100, 20) ∧ (S (q + 2)).1 = 100 ∧ P q 0 = some (q + 2) ∧ P q 1 = some (q + 1)
def TmO (M : pMem) (q : Nat) (cs : List Nat) : Prop := TSh (gS M) (gP M) q ∧ gS M (q + 2) = (100, cs.length) ∧ (∀ i, i < cs.length → gI M (q + 2) i = nN (cs.getD i 0)) ∧ (∀ i, cs.getD i 0 < 4000) ∧ cs.length ≤ 400
def XQ (q h k : Nat) : Prop := h = q + 1 ∨ h = q ∧ k = 2
def XC (S : Nat → Nat × Nat) (P : Nat → Nat → Option Nat) (t h k : Nat) : Prop := h = t + 16 ∨ ∃ q, TSh S P q ∧ XQ q h k
theorem XC_low {S : Nat → Nat × Nat} {P : Nat → Nat → Option Nat} {t h k : Nat} (h1 : h ≤ 100) (h2 : h ≠ t + 16) : ¬ XC S P t h k := by
  rintro (e | ⟨q, ⟨z, -⟩, e | ⟨e, -⟩⟩) <;> omega
theorem TmO.ag {M M' : pMem} {q t : Nat} {cs : List Nat} (h : TmO M q cs) (A : Ag (XC (gS M) (gP M) t) M M') (ht : t + 16 ≤ 100) : TmO M' q cs := by
  obtain ⟨h1, h2, h3, h4, h5⟩ := h
  obtain ⟨g1, g2, g3, g4, g5, g6⟩ := h1
  refine ⟨by rw [A.S, A.P]; exact ⟨g1, g2, g3, g4, g5, g6⟩, by rw [A.S]; exact h2, fun i hi => ?_, h4, h5⟩
  rw [A.I, h3 i hi]
  rintro (e | ⟨q', ⟨z1, z2, z3, -⟩, e | ⟨e, -⟩⟩)
  · omega
  · have e9 : q' = q + 1 := by omega
    rw [e9, g3] at z2
    cases z2
  · rw [← e, g4] at z2
    cases z2
def StR (f : Nat → Int32) : List Int32 → Prop
  | [] => True
  | x :: s => f s.length = x ∧ StR f s
def Stk (M : pMem) (q : Nat) (s : List Int32) : Prop := s.length ≤ 20 ∧ gI M q 2 = nN s.length ∧ StR (gI M (q + 1)) s
def sPush (s : List Int32) (x : Int32) : List Int32 := if s.length < 20 then x :: s else s
def sTop : List Int32 → Int32
  | [] => nN 0
  | x :: _ => x
theorem StR.keep {f g : Nat → Int32} : ∀ {s : List Int32}, (∀ i, i < s.length → g i = f i) → StR f s → StR g s := by
  intro s
  induction s with
  | nil => intro _ _; trivial
  | cons x s ih => intro h h2; exact ⟨(h s.length (by simp)).trans h2.1, ih (fun i hi => h i (by simp; omega)) h2.2⟩
section TC
variable {d t u q : Nat} {a : Nat → Int32} {M : pMem} {Q : pOut → pMem → Prop}
theorem w_push {s : List Int32} {x : Int32} (hT : TSh (gS M) (gP M) q) (hS : Stk M q s) : mw (d + 1) 203 [.ref q, .int x] M (fun o M' => o = .inl none ∧ Stk M' q (sPush s x) ∧ Ag (XQ q) M M') := by
  obtain ⟨g1, g2, g3, g4, g5, g6⟩ := hT
  obtain ⟨s1, s2, s3⟩ := hS
  have L20 : iN (20 : Nat) = nN 20 := rfl
  have hne : q ≠ q + 1 := by omega
  by_cases hl : s.length < 20
  · have hl2 : ¬ 20 ≤ s.length := by omega
    simp (disch := omega) only [m_203, q_aload0, q_aload0N, q_get_i, pTag_1, pRf_s, q_if_lt, q_get_r, q_alen, q_ic_ge, q_iload1, q_iast, q_dup_i, q_dup_r, q_iconst, q_iadd, q_put_i, q_nop, q_vret, e_203_0, e_203_1, L_1, g2, g3, g5, g6, s2, L20, nN_le, nN_lt, nN_eq, nN_add, nN_mul, nN_lt0, nN_ge0, nN_gt0, nN_le0, nN_eq0, nN_eq1, nN_neN, pIn_n, pIx_n, hl, hl2, gS_sI, gP_sI, gI_sI, hne]
    simp [hne, hl]
    refine ⟨⟨?_, ?_, ?_⟩, Ag.put (Ag.one (Or.inl rfl)) (Or.inr ⟨rfl, rfl⟩)⟩
    · simp [sPush, hl]; omega
    · simp [sPush, hl, gI_sI, nN_add]
    · simp only [sPush, hl, if_true]
      refine ⟨?_, StR.keep (fun i hi => ?_) s3⟩
      · simp [gI_sI]
      · have : i ≠ s.length := by omega
        simp [gI_sI, this]
  · have hl2 : 20 ≤ s.length := by omega
    simp (disch := omega) only [m_203, q_aload0, q_aload0N, q_get_i, pTag_1, pRf_s, q_if_lt, q_get_r, q_alen, q_ic_ge, q_iload1, q_iast, q_dup_i, q_dup_r, q_iconst, q_iadd, q_put_i, q_nop, q_vret, e_203_0, e_203_1, L_1, g2, g3, g5, g6, s2, L20, nN_le, nN_lt, nN_eq, nN_add, nN_mul, nN_lt0, nN_ge0, nN_gt0, nN_le0, nN_eq0, nN_eq1, nN_neN, pIn_n, pIx_n, hl, hl2]
    simp
    refine ⟨⟨?_, ?_, ?_⟩, Ag.rfl⟩
    · simp [sPush, hl]; omega
    · simp [sPush, hl, s2]
    · simp only [sPush, hl, if_false]; exact s3
theorem w_pop {s : List Int32} (hT : TSh (gS M) (gP M) q) (hS : Stk M q s) : mw (d + 1) 204 [.ref q] M (fun o M' => o = .inl (some (.int (sTop s))) ∧ Stk M' q s.tail ∧ Ag (XQ q) M M') := by
  obtain ⟨g1, g2, g3, g4, g5, g6⟩ := hT
  obtain ⟨s1, s2, s3⟩ := hS
  have L20 : iN (20 : Nat) = nN 20 := rfl
  have hne : q ≠ q + 1 := by omega
  cases s with
  | nil =>
    simp only [List.length_nil] at s2
    simp (disch := omega) only [m_204, q_aload0, q_aload0N, q_get_i, pTag_1, pRf_s, q_if_le, q_get_r, q_alen, q_ic_le, q_nop, q_iconst, q_iret, q_dup_i, q_dup_r, q_isub, q_put_i, q_iald, e_204_0, e_204_1, e_204_2, L_0, L_1, g2, g3, g5, g6, s2, L20, nN_le, nN_lt, nN_eq, nN_add, nN_mul, nN_lt0, nN_ge0, nN_gt0, nN_le0, nN_eq0, nN_eq1, nN_neN, pIn_n, pIx_n]
    simp
    exact ⟨rfl, ⟨by simp, s2, trivial⟩, Ag.rfl⟩
  | cons x s =>
    simp only [List.length_cons] at s1 s2
    have e1 : ¬ s.length + 1 = 0 := by omega
    have e2 : s.length + 1 ≤ 20 := by omega
    have e3 : nN (s.length + 1) - nN 1 = nN s.length := by rw [nN_sub1]; unfold nN; congr 1; omega
    have e4 : s.length < 20 := by omega
    simp (disch := omega) only [m_204, q_aload0, q_aload0N, q_get_i, pTag_1, pRf_s, q_if_le, q_get_r, q_alen, q_ic_le, q_nop, q_iconst, q_iret, q_dup_i, q_dup_r, q_isub, q_put_i, q_iald, e_204_0, e_204_1, e_204_2, L_0, L_1, g2, g3, g5, g6, s2, L20, nN_le, nN_lt, nN_eq, nN_add, nN_mul, nN_lt0, nN_ge0, nN_gt0, nN_le0, nN_eq0, nN_eq1, nN_neN, pIn_n, pIx_n, eq_self, Nat.reduceLeDiff, Nat.reduceEqDiff, Nat.le_refl, not_false_eq_true, not_true_eq_false, false_implies, true_implies, forall_const, true_and, and_true, if_true, if_false, implies_true, and_self, ne_eq, false_and, and_false, or_false, false_or, true_or, or_true, e1, e2, e3, e4, gS_sI, gP_sI, gI_sI, hne]
    refine ⟨?_, ⟨by simp; omega, by simp [gI_sI], ?_⟩, Ag.one (Or.inr ⟨rfl, rfl⟩)⟩
    · simp [sTop, s3.1]
    · exact StR.keep (fun i hi => by simp [gI_sI]) s3.2
end TC
