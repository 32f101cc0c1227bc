/-! A CALL ON BOTH SIDES -/
def GdS (a ak : Nat → Int32) (img : Bool) (n : Nat) (b : Nat → Nat) (K : Nat) : Prop := (Wt a K) ∧ (Rd a) ∧ (img = true → Wt ak K ∧ Rd ak) ∧ (n ≤ 400) ∧ (∀ k, b k < 256)
theorem GdS.mk {a ak : Nat → Int32} {img : Bool} {n : Nat} {b : Nat → Nat} {K : Nat} (wt : Wt a K) (rd : Rd a) (ik : img = true → Wt ak K ∧ Rd ak) (n4 : n ≤ 400) (b2 : ∀ k, b k < 256) : GdS a ak img n b K := ⟨wt, rd, ik, n4, b2⟩
theorem GdS.wt {a ak : Nat → Int32} {img : Bool} {n : Nat} {b : Nat → Nat} {K : Nat} (h : GdS a ak img n b K) : Wt a K := And.left h
theorem GdS.rd {a ak : Nat → Int32} {img : Bool} {n : Nat} {b : Nat → Nat} {K : Nat} (h : GdS a ak img n b K) : Rd a := And.left (And.right h)
theorem GdS.ik {a ak : Nat → Int32} {img : Bool} {n : Nat} {b : Nat → Nat} {K : Nat} (h : GdS a ak img n b K) : img = true → Wt ak K ∧ Rd ak := And.left (And.right (And.right h))
theorem GdS.n4 {a ak : Nat → Int32} {img : Bool} {n : Nat} {b : Nat → Nat} {K : Nat} (h : GdS a ak img n b K) : n ≤ 400 := And.left (And.right (And.right (And.right h)))
theorem GdS.b2 {a ak : Nat → Int32} {img : Bool} {n : Nat} {b : Nat → Nat} {K : Nat} (h : GdS a ak img n b K) : ∀ k, b k < 256 := And.right (And.right (And.right (And.right h)))
def LwS (M : pMem) (a ak : Nat → Int32) (img : Bool) (n : Nat) (b : Nat → Nat) (fl : Int32) (K : Nat) : Prop := (CI M a ak img n b fl) ∧ (MI M 86 a ak img n b fl) ∧ (GdS a ak img n b K) ∧ (Fr M) ∧ (BM M) ∧ (gN M ≤ 800000) ∧ (K + 10000 < 2000000)
theorem LwS.mk {M : pMem} {a ak : Nat → Int32} {img : Bool} {n : Nat} {b : Nat → Nat} {fl : Int32} {K : Nat} (ci : CI M a ak img n b fl) (mi : MI M 86 a ak img n b fl) (gd : GdS a ak img n b K) (fr : Fr M) (bm : BM M) (gn : gN M ≤ 800000) (kk : K + 10000 < 2000000) : LwS M a ak img n b fl K := ⟨ci, mi, gd, fr, bm, gn, kk⟩
theorem LwS.ci {M : pMem} {a ak : Nat → Int32} {img : Bool} {n : Nat} {b : Nat → Nat} {fl : Int32} {K : Nat} (h : LwS M a ak img n b fl K) : CI M a ak img n b fl := And.left h
theorem LwS.mi {M : pMem} {a ak : Nat → Int32} {img : Bool} {n : Nat} {b : Nat → Nat} {fl : Int32} {K : Nat} (h : LwS M a ak img n b fl K) : MI M 86 a ak img n b fl := And.left (And.right h)
theorem LwS.gd {M : pMem} {a ak : Nat → Int32} {img : Bool} {n : Nat} {b : Nat → Nat} {fl : Int32} {K : Nat} (h : LwS M a ak img n b fl K) : GdS a ak img n b K := And.left (And.right (And.right h))
theorem LwS.fr {M : pMem} {a ak : Nat → Int32} {img : Bool} {n : Nat} {b : Nat → Nat} {fl : Int32} {K : Nat} (h : LwS M a ak img n b fl K) : Fr M := And.left (And.right (And.right (And.right h)))
theorem LwS.bm {M : pMem} {a ak : Nat → Int32} {img : Bool} {n : Nat} {b : Nat → Nat} {fl : Int32} {K : Nat} (h : LwS M a ak img n b fl K) : BM M := And.left (And.right (And.right (And.right (And.right h))))
theorem LwS.gn {M : pMem} {a ak : Nat → Int32} {img : Bool} {n : Nat} {b : Nat → Nat} {fl : Int32} {K : Nat} (h : LwS M a ak img n b fl K) : gN M ≤ 800000 := And.left (And.right (And.right (And.right (And.right (And.right h)))))
theorem LwS.kk {M : pMem} {a ak : Nat → Int32} {img : Bool} {n : Nat} {b : Nat → Nat} {fl : Int32} {K : Nat} (h : LwS M a ak img n b fl K) : K + 10000 < 2000000 := And.right (And.right (And.right (And.right (And.right (And.right h)))))
def OC (es : List Nat) (k : Nat) (v : Int32) (o : pOut) : Prop := (k = 0 ∧ o = .inl (some (.int v))) ∨ (k ≠ 0 ∧ ∃ e, es[k - 1]? = some e ∧ o = .inr e)
def PrC (D : Nat) (M : pMem) (es : List Nat) (yc : Nat) (ac : List Value) (k : Nat) (v : Int32) (a ak : Nat → Int32) (img : Bool) (n : Nat) (b : Nat → Nat) (fl : Int32) : Prop := mw D yc ac M (fun o M' => OC es k v o ∧ CI M' a ak img n b fl ∧ CQ M 4 500 M')
def Pr (M : pMem) (a ak : Nat → Int32) (img : Bool) (n : Nat) (b : Nat → Nat) (fl : Int32) (K yc ym : Nat) (es : List Nat) (as : List Value) : Prop := ∃ k v a' ak' img' n' b' fl', PrC 100 M es yc (.ref 0 :: as) k v a' ak' img' n' b' fl' ∧ (∀ M1, MI M1 86 a ak img n b fl → BM M1 → mw 101 ym (.ref 86 :: as) M1 (fun o M' => KO M' 86 k v o ∧ MI M' 86 a' ak' img' n' b' fl' ∧ Ag (XU 86) M1 M')) ∧ GdS a' ak' img' n' b' (K + 1386)
/-- calls that throw nothing -/
def PrN (M : pMem) (a ak : Nat → Int32) (img : Bool) (n : Nat) (b : Nat → Nat) (fl : Int32) (K yc ym : Nat) (as : List Value) : Prop := ∃ v a' ak' img' n' b' fl', PrC 101 M [] yc (.ref 0 :: as) 0 v a' ak' img' n' b' fl' ∧ (∀ M1, MI M1 86 a ak img n b fl → BM M1 → mw 101 ym (.ref 86 :: as) M1 (fun o M' => o = .inl (some (.int v)) ∧ MI M' 86 a' ak' img' n' b' fl' ∧ Ag (XU 86) M1 M')) ∧ GdS a' ak' img' n' b' (K + 1386)
section PRS
variable {D d u n n' p q f g m K dd k yc ym e : Nat} {b b' : Nat → Nat} {a a' ak ak' : Nat → Int32} {img img' fc : Bool} {fl fl' : Int32} {M M1 M' : pMem} {x y z v w : Int32} {es : List Nat} {as : List Value} {o : pOut}
theorem OC.val : OC es 0 v (.inl (some (.int v))) := Or.inl ⟨rfl, rfl⟩
theorem OC.t (hk : k ≠ 0) (h : es[k - 1]? = some e) : OC es k v (.inr e) := Or.inr ⟨hk, e, h, rfl⟩
theorem KO.val (h : KO M' 86 0 v o) : o = .inl (some (.int v)) := by
  obtain ⟨⟨w, h1, h2⟩, -⟩ := h
  rw [h1, h2 rfl]
theorem CQ.le {c s c2 s2 : Nat} (h : CQ M c s M') (h1 : c ≤ c2) (h2 : s ≤ s2) : CQ M c2 s2 M' := ⟨h.1, h.2.1, by have := h.2.2.1; omega, by have := h.2.2.2; omega⟩
theorem CQ.rfl0 (hF : Fr M) : CQ M 0 0 M := ⟨MF.rfl, hF, Nat.le_refl _, Nat.le_refl _⟩
theorem GdS.up (h : GdS a ak img n b K) : GdS a ak img n b (K + 1386) := GdS.mk (h.wt.mono (by omega)) h.rd (fun z => ⟨(h.ik z).1.mono (by omega), (h.ik z).2⟩) h.n4 h.b2
theorem GdS.tab (h : GdS a ak img n b K) (w : Wt a' (K + 1386)) (r : Rd a') : GdS a' ak img n b (K + 1386) := GdS.mk w r (h.up.ik) h.n4 h.b2
theorem GdS.n0 (h : GdS a ak img n b K) : GdS a ak img 0 b K := GdS.mk h.wt h.rd h.ik (by omega) h.b2
theorem nx_ci (c : CI M a ak img n b fl) (hF : Fr M) (hN : gN M ≤ 800100) : CI (nx M) a ak img n b fl ∧ CQ M 1 6 (nx M) :=
  ⟨c.ex (Ex.nx hF (by omega)), MF.nx hF (by omega), hF.nx, Nat.le_refl _, (show gL M + 6 ≤ gL M + 6 from Nat.le_refl _)⟩
theorem LwS.wf (S : LwS M a ak img n b fl K) : Wf a := S.gd.wt.1
theorem LwS.wg (S : LwS M a ak img n b fl K) : Wg a := S.gd.wt.wg (by have := S.kk; omega)
theorem LwS.dy (S : LwS M a ak img n b fl K) : DyO a := S.gd.wt.dy (by have := S.kk; omega)
theorem LwS.ikw (S : LwS M a ak img n b fl K) : img = true → Wf ak := fun h => (S.gd.ik h).1.1
theorem PrC.thr (S : LwS M a ak img n b fl K) (hk : k ≠ 0) (he : es[k - 1]? = some e) (h : ∀ Q, mw D yc as M Q = Q (.inr e) (nx M)) : PrC D M es yc as k v a ak img n b fl := by
  obtain ⟨h1, h2⟩ := nx_ci S.ci S.fr (by have := S.gn; omega)
  unfold PrC
  rw [h]
  exact ⟨OC.t hk he, h1, h2.le (by omega) (by omega)⟩
theorem PrC.eq (S : LwS M a ak img n b fl K) (h : ∀ Q, mw D yc as M Q = Q (.inl (some (.int v))) M) : PrC D M es yc as 0 v a ak img n b fl := by
  unfold PrC
  rw [h]
  exact ⟨OC.val, S.ci, (CQ.rfl0 S.fr).le (by omega) (by omega)⟩
theorem PrC.xc (hF : Fr M) (h : mw D yc as M (fun o M' => o = .inl (some (.int v)) ∧ Xc M a' ak' img' n' b' fl' M')) : PrC D M es yc as 0 v a' ak' img' n' b' fl' := by
  refine mw_mono h ?_
  rintro _ M' ⟨rfl, c, F⟩
  exact ⟨OC.val, c, (CQ.of hF F).le (by omega) (by omega)⟩
theorem PrC.yct (S : LwS M a ak img n b fl K) (h : mw D yc as M (fun o M' => o = .inl (some (.int v)) ∧ Yc M a' M')) : PrC D M es yc as 0 v a' ak img n b fl :=
  PrC.xc S.fr (mw_mono h fun o M' z => ⟨z.1, z.2.xc S.ci S.ikw⟩)
/-- the class and then the model: what each leaves alone -/
theorem MI.mf (m : MI M 86 a ak img n b fl) (F : MF M M') : MI M' 86 a ak img n b fl := by
  obtain ⟨F1, F2, F3⟩ := F
  have row : ∀ h, 86 ≤ h ∧ h ≤ 100 → gI M' h = gI M h := fun h z => funext fun k => F1 h k (Or.inl z)
  have s := m.mr.1
  have sh : ShM (gS M') (gP M') 86 := by
    refine ShM.mk ?_ ?_ ?_ ?_ ?_ ?_ ?_ ?_ ?_ ?_ ?_ ?_ ?_ ?_ ?_ ?_ ?_ ?_ ?_ ?_ ?_ ?_ ?_ ?_ ?_ ?_ ?_ ?_
    · rw [F3 _ (Or.inl (by omega))]; exact s.k0
    · rw [F3 _ (Or.inl (by omega))]; exact s.k1
    · rw [F3 _ (Or.inl (by omega))]; exact s.k2
    · rw [F3 _ (Or.inl (by omega))]; exact s.k3
    · rw [F3 _ (Or.inl (by omega))]; exact s.k4
    · rw [F3 _ (Or.inl (by omega))]; exact s.k5
    · rw [F3 _ (Or.inl (by omega))]; exact s.k6
    · rw [F3 _ (Or.inl (by omega))]; exact s.k7
    · rw [F3 _ (Or.inl (by omega))]; exact s.k8
    · rw [F3 _ (Or.inl (by omega))]; exact s.k9
    · rw [F3 _ (Or.inl (by omega))]; exact s.k10
    · rw [F3 _ (Or.inl (by omega))]; exact s.k11
    · rw [F3 _ (Or.inl (by omega))]; exact s.k12
    · rw [F3 _ (Or.inl (by omega))]; exact s.k13
    · rw [F2 _ _ (by omega)]; exact s.p1
    · rw [F2 _ _ (by omega)]; exact s.p2
    · rw [F2 _ _ (by omega)]; exact s.p4
    · rw [F2 _ _ (by omega)]; exact s.p5
    · rw [F2 _ _ (by omega)]; exact s.p13
    · rw [F2 _ _ (by omega)]; exact s.p18
    · rw [F2 _ _ (by omega)]; exact s.p19
    · rw [F2 _ _ (by omega)]; exact s.p20
    · rw [F2 _ _ (by omega)]; exact s.p21
    · rw [F2 _ _ (by omega)]; exact s.p22
    · rw [F2 _ _ (by omega)]; exact s.p23
    · rw [F2 _ _ (by omega)]; exact s.p24
    · rw [F2 _ _ (by omega)]; exact s.p27
    · intro i hi
      rw [F3 _ (Or.inr (by omega))]; exact s.ks i hi
  refine MI.mk ⟨sh, (row 87 (by omega)).trans m.mr.2⟩ (fun h k hk => by rw [F1 _ _ (Or.inl (by omega))]; exact m.ik h k hk) ?_ ?_ (fun k hk => by rw [F1 _ _ (Or.inl (by omega))]; exact m.tb k hk) ?_
  · rw [F1 _ _ (Or.inl (by omega))]; exact m.hi
  · rw [F1 _ _ (Or.inl (by omega))]; exact m.tn
  · rw [F1 _ _ (Or.inl (by omega))]; exact m.fo
theorem CI.md (c : CI M a ak img n b fl) (A : Ag (XU 86) M M') : CI M' a ak img n b fl := by
  have XA9 : ∀ h k, XU 86 h k → XA (gS M) (gP M) h k := fun h k z => Or.inl (by have := z.2; omega)
  have no : ∀ t h k, t ≤ 64 → t ≤ h → h < t + 22 → h ≠ t + 16 → ¬ XU 86 h k := fun t h k h1 h2 h3 _ z => by have := z.1; omega
  have N : ∀ h k, h < 86 → ¬ XU 86 h k := fun h k h1 z => by have := z.1; omega
  refine CI.mk ?_ (c.rep.ag A (no 3 · · (by omega))) (c.tm.agA (A.mono XA9)) (fun z => (c.kr z).ag A (no 25 · · (by omega))) (fun z => (c.kt z).agA (A.mono XA9)) ?_ ?_ ?_ ?_ ?_ ?_ ?_ ?_
  · rw [A.S, A.P]; exact c.sh
  · intro k hk q hq; rw [A.P] at hq; rw [A.S]; exact c.qo k hk q hq
  · intro k hk q hq; rw [A.P] at hq; rw [A.S]; exact c.qk k hk q hq
  · rw [A.I (N _ _ (by omega))]; exact c.l69
  · rw [A.I (N _ _ (by omega))]; exact c.l72
  · rw [A.I (N _ _ (by omega))]; exact c.tn
  · intro k hk; rw [A.I (N _ _ (by omega))]; exact c.tb k hk
  · rw [A.I (N _ _ (by omega))]; exact c.im
  · rw [A.I (N _ _ (by omega))]; exact c.fo
end PRS
