/-! the calls that write, both sides -/
section PR3
variable {D n n' p q f g m K dd k e yc ym : Nat} {b b' : Nat → Nat} {a a' ak ak' : Nat → Int32} {img img' fc : Bool} {fl fl' : Int32} {M M1 M' : pMem} {x y z v w : Int32} {v0 v1 v2 v3 v4 : Int32} {es : List Nat} {as : List Value}
theorem PrC.xthr (hF : Fr M) (hN : gN M ≤ 800000) (hk : k ≠ 0) (he : es[k - 1]? = some e) (h : mw D yc as M (fun o M' => o = .inr e ∧ ∃ M1, Xc M a' ak' img' n' b' fl' M1 ∧ M' = nx M1)) : PrC D M es yc as k v a' ak' img' n' b' fl' := by
  refine mw_mono h ?_
  rintro _ M' ⟨rfl, M1, ⟨c, F⟩, rfl⟩
  have q := CQ.of hF F
  obtain ⟨h1, h2⟩ := nx_ci c q.2.1 (by have := q.2.2.1; omega)
  refine ⟨OC.t hk he, h1, q.1.trans h2.1, h2.2.1, ?_, ?_⟩
  · have := h2.2.2.1; have := q.2.2.1; omega
  · have := h2.2.2.2; have := q.2.2.2; omega
theorem in_99 (h : 0 ≤ v ∧ v ≤ nN 99) : ∃ dd, dd < 100 ∧ v = nN dd := by
  obtain ⟨i, hi, rfl⟩ := iN_ex v
  obtain ⟨h1, h2⟩ := h
  rw [iN_ge0 hi] at h1
  have h3 : i ≤ (99 : Nat) := (iN_le hi (sm_n (a := 99) (by omega))).mp h2
  exact ⟨i.toNat, by omega, by unfold nN; congr 1; omega⟩
theorem in_tm (hk : k ≤ 400) : (iN (-1) ≤ y ∧ y < nN k) ↔ (y = iN (-1) ∨ ∃ j, j < k ∧ y = nN j) := by
  obtain ⟨i, hi, rfl⟩ := iN_ex y
  rw [iN_le ⟨by decide, by decide⟩ hi]
  have e1 : (iN i < nN k) ↔ i < (k : Int) := iN_lt hi (sm_n (by omega))
  rw [e1]
  constructor
  · rintro ⟨h1, h2⟩
    by_cases c : i = -1
    · exact Or.inl (by rw [c])
    · exact Or.inr ⟨i.toNat, by omega, by unfold nN; congr 1; omega⟩
  · rintro (h | ⟨j, h1, h2⟩)
    · have := (iN_eq hi (b := -1) ⟨by decide, by decide⟩).mp h
      omega
    · have := (iN_eq hi (sm_n (a := j) (by omega))).mp h2
      omega
theorem P_has (S : LwS M a ak img n b fl K) : Pr M a ak img n b fl K 6 80 [1] [.int x, .int y] := by
  have hw := S.wf
  have hp' := hw.p'
  have ht' := hw.t'
  by_cases hx : Ix (nP a) x
  · have hx2 := hx
    obtain ⟨p, hp, rfl⟩ := hx
    by_cases hy : iN (-1) ≤ y ∧ y < nN (nT a)
    · have hy2 := (in_tm (by omega)).mp hy
      exact ⟨0, pa a p 1, sHas a p y, ak, img, n, b, fl, PrC.yct S (c_has (d := 94) S.ci hw hp hy2), fun M1 m hB => k_has (d := 97) m hw hp hy2, S.gd.tab ((wt_has S.gd.wt hp hy2).mono (by omega)) (rd_has hw (by omega) S.gd.rd)⟩
    · have hy2 : ¬ (y = iN (-1) ∨ Ix (nT a) y) := fun h => hy ((in_tm (by omega)).mpr h)
      exact ⟨1, 0, a, ak, img, n, b, fl, PrC.thr S (by omega) rfl (fun Q => c_has_n2 (d := 94) S.ci hw hp hy), fun M1 m hB => k_has_n2 (d := 97) m hw hx2 hy2, S.gd.up⟩
  · exact ⟨1, 0, a, ak, img, n, b, fl, PrC.thr S (by omega) rfl (fun Q => c_has_n1 (d := 94) S.ci hw hx), fun M1 m hB => k_has_n1 (d := 97) m hw hx, S.gd.up⟩
theorem P_give (S : LwS M a ak img n b fl K) : Pr M a ak img n b fl K 7 91 [1, 0] [.int x, .int y, .int z, .int v, .int (bI (fc = true))] := by
  have hw := S.wf
  have hp' := hw.p'
  by_cases hx : Ix (nP a) x
  · have hx2 := hx
    obtain ⟨p, hp, rfl⟩ := hx
    by_cases hy : Ix (nP a) y
    · obtain ⟨q, hq, rfl⟩ := hy
      by_cases e : p = q
      · subst e
        exact ⟨2, 0, a, ak, img, n, b, fl, PrC.thr S (by omega) rfl (fun Q => c_give_n3 (d := 92) S.ci hw hp), fun M1 m hB => k_give_n3 (d := 97) m hw hx2, S.gd.up⟩
      · by_cases hz : Wh z
        · have hz2 := hz
          obtain ⟨g, h1, h2, rfl⟩ := hz
          by_cases hv : 0 ≤ v ∧ v ≤ nN 99
          · obtain ⟨dd, hdd, rfl⟩ := in_99 hv
            have hg := wt_give (dd := dd) (fc := fc) S.gd.wt hp hq h1 h2
            by_cases c : sCanGive a p q g dd fc = true
            · rw [if_pos c] at hg
              exact ⟨0, nN (nF a), gTail a p q g dd fc, ak, img, n, b, fl, PrC.yct S (mw_mono (c_give (d := 89) S.ci hw S.dy hp hq e h1 h2 hdd) fun o M' z => by rw [if_pos c] at z; exact z), fun M1 m hB => mw_mono (k_give (d := 26) m S.wg hp hq e h1 h2 hdd) fun o M' z => by rw [if_pos c] at z; exact ⟨z.1.1, z.1.2, z.2⟩, S.gd.tab (hg.mono (by omega)) (rd_give hw S.gd.rd)⟩
            · exact ⟨0, iN (-1), a, ak, img, n, b, fl, PrC.yct S (mw_mono (c_give (d := 89) S.ci hw S.dy hp hq e h1 h2 hdd) fun o M' z => by rw [if_neg c] at z; exact z), fun M1 m hB => mw_mono (k_give (d := 26) m S.wg hp hq e h1 h2 hdd) fun o M' z => by rw [if_neg c] at z; exact ⟨z.1.1, z.1.2, z.2⟩, S.gd.up⟩
          · exact ⟨2, 0, a, ak, img, n, b, fl, PrC.thr S (by omega) rfl (fun Q => c_give_n5 (d := 92) S.ci hw hp hq e h1 h2 hv), fun M1 m hB => k_give_n5 (d := 97) m hw hp hq e hz2 hv, S.gd.up⟩
        · exact ⟨2, 0, a, ak, img, n, b, fl, PrC.thr S (by omega) rfl (fun Q => c_give_n4 (d := 92) S.ci hw hp hq e hz), fun M1 m hB => k_give_n4 (d := 97) m hw hp hq e hz, S.gd.up⟩
    · exact ⟨1, 0, a, ak, img, n, b, fl, PrC.thr S (by omega) rfl (fun Q => c_give_n2 (d := 92) S.ci hw hp hy), fun M1 m hB => k_give_n2 (d := 97) m hw hx2 hy, S.gd.up⟩
  · exact ⟨1, 0, a, ak, img, n, b, fl, PrC.thr S (by omega) rfl (fun Q => c_give_n1 (d := 92) S.ci hw hx), fun M1 m hB => k_give_n1 (d := 97) m hw hx, S.gd.up⟩
theorem P_pass (S : LwS M a ak img n b fl K) : Pr M a ak img n b fl K 8 92 [1, 0] [.int x, .int y] := by
  have hw := S.wf
  have hp' := hw.p'
  by_cases hx : Ix (nF a) x
  · have hx2 := hx
    obtain ⟨f, hf, rfl⟩ := hx
    by_cases hy : Ix (nP a) y
    · obtain ⟨p, hp, rfl⟩ := hy
      by_cases e : fa a f 2 = nN p
      · exact ⟨2, 0, a, ak, img, n, b, fl, PrC.thr S (by omega) rfl (fun Q => c_pass_n3 (d := 94) S.ci hw hf hp e), fun M1 m hB => k_pass_n3 (d := 97) m hw hf hp e, S.gd.up⟩
      · have hg := (wt_ps S.gd.wt hf hp).1
        unfold sPs at hg
        rw [if_neg e] at hg
        by_cases c : sCanP a f p = true
        · rw [if_pos c] at hg
          exact ⟨0, sPassV a f p, sPassA a f p, ak, img, n, b, fl, PrC.yct S (mw_mono (c_pass (d := 89) S.ci hw hf hp e) fun o M' z => by rw [if_pos c] at z; exact z), fun M1 m hB => mw_mono (k_pass (d := 26) m S.wg hf hp e) fun o M' z => by rw [if_pos c] at z; exact ⟨z.1.1, z.1.2, z.2⟩, S.gd.tab (hg.mono (by omega)) (rd_pass hw S.gd.rd)⟩
        · exact ⟨0, iN (-1), a, ak, img, n, b, fl, PrC.yct S (mw_mono (c_pass (d := 89) S.ci hw hf hp e) fun o M' z => by rw [if_neg c] at z; exact z), fun M1 m hB => mw_mono (k_pass (d := 26) m S.wg hf hp e) fun o M' z => by rw [if_neg c] at z; exact ⟨z.1.1, z.1.2, z.2⟩, S.gd.up⟩
    · exact ⟨1, 0, a, ak, img, n, b, fl, PrC.thr S (by omega) rfl (fun Q => c_pass_n2 (d := 94) S.ci hw hf hy), fun M1 m hB => k_pass_n2 (d := 97) m hw hx2 hy, S.gd.up⟩
  · exact ⟨1, 0, a, ak, img, n, b, fl, PrC.thr S (by omega) rfl (fun Q => c_pass_n1 (d := 94) S.ci hw hx), fun M1 m hB => k_pass_n1 (d := 97) m hw hx, S.gd.up⟩
theorem P_call (S : LwS M a ak img n b fl K) : Pr M a ak img n b fl K 9 93 [1] [.int x] := by
  have hw := S.wf
  by_cases hx : Ix (nF a) x
  · obtain ⟨f, hf, rfl⟩ := hx
    by_cases c : fa a f 2 = iN (-1)
    · exact ⟨0, iN (-1), a, ak, img, n, b, fl, PrC.yct S (mw_mono (c_call (d := 92) S.ci hw hf) fun o M' z => by rw [if_pos c] at z; exact z), fun M1 m hB => mw_mono (k_call (d := 97) m hw hf) fun o M' z => by rw [if_pos c] at z; exact ⟨z.1.1, z.1.2, z.2⟩, S.gd.up⟩
    · exact ⟨0, sWorth (fa a f 1) (fa a f 3), sGone a f, ak, img, n, b, fl, PrC.yct S (mw_mono (c_call (d := 92) S.ci hw hf) fun o M' z => by rw [if_neg c] at z; exact z), fun M1 m hB => mw_mono (k_call (d := 97) m hw hf) fun o M' z => by rw [if_neg c] at z; exact ⟨z.1.1, z.1.2, z.2⟩, S.gd.tab ((wt_gn S.gd.wt (sGone_wf hw hf) (Gn.gone (by have := hw.f'; omega))).mono (by omega)) (rd_gone hw S.gd.rd)⟩
  · exact ⟨1, 0, a, ak, img, n, b, fl, PrC.thr S (by omega) rfl (fun Q => c_call_n (d := 94) S.ci hw hx), fun M1 m hB => k_call_n (d := 97) m hw hx, S.gd.up⟩
theorem P_days (S : LwS M a ak img n b fl K) : Pr M a ak img n b fl K 10 94 [0] [.int x] := by
  have hw := S.wf
  by_cases hx : Wh x
  · obtain ⟨g, h1, h2, rfl⟩ := hx
    exact ⟨0, (sDays a (nN g)).2, (sDays a (nN g)).1, ak, img, n, b, fl, PrC.yct S (c_days (d := 92) S.ci hw h1 h2), fun M1 m hB => k_days (d := 96) m hw h1 h2, S.gd.tab ((wt_days S.gd.wt h2 (by have := S.kk; omega)).1.mono (by omega)) (rd_days hw S.gd.rd)⟩
  · exact ⟨1, 0, a, ak, img, n, b, fl, PrC.thr S (by omega) rfl (fun Q => c_days_n (d := 99) hx), fun M1 m hB => k_days_n (d := 97) m hw hx, S.gd.up⟩
theorem P_meet (S : LwS M a ak img n b fl K) : Pr M a ak img n b fl K 19 110 [1] [.int x] := by
  have hw := S.wf
  by_cases hx : Ix (nE a) x
  · obtain ⟨f, hf, rfl⟩ := hx
    exact ⟨0, (sSet a (eN a f 0) (eN a f 1) (eN a f 2)).2, (sSet a (eN a f 0) (eN a f 1) (eN a f 2)).1, ak, img, n, b, fl, PrC.yct S (c_meet (d := 86) S.ci hw S.dy hf), fun M1 m hB => k_meet (d := 26) m S.wg hf, S.gd.tab ((wt_meet S.gd.wt hf).mono (by omega)) (rd_set hw S.gd.rd)⟩
  · exact ⟨1, 0, a, ak, img, n, b, fl, PrC.thr S (by omega) rfl (fun Q => c_meet_n (d := 94) S.ci hw hx), fun M1 m hB => k_meet_n (d := 97) m hw hx, S.gd.up⟩
theorem P_fits (S : LwS M a ak img n b fl K) : Pr M a ak img n b fl K 32 135 [1] [.int x] := by
  have hw := S.wf
  by_cases hx : Ix (nF a) x
  · obtain ⟨f, hf, rfl⟩ := hx
    exact ⟨0, sFits a f n b, a, ak, img, 0, b, fl, PrC.xc S.fr (c_fits (d := 94) S.ci hw S.gd.n4 hf), fun M1 m hB => k_fits (d := 97) m hw S.gd.n4 hf, S.gd.n0.up⟩
  · exact ⟨1, 0, a, ak, img, 0, b, fl, PrC.xthr S.fr S.gn (by omega) rfl (c_fits_n (d := 94) S.ci hw S.gd.n4 hx), fun M1 m hB => k_fits_n (d := 97) m hw hx, S.gd.n0.up⟩
theorem P_ring (S : LwS M a ak img n b fl K) : Pr M a ak img n b fl K 28 127 [0, 2] [] := by
  have hw := S.wf
  have hR := hw.r'
  by_cases hg : RgO a n b
  · by_cases h8 : nR a = 8
    · refine ⟨2, 0, a, ak, img, 0, b, fl, PrC.xthr S.fr S.gn (by omega) rfl (c_ring_n2 (d := 94) S.ci hw S.gd.n4 S.gd.b2 hg h8), fun M1 m hB => mw_mono (k_ring (d := 97) m hw S.gd.n4 S.gd.b2) ?_, S.gd.n0.up⟩
      rintro o M' ⟨⟨z1, z2, z3, z4⟩ | ⟨z1, z2, z3, z4⟩ | ⟨z1, z2, z3⟩, A⟩
      · exact ⟨z3, z4, A⟩
      · omega
      · exact absurd hg z1
    · refine ⟨0, nN (nR a), sRing a n b, ak, img, 0, b, fl, PrC.xc S.fr (c_ring (d := 94) S.ci S.gd.wt S.ikw S.gd.n4 S.gd.b2 hg (by omega)), fun M1 m hB => mw_mono (k_ring (d := 97) m hw S.gd.n4 S.gd.b2) ?_, S.gd.n0.tab ((wt_ring S.gd.wt (by omega) hg).mono (by omega)) (rd_ring hw S.gd.b2 hg (by omega) S.gd.rd)⟩
      rintro o M' ⟨⟨z1, z2, z3, z4⟩ | ⟨z1, z2, z3, z4⟩ | ⟨z1, z2, z3⟩, A⟩
      · omega
      · exact ⟨z3, z4, A⟩
      · exact absurd hg z1
  · refine ⟨1, 0, a, ak, img, 0, b, fl, PrC.xthr S.fr S.gn (by omega) rfl (c_ring_n1 (d := 94) S.ci hw S.gd.n4 S.gd.b2 hg), fun M1 m hB => mw_mono (k_ring (d := 97) m hw S.gd.n4 S.gd.b2) ?_, S.gd.n0.up⟩
    rintro o M' ⟨⟨z1, z2, z3, z4⟩ | ⟨z1, z2, z3, z4⟩ | ⟨z1, z2, z3⟩, A⟩
    · exact absurd z1 hg
    · exact absurd z1 hg
    · exact ⟨z2, z3, A⟩
end PR3
