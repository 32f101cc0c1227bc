/-! town, temper; the calls that throw nothing -/
section PR4
variable {n n' p q f g m K dd k e yc ym : Nat} {b b' : Nat → Nat} {a a' ak ak' : Nat → Int32} {img img' fc : Bool} {fl fl' : Int32} {M M1 M' : pMem} {x y z v w : Int32} {v0 v1 v2 v3 v4 : Int32} {es : List Nat} {as : List Value}
theorem KO.mk9 {c : Nat} {o : pOut} (h1 : o = .inl (some (.int w))) (h2 : c = 0 → w = v) (h3 : gI M' 86 0 = nN c) : KO M' 86 c v o := ⟨⟨w, h1, h2⟩, h3⟩
theorem P_town (S : LwS M a ak img n b fl K) : Pr M a ak img n b fl K 3 70 [0, 2] [] := by
  have hw := S.wf
  have hK : K + 1386 < 2000000 := by have := S.kk; omega
  obtain ⟨x1, x2⟩ := nX_ok hw
  have C := c_town (d := 85) S.ci S.ikw S.gd.wt hK S.fr S.gn S.gd.n4 S.gd.b2
  have T := fun M1 (m : MI M1 86 a ak img n b fl) => k_town (d := 27) m S.gd.wt hK S.gd.n4 S.gd.b2
  cases h : pTown (th uW n b) (nx9 n b) (nb n b 0) a with
  | inl e =>
    rw [h] at C
    refine ⟨1, 0, a, ak, img, 0, b, nN e, mw_mono C ?_, fun M1 m hB => mw_mono (T M1 m) ?_, S.gd.n0.up⟩
    · rintro o M' ⟨⟨rfl, c⟩, q⟩
      exact ⟨OC.t (by omega) rfl, c, q.le (by omega) (by omega)⟩
    · intro o M' z
      rw [h] at z
      obtain ⟨⟨z1, z2, z3⟩, A⟩ := z
      exact ⟨KO.mk9 z1 (fun h => absurd h (by omega)) z2, z3, A⟩
  | inr a' =>
    rw [h] at C
    by_cases c : nX a = 10
    · refine ⟨2, 0, a, ak, img, 0, b, iN (-1), mw_mono C ?_, fun M1 m hB => mw_mono (T M1 m) ?_, S.gd.n0.up⟩
      · intro o M' z
        dsimp only at z
        rw [if_pos c] at z
        obtain ⟨⟨rfl, z2⟩, q⟩ := z
        exact ⟨OC.t (by omega) rfl, z2, q.le (by omega) (by omega)⟩
      · intro o M' z
        rw [h] at z
        dsimp only at z
        rw [if_pos c] at z
        obtain ⟨⟨z1, z2, z3⟩, A⟩ := z
        exact ⟨KO.mk9 z1 (fun h => absurd h (by omega)) z2, z3, A⟩
    · obtain ⟨w1, G⟩ := pTown_ok S.gd.wt hK h
      have r1 := rd_gk hw (pTown_5 h) G S.gd.rd
      refine ⟨0, nN (nX a + 1), aU a' 0 (nN (nX a + 1)), ak, img, 0, b, iN (-1), mw_mono C ?_, fun M1 m hB => mw_mono (T M1 m) ?_, S.gd.n0.tab (wt_txt w1 (by omega)) (rd_lo w1.1 (fun j hj => aU_ne (by omega)) r1)⟩
      · intro o M' z
        dsimp only at z
        rw [if_neg c] at z
        obtain ⟨⟨rfl, z2⟩, q⟩ := z
        exact ⟨OC.val, z2, q.le (by omega) (by omega)⟩
      · intro o M' z
        rw [h] at z
        dsimp only at z
        rw [if_neg c] at z
        obtain ⟨⟨z1, z2, z3⟩, A⟩ := z
        exact ⟨KO.mk9 z1 (fun _ => rfl) z2, z3, A⟩
theorem P_temper (S : LwS M a ak img n b fl K) : Pr M a ak img n b fl K 4 78 [0, 2] [] := by
  have hw := S.wf
  have C := c_temper (d := 64) S.ci S.wg S.fr S.gn S.gd.n4 S.gd.b2 S.mi.mr.1
  have T := fun M1 (m : MI M1 86 a ak img n b fl) hB => k_temper (d := 65) m S.wg hB S.gd.n4 S.gd.b2
  cases h : pTemper (th tW n b) (nx9 n b) 400 (nb n b 0) with
  | inl e =>
    rw [h] at C
    refine ⟨1, 0, a, ak, img, 0, b, nN e, mw_mono C ?_, fun M1 m hB => mw_mono (T M1 m hB) ?_, S.gd.n0.up⟩
    · rintro o M' ⟨⟨rfl, c⟩, q⟩
      exact ⟨OC.t (by omega) rfl, c, q.le (by omega) (by omega)⟩
    · intro o M' z
      rw [h] at z
      obtain ⟨⟨z1, z2, z3⟩, A⟩ := z
      exact ⟨KO.mk9 z1 (fun h => absurd h (by omega)) z2, z3, A⟩
  | inr s =>
    rw [h] at C
    by_cases c : nT a = 6
    · refine ⟨2, 0, a, ak, img, 0, b, iN (-1), mw_mono C ?_, fun M1 m hB => mw_mono (T M1 m hB) ?_, S.gd.n0.up⟩
      · intro o M' z
        dsimp only at z
        rw [if_pos c] at z
        obtain ⟨⟨rfl, z2⟩, q⟩ := z
        exact ⟨OC.t (by omega) rfl, z2, q.le (by omega) (by omega)⟩
      · intro o M' z
        rw [h] at z
        dsimp only at z
        rw [if_pos c] at z
        obtain ⟨⟨z1, z2, z3⟩, A⟩ := z
        exact ⟨KO.mk9 z1 (fun h => absurd h (by omega)) z2, z3, A⟩
    · have ht' := hw.t'
      have g1 := sTemper_wg S.wg (by omega) S.gd.n4 S.gd.b2 h
      have w1 := wt_temper_of S.gd.wt g1 (fun j h1 h2 => sTemper_low j h1 h2)
      refine ⟨0, nN (nT a), sTemper a n b, ak, img, 0, b, iN (-1), mw_mono C ?_, fun M1 m hB => mw_mono (T M1 m hB) ?_, S.gd.n0.tab (w1.mono (by omega)) (rd_temper hw S.gd.rd)⟩
      · intro o M' z
        dsimp only at z
        rw [if_neg c] at z
        obtain ⟨⟨rfl, z2⟩, q⟩ := z
        exact ⟨OC.val, z2, q.le (by omega) (by omega)⟩
      · intro o M' z
        rw [h] at z
        dsimp only at z
        rw [if_neg c] at z
        obtain ⟨⟨z1, z2, z3⟩, A⟩ := z
        exact ⟨KO.mk9 z1 (fun _ => rfl) z2, z3, A⟩
theorem ko_v {d : Nat} (h : mw d ym as M1 (fun o M' => KO M' 86 0 v o ∧ MI M' 86 a' ak' img' n' b' fl' ∧ Ag (XU 86) M1 M')) : mw d ym as M1 (fun o M' => o = .inl (some (.int v)) ∧ MI M' 86 a' ak' img' n' b' fl' ∧ Ag (XU 86) M1 M') := mw_mono h fun o M' z => ⟨z.1.val, z.2⟩
theorem P_feed (S : LwS M a ak img n b fl K) : PrN M a ak img n b fl K 1 58 [.int v0, .int v1, .int v2, .int v3, .int v4] := by
  have n4 := S.gd.n4
  by_cases h : n + 20 ≤ 400
  · refine ⟨nN (n + 20), a, ak, img, n + 20, fNew b n v0 v1 v2 v3 v4, fl, PrC.xc S.fr (c_feed (d := 95) S.ci h), fun M1 m hB => ko_v (k_feed (d := 97) m h), ?_⟩
    refine GdS.mk S.gd.up.wt S.gd.rd S.gd.up.ik h fun k => ?_
    unfold fNew
    split
    · exact S.gd.b2 k
    · exact fB_ok.1
  · exact ⟨iN (-1), a, ak, img, n, b, fl, PrC.eq S (fun Q => c_feed_n (d := 95) S.ci n4 h), fun M1 m hB => ko_v (k_feed_n (d := 97) m n4 h), S.gd.up⟩
theorem P_end (S : LwS M a ak img n b fl K) : PrN M a ak img n b fl K 2 59 [.int x] := by
  have n4 := S.gd.n4
  by_cases h : Ix (n + 1) x
  · obtain ⟨q, hq, rfl⟩ := h
    exact ⟨nN 1, a, ak, img, q, b, fl, PrC.xc S.fr (c_end (d := 98) S.ci n4 (by omega)), fun M1 m hB => ko_v (k_end (d := 97) m n4 (by omega)), GdS.mk S.gd.up.wt S.gd.rd S.gd.up.ik (by omega) S.gd.b2⟩
  · exact ⟨nN 0, a, ak, img, n, b, fl, PrC.eq S (fun Q => c_end_n (d := 98) S.ci n4 h), fun M1 m hB => ko_v (k_end_n (d := 97) m n4 h), S.gd.up⟩
theorem P_fault (S : LwS M a ak img n b fl K) : PrN M a ak img n b fl K 5 79 [] :=
  ⟨fl, a, ak, img, n, b, fl, PrC.eq S (fun Q => c_fault (d := 98) S.ci), fun M1 m hB => k_fault (d := 99) m, S.gd.up⟩
theorem P_enough (S : LwS M a ak img n b fl K) : PrN M a ak img n b fl K 20 113 [.int x] :=
  ⟨_, a, ak, img, n, b, fl, PrC.yct S (c_enough (d := 86) S.ci S.wf S.dy), fun M1 m hB => k_enough (d := 27) m S.wg, S.gd.up⟩
theorem P_witness (S : LwS M a ak img n b fl K) : PrN M a ak img n b fl K 21 114 [.int x] :=
  ⟨_, a, ak, img, n, b, fl, PrC.yct S (c_witness (d := 86) S.ci S.wf S.dy), fun M1 m hB => k_witness (d := 27) m S.wg, S.gd.up⟩
theorem P_fewest (S : LwS M a ak img n b fl K) : PrN M a ak img n b fl K 22 116 [] :=
  ⟨_, a, ak, img, n, b, fl, PrC.yct S (c_fewest (d := 86) S.ci S.wf S.dy), fun M1 m hB => ko_v (k_fewest (d := 27) m S.wg), S.gd.up⟩
theorem P_forgive (S : LwS M a ak img n b fl K) : PrN M a ak img n b fl K 23 117 [.int x] :=
  ⟨(sLets a x).2, (sLets a x).1, ak, img, n, b, fl, PrC.yct S (c_forgive (d := 93) S.ci S.wf), fun M1 m hB => k_forgive (d := 96) m S.wf, S.gd.tab ((wt_lets S.gd.wt).mono (by omega)) (rd_lets S.wf S.gd.rd)⟩
theorem P_count (S : LwS M a ak img n b fl K) : PrN M a ak img n b fl K 36 140 [.int x] := by
  refine ⟨sCount a x, a, ak, img, n, b, fl, PrC.eq S (fun Q => ?_), fun M1 m hB => ko_v (k_count (d := 96) m S.wf), S.gd.up⟩
  by_cases h : Ix 10 x
  · obtain ⟨k, hk, rfl⟩ := h
    exact c_count (d := 95) S.ci S.wf hk
  · rw [sCount_n h]
    exact c_count_n (d := 95) h
theorem P_back (S : LwS M a ak img n b fl K) : PrN M a ak img n b fl K 35 139 [] := by
  refine ⟨bI (img = true), (if img = true then bB a ak else a), ak, img, n, b, fl, ?_, fun M1 m hB => ko_v (k_back (d := 97) m), ?_⟩
  · refine mw_mono (c_back (d := 92) S.ci S.ikw) ?_
    rintro _ M' ⟨rfl, c, F⟩
    refine ⟨OC.val, ?_, (CQ.of S.fr F).le (by omega) (by omega)⟩
    by_cases h : img = true
    · rw [if_pos h] at c ⊢
      have w := (S.gd.ik h).1
      exact c.lo33 w.1 w.2.2.2.1 (bB_lo a ak)
    · rw [if_neg h] at c ⊢
      exact c
  · by_cases h : img = true
    · rw [if_pos h]
      obtain ⟨w, r⟩ := S.gd.ik h
      exact S.gd.tab (wt_lo33 (w.mono (by omega)) (bB_lo a ak)) (rd_lo w.1 (fun j hj => bB_lo a ak j (by omega)) r)
    · rw [if_neg h]
      exact S.gd.up
/-- image answers nothing -/
theorem P_image (S : LwS M a ak img n b fl K) : mw 101 34 [.ref 0] M (fun o M' => o = .inl none ∧ CI M' a a true n b fl ∧ CQ M 4 500 M') ∧ (∀ M1, MI M1 86 a ak img n b fl → mw 101 138 [.ref 86] M1 (fun o M' => o = .inl none ∧ MI M' 86 a a true n b fl ∧ Ag (XU 86) M1 M')) ∧ GdS a a true n b (K + 1386) := by
  refine ⟨mw_mono (c_image (d := 93) S.ci S.wf) ?_, fun M1 m => mw_mono (k_image (d := 97) m) ?_, ?_⟩
  · rintro o M' ⟨rfl, c, F⟩
    exact ⟨rfl, c, (CQ.of S.fr F).le (by omega) (by omega)⟩
  · rintro o M' ⟨rfl, -, z, A⟩
    exact ⟨rfl, z, A⟩
  · exact GdS.mk S.gd.up.wt S.gd.rd (fun _ => ⟨S.gd.up.wt, S.gd.rd⟩) S.gd.n4 S.gd.b2
end PR4
