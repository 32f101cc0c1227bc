/-! the calls that read, both sides -/
section PQ
variable {n n' p q f g m K dd k e : Nat} {b b' : Nat → Nat} {a a' ak ak' : Nat → Int32} {img img' fc : Bool} {fl fl' : Int32} {M M1 M' : pMem} {x y z v w : Int32}

theorem P_rich (S : LwS M a ak img n b fl K) : Pr M a ak img n b fl K 14 98 [1] [.int x] := by
  have hw := S.wf
  have hp' := hw.p'
  have hf' := hw.f'
  have hn' := hw.n'
  by_cases hx : Ix (nP a) x
  · obtain ⟨p, hp, rfl⟩ := hx
    refine ⟨0, sRich a (nN p), a, ak, img, n, b, fl, PrC.eq S (fun Q => c_rich (d := 94) S.ci hw hp), fun M1 m hB => k_rich (d := 97) m hw ⟨p, hp, rfl⟩, S.gd.up⟩
  · refine ⟨1, 0, a, ak, img, n, b, fl, PrC.thr S (by omega) rfl (fun Q => c_rich_n (d := 94) S.ci hw hx), fun M1 m hB => k_rich_n (d := 97) m hw hx, S.gd.up⟩
theorem P_debt (S : LwS M a ak img n b fl K) : Pr M a ak img n b fl K 15 99 [1] [.int x] := by
  have hw := S.wf
  have hp' := hw.p'
  have hf' := hw.f'
  have hn' := hw.n'
  by_cases hx : Ix (nP a) x
  · obtain ⟨p, hp, rfl⟩ := hx
    refine ⟨0, sDebt a (nN p), a, ak, img, n, b, fl, PrC.eq S (fun Q => c_debt (d := 94) S.ci hw hp), fun M1 m hB => k_debt (d := 97) m hw ⟨p, hp, rfl⟩, S.gd.up⟩
  · refine ⟨1, 0, a, ak, img, n, b, fl, PrC.thr S (by omega) rfl (fun Q => c_debt_n (d := 94) S.ci hw hx), fun M1 m hB => k_debt_n (d := 97) m hw hx, S.gd.up⟩
theorem P_ruined (S : LwS M a ak img n b fl K) : Pr M a ak img n b fl K 31 134 [1] [.int x] := by
  have hw := S.wf
  have hp' := hw.p'
  have hf' := hw.f'
  have hn' := hw.n'
  by_cases hx : Ix (nP a) x
  · obtain ⟨p, hp, rfl⟩ := hx
    refine ⟨0, sRuin a (nN p), a, ak, img, n, b, fl, PrC.eq S (fun Q => c_ruined (d := 92) S.ci hw hp), fun M1 m hB => k_ruined (d := 96) m hw ⟨p, hp, rfl⟩, S.gd.up⟩
  · refine ⟨1, 0, a, ak, img, n, b, fl, PrC.thr S (by omega) rfl (fun Q => c_ruined_n (d := 94) S.ci hw hx), fun M1 m hB => k_ruined_n (d := 97) m hw hx, S.gd.up⟩
theorem P_owes (S : LwS M a ak img n b fl K) : Pr M a ak img n b fl K 16 101 [1] [.int x, .int y] := by
  have hw := S.wf
  have hp' := hw.p'
  have hf' := hw.f'
  have hn' := hw.n'
  by_cases hx : Ix (nP a) x
  · by_cases hy : Ix (nP a) y
    · obtain ⟨p, hp, rfl⟩ := hx
      obtain ⟨q, hq, rfl⟩ := hy
      refine ⟨0, sOwes a (nN p) (nN q), a, ak, img, n, b, fl, PrC.eq S (fun Q => c_owes (d := 94) S.ci hw hp hq), fun M1 m hB => k_owes (d := 97) m hw ⟨p, hp, rfl⟩ ⟨q, hq, rfl⟩, S.gd.up⟩
    · have hx2 := hx
      obtain ⟨p, hp, rfl⟩ := hx
      refine ⟨1, 0, a, ak, img, n, b, fl, PrC.thr S (by omega) rfl (fun Q => c_owes_n2 (d := 94) S.ci hw hp hy), fun M1 m hB => k_owes_n2 (d := 97) m hw hx2 hy, S.gd.up⟩
  · refine ⟨1, 0, a, ak, img, n, b, fl, PrC.thr S (by omega) rfl (fun Q => c_owes_n1 (d := 94) S.ci hw hx), fun M1 m hB => k_owes_n1 (d := 97) m hw hx, S.gd.up⟩
theorem P_loss (S : LwS M a ak img n b fl K) : Pr M a ak img n b fl K 30 133 [1] [.int x, .int y] := by
  have hw := S.wf
  have hp' := hw.p'
  have hf' := hw.f'
  have hn' := hw.n'
  by_cases hx : Ix (nP a) x
  · by_cases hy : Ix (nP a) y
    · obtain ⟨p, hp, rfl⟩ := hx
      obtain ⟨q, hq, rfl⟩ := hy
      refine ⟨0, sLoss a (nN p) (nN q), a, ak, img, n, b, fl, PrC.eq S (fun Q => c_loss (d := 94) S.ci hw hp hq), fun M1 m hB => k_loss (d := 97) m hw ⟨p, hp, rfl⟩ ⟨q, hq, rfl⟩, S.gd.up⟩
    · have hx2 := hx
      obtain ⟨p, hp, rfl⟩ := hx
      refine ⟨1, 0, a, ak, img, n, b, fl, PrC.thr S (by omega) rfl (fun Q => c_loss_n2 (d := 94) S.ci hw hp hy), fun M1 m hB => k_loss_n2 (d := 97) m hw hx2 hy, S.gd.up⟩
  · refine ⟨1, 0, a, ak, img, n, b, fl, PrC.thr S (by omega) rfl (fun Q => c_loss_n1 (d := 94) S.ci hw hx), fun M1 m hB => k_loss_n1 (d := 97) m hw hx, S.gd.up⟩
theorem P_takes (S : LwS M a ak img n b fl K) : Pr M a ak img n b fl K 13 97 [1] [.int x, .int y] := by
  have hw := S.wf
  have hp' := hw.p'
  have hf' := hw.f'
  have hn' := hw.n'
  by_cases hx : Ix (nP a) x
  · by_cases hy : Ix (nF a) y
    · obtain ⟨p, hp, rfl⟩ := hx
      obtain ⟨q, hq, rfl⟩ := hy
      refine ⟨0, bI (sTakeF a p q = true), a, ak, img, n, b, fl, PrC.yct S (c_takes (d := 92) S.ci hw hp hq), fun M1 m hB => k_takes (d := 26) m S.wg hp hq, S.gd.up⟩
    · have hx2 := hx
      obtain ⟨p, hp, rfl⟩ := hx
      refine ⟨1, 0, a, ak, img, n, b, fl, PrC.thr S (by omega) rfl (fun Q => c_takes_n2 (d := 94) S.ci hw hp hy), fun M1 m hB => k_takes_n2 (d := 97) m hw hx2 hy, S.gd.up⟩
  · refine ⟨1, 0, a, ak, img, n, b, fl, PrC.thr S (by omega) rfl (fun Q => c_takes_n1 (d := 94) S.ci hw hx), fun M1 m hB => k_takes_n1 (d := 97) m hw hx, S.gd.up⟩
theorem P_can (S : LwS M a ak img n b fl K) : Pr M a ak img n b fl K 18 108 [1] [.int x] := by
  have hw := S.wf
  have hp' := hw.p'
  have hf' := hw.f'
  have hn' := hw.n'
  by_cases hx : Ix (nE a) x
  · obtain ⟨p, hp, rfl⟩ := hx
    refine ⟨0, bI (sMetK a p = true), a, ak, img, n, b, fl, PrC.yct S (c_can (d := 87) S.ci hw S.dy hp), fun M1 m hB => k_can (d := 26) m S.wg hp, S.gd.up⟩
  · refine ⟨1, 0, a, ak, img, n, b, fl, PrC.thr S (by omega) rfl (fun Q => c_can_n (d := 94) S.ci hw hx), fun M1 m hB => k_can_n (d := 97) m hw hx, S.gd.up⟩
theorem P_port (S : LwS M a ak img n b fl K) : Pr M a ak img n b fl K 24 120 [1, 0] [.int x, .int y] := by
  have hw := S.wf
  have hp' := hw.p'
  have hf' := hw.f'
  have hn' := hw.n'
  by_cases hx : Ix (nP a) x
  · have hx2 := hx
    obtain ⟨p, hp, rfl⟩ := hx
    by_cases hy : Ix (nP a) y
    · obtain ⟨q, hq, rfl⟩ := hy
      by_cases e : p = q
      · subst e
        refine ⟨2, 0, a, ak, img, n, b, fl, PrC.thr S (by omega) rfl (fun Q => c_port_n3 (d := 92) S.ci hw hp), fun M1 m hB => k_port_n3 (d := 97) m hw hx2, S.gd.up⟩
      · refine ⟨0, sPort a p q, a, ak, img, n, b, fl, PrC.yct S (c_port (d := 88) S.ci hw hp hq e), fun M1 m hB => k_port (d := 26) m S.wg hp hq e, S.gd.up⟩
    · refine ⟨1, 0, a, ak, img, n, b, fl, PrC.thr S (by omega) rfl (fun Q => c_port_n2 (d := 92) S.ci hw hp hy), fun M1 m hB => k_port_n2 (d := 97) m hw hx2 hy, S.gd.up⟩
  · refine ⟨1, 0, a, ak, img, n, b, fl, PrC.thr S (by omega) rfl (fun Q => c_port_n1 (d := 92) S.ci hw hx), fun M1 m hB => k_port_n1 (d := 97) m hw hx, S.gd.up⟩
theorem P_most (S : LwS M a ak img n b fl K) : Pr M a ak img n b fl K 25 124 [1, 0] [.int x, .int y] := by
  have hw := S.wf
  have hp' := hw.p'
  have hf' := hw.f'
  have hn' := hw.n'
  by_cases hx : Ix (nP a) x
  · have hx2 := hx
    obtain ⟨p, hp, rfl⟩ := hx
    by_cases hy : Ix (nP a) y
    · obtain ⟨q, hq, rfl⟩ := hy
      by_cases e : p = q
      · subst e
        refine ⟨2, 0, a, ak, img, n, b, fl, PrC.thr S (by omega) rfl (fun Q => c_most_n3 (d := 92) S.ci hw hp), fun M1 m hB => k_most_n3 (d := 97) m hw hx2, S.gd.up⟩
      · refine ⟨0, (sMost a p q).1, a, ak, img, n, b, fl, PrC.yct S (c_most (d := 87) S.ci hw hp hq e), fun M1 m hB => k_most (d := 26) m S.wg hp hq e, S.gd.up⟩
    · refine ⟨1, 0, a, ak, img, n, b, fl, PrC.thr S (by omega) rfl (fun Q => c_most_n2 (d := 92) S.ci hw hp hy), fun M1 m hB => k_most_n2 (d := 97) m hw hx2 hy, S.gd.up⟩
  · refine ⟨1, 0, a, ak, img, n, b, fl, PrC.thr S (by omega) rfl (fun Q => c_most_n1 (d := 92) S.ci hw hx), fun M1 m hB => k_most_n1 (d := 97) m hw hx, S.gd.up⟩
theorem P_cut (S : LwS M a ak img n b fl K) : Pr M a ak img n b fl K 26 125 [1, 0] [.int x, .int y] := by
  have hw := S.wf
  have hp' := hw.p'
  have hf' := hw.f'
  have hn' := hw.n'
  by_cases hx : Ix (nP a) x
  · have hx2 := hx
    obtain ⟨p, hp, rfl⟩ := hx
    by_cases hy : Ix (nP a) y
    · obtain ⟨q, hq, rfl⟩ := hy
      by_cases e : p = q
      · subst e
        refine ⟨2, 0, a, ak, img, n, b, fl, PrC.thr S (by omega) rfl (fun Q => c_cut_n3 (d := 92) S.ci hw hp), fun M1 m hB => k_cut_n3 (d := 97) m hw hx2, S.gd.up⟩
      · refine ⟨0, sCut a p q, a, ak, img, n, b, fl, PrC.yct S (c_cut (d := 87) S.ci hw hp hq e), fun M1 m hB => k_cut (d := 26) m S.wg hp hq e, S.gd.up⟩
    · refine ⟨1, 0, a, ak, img, n, b, fl, PrC.thr S (by omega) rfl (fun Q => c_cut_n2 (d := 92) S.ci hw hp hy), fun M1 m hB => k_cut_n2 (d := 97) m hw hx2 hy, S.gd.up⟩
  · refine ⟨1, 0, a, ak, img, n, b, fl, PrC.thr S (by omega) rfl (fun Q => c_cut_n1 (d := 92) S.ci hw hx), fun M1 m hB => k_cut_n1 (d := 97) m hw hx, S.gd.up⟩
theorem P_pays (S : LwS M a ak img n b fl K) : Pr M a ak img n b fl K 17 104 [1, 0] [.int x, .int y, .int z] := by
  have hw := S.wf
  have hp' := hw.p'
  have hf' := hw.f'
  have hn' := hw.n'
  by_cases hx : Ix (nP a) x
  · have hx2 := hx
    obtain ⟨p, hp, rfl⟩ := hx
    by_cases hy : Ix (nP a) y
    · obtain ⟨q, hq, rfl⟩ := hy
      by_cases e : p = q
      · subst e
        refine ⟨2, 0, a, ak, img, n, b, fl, PrC.thr S (by omega) rfl (fun Q => c_pays_n3 (d := 92) S.ci hw hp), fun M1 m hB => k_pays_n3 (d := 97) m hw hx2, S.gd.up⟩
      · by_cases hz : Wh z
        · obtain ⟨g, h1, h2, rfl⟩ := hz
          refine ⟨0, oI (sPays a p q g), a, ak, img, n, b, fl, PrC.yct S (c_pays (d := 88) S.ci hw hp hq e h1 h2), fun M1 m hB => k_pays (d := 26) m S.wg hp hq e h1 h2, S.gd.up⟩
        · refine ⟨2, 0, a, ak, img, n, b, fl, PrC.thr S (by omega) rfl (fun Q => c_pays_n4 (d := 92) S.ci hw hp hq e hz), fun M1 m hB => k_pays_n4 (d := 97) m hw hp hq e hz, S.gd.up⟩
    · refine ⟨1, 0, a, ak, img, n, b, fl, PrC.thr S (by omega) rfl (fun Q => c_pays_n2 (d := 92) S.ci hw hp hy), fun M1 m hB => k_pays_n2 (d := 97) m hw hx2 hy, S.gd.up⟩
  · refine ⟨1, 0, a, ak, img, n, b, fl, PrC.thr S (by omega) rfl (fun Q => c_pays_n1 (d := 92) S.ci hw hx), fun M1 m hB => k_pays_n1 (d := 97) m hw hx, S.gd.up⟩
theorem P_chain (S : LwS M a ak img n b fl K) : Pr M a ak img n b fl K 27 126 [1, 0] [.int x, .int y, .int w, .int z] := by
  have hw := S.wf
  have hp' := hw.p'
  have hf' := hw.f'
  have hn' := hw.n'
  by_cases hx : Ix (nP a) x
  · have hx2 := hx
    obtain ⟨p, hp, rfl⟩ := hx
    by_cases hy : Ix (nP a) y
    · obtain ⟨q, hq, rfl⟩ := hy
      by_cases e : p = q
      · subst e
        refine ⟨2, 0, a, ak, img, n, b, fl, PrC.thr S (by omega) rfl (fun Q => c_chain_n3 (d := 92) S.ci hw hp), fun M1 m hB => k_chain_n3 (d := 97) m hw hx2, S.gd.up⟩
      · by_cases hz : Wh w
        · obtain ⟨g, h1, h2, rfl⟩ := hz
          by_cases hk : iN (-1) ≤ z
          · refine ⟨0, sChain a p q (nN g) z, a, ak, img, n, b, fl, PrC.yct S (c_chain (d := 87) S.ci hw hp hq e h1 h2 hk), fun M1 m hB => k_chain (d := 26) m S.wg hp hq e h1 h2 hk, S.gd.up⟩
          · refine ⟨2, 0, a, ak, img, n, b, fl, PrC.thr S (by omega) rfl (fun Q => c_chain_n5 (d := 92) S.ci hw hp hq e h1 h2 hk), fun M1 m hB => k_chain_n5 (d := 97) m hw hp hq e h1 h2 hk, S.gd.up⟩
        · refine ⟨2, 0, a, ak, img, n, b, fl, PrC.thr S (by omega) rfl (fun Q => c_chain_n4 (d := 92) S.ci hw hp hq e hz), fun M1 m hB => k_chain_n4 (d := 97) m hw hp hq e hz, S.gd.up⟩
    · refine ⟨1, 0, a, ak, img, n, b, fl, PrC.thr S (by omega) rfl (fun Q => c_chain_n2 (d := 92) S.ci hw hp hy), fun M1 m hB => k_chain_n2 (d := 97) m hw hx2 hy, S.gd.up⟩
  · refine ⟨1, 0, a, ak, img, n, b, fl, PrC.thr S (by omega) rfl (fun Q => c_chain_n1 (d := 92) S.ci hw hx), fun M1 m hB => k_chain_n1 (d := 97) m hw hx, S.gd.up⟩
theorem P_clear (S : LwS M a ak img n b fl K) : Pr M a ak img n b fl K 29 131 [0] [.int z] := by
  have hw := S.wf
  have hp' := hw.p'
  have hf' := hw.f'
  have hn' := hw.n'
  by_cases hz : iN (-1) ≤ z
  · refine ⟨0, sClear a z, a, ak, img, n, b, fl, PrC.yct S (c_clear (d := 84) S.ci hw S.gd.rd hz), fun M1 m hB => k_clear (d := 89) m hw S.gd.rd hz, S.gd.up⟩
  · refine ⟨1, 0, a, ak, img, n, b, fl, PrC.thr S (by omega) rfl (fun Q => c_clear_n (d := 92) S.ci hz), fun M1 m hB => k_clear_n (d := 97) m hz, S.gd.up⟩
theorem P_look (S : LwS M a ak img n b fl K) : Pr M a ak img n b fl K 11 95 [1, 3] [.int x, .int y] := by
  have hw := S.wf
  have hp' := hw.p'
  have hf' := hw.f'
  have hn' := hw.n'
  by_cases hx : Ix (nF a) x
  · have hx2 := hx
    obtain ⟨p, hp, rfl⟩ := hx
    by_cases hy : Ix 7 y
    · obtain ⟨q, hq, rfl⟩ := hy
      refine ⟨0, sLook a p q, a, ak, img, n, b, fl, PrC.eq S (fun Q => c_look (d := 94) S.ci hw hp hq), fun M1 m hB => k_look (d := 97) m hw hp hq, S.gd.up⟩
    · refine ⟨2, 0, a, ak, img, n, b, fl, PrC.thr S (by omega) rfl (fun Q => c_look_n2 (d := 94) S.ci hw hp hy), fun M1 m hB => k_look_n2 (d := 97) m hw hx2 hy, S.gd.up⟩
  · refine ⟨1, 0, a, ak, img, n, b, fl, PrC.thr S (by omega) rfl (fun Q => c_look_n1 (d := 94) S.ci hw hx), fun M1 m hB => k_look_n1 (d := 97) m hw hx, S.gd.up⟩
theorem P_hand (S : LwS M a ak img n b fl K) : Pr M a ak img n b fl K 12 96 [1] [.int x, .int y] := by
  have hw := S.wf
  have hp' := hw.p'
  have hf' := hw.f'
  have hn' := hw.n'
  by_cases hx : Ix (nF a) x
  · obtain ⟨p, hp, rfl⟩ := hx
    refine ⟨0, sHand a p y, a, ak, img, n, b, fl, PrC.eq S (fun Q => c_hand (d := 94) S.ci hw hp), fun M1 m hB => k_hand (d := 97) m hw hp, S.gd.up⟩
  · refine ⟨1, 0, a, ak, img, n, b, fl, PrC.thr S (by omega) rfl (fun Q => c_hand_n (d := 94) S.ci hw hx), fun M1 m hB => k_hand_n (d := 97) m hw hx, S.gd.up⟩
theorem P_play (S : LwS M a ak img n b fl K) : Pr M a ak img n b fl K 33 137 [0, 3] [.int x, .int y, .int z] := by
  have hw := S.wf
  have hp' := hw.p'
  have hf' := hw.f'
  have hn' := hw.n'
  by_cases hy : Ix 61 y
  · obtain ⟨g, hg, rfl⟩ := hy
    by_cases hz : Ix 6 z
    · obtain ⟨q, hq, rfl⟩ := hz
      refine ⟨0, sPlayV a x g q, a, ak, img, n, b, fl, PrC.yct S (c_play (d := 85) S.ci S.gd.wt (by have := S.kk; omega) (by omega) hq), fun M1 m hB => k_play (d := 30) m S.gd.wt (by have := S.kk; omega) (by omega) hq, S.gd.up⟩
    · refine ⟨2, 0, a, ak, img, n, b, fl, PrC.thr S (by omega) rfl (fun Q => c_play_n2 (d := 94) (by omega) hz), fun M1 m hB => k_play_n2 (d := 97) m (by omega) hz, S.gd.up⟩
  · refine ⟨1, 0, a, ak, img, n, b, fl, PrC.thr S (by omega) rfl (fun Q => c_play_n1 (d := 94) hy), fun M1 m hB => k_play_n1 (d := 97) m hy, S.gd.up⟩
end PQ
