theorem sRoom_pri {a : Int32} {Y : pY} (h : ∀ k, k < 6 → wS Y k) : ∀ k, k < 6 → wS (sRoom a Y) k := by
  unfold sRoom
  split
  · refine itF_ind (N := 6) (f := sRoomF a) (fun Z => ∀ k, k < 6 → wS Z k) ?_ 6 0 Y rfl h
    intro q Z hq hZ
    unfold sRoomF
    split
    · rename_i hc
      intro k hk
      by_cases e : k = q
      · subst e
        have h1 := hZ k hk
        have h2 : rng (Z 5 k 2 - 1) 0 15 := rng_dec (by decide) h1.2.2.2.2.1 (Int32.lt_trans (by decide) hc.2)
        have h3 : Z 6 k 0 ≠ 0 := by
          intro e0
          have := (h1.2.2.2.2.2.2.2.2.2 e0).1
          rw [this] at hc
          exact absurd hc.2 (by decide)
        simp_all [wS, wr_rd]
      · simpa [b2_t, b2_f, up_at, up_up, up_id, wS, wr_rd, e] using hZ k hk
    · exact hZ
  · exact h
theorem sStop_rd {Y : pY} {K j i : Nat} (h : K ≠ 2) (h2 : K ≠ 6 ∨ j ≠ 6) : sStop Y K j i = Y K j i := by
  unfold sStop sImg
  simp only [wr_rd]
  grind
theorem sStop_pim {Y : pY} : is01 (sStop Y 6 6 0) ∧ is01 (sStop Y 6 6 4) ∧ is01 (sStop Y 6 6 5) := by simp [b2_t, b2_f, up_at, up_up, up_id, sStop, sImg, wr_rd, is01]
theorem sStop_ins {Y : pY} : sStop Y 2 0 1 = -1 := by simp [b2_t, b2_f, up_at, up_up, up_id, sStop, sImg, wr_rd]
/-- the contents behind an install are well-formed where slot z's image is -/
theorem wm_take {Q n t z : Nat} {Y : pY} (hn : n ≤ 6) (sz : Y 0 0 4 = nI n) (sl : ∀ k, k < 6 → wS Y k) (hi : ∀ k, n ≤ k → k < 6 → Y 6 k 0 = 0 ∧ Y 5 k 6 = 0 ∧ Y 5 k 7 = 0 ∧ Y 5 k 8 = 0)
    (on : is01 (Y 0 0 10)) (run : Y 0 0 11 = -1 ∨ ∃ r, r < n ∧ Y 0 0 11 = nI r ∧ Y 0 0 10 = 1 ∧ (Y 6 r 0 ≠ 0 ∨ r = z)) (wat : rng (Y 0 0 5) 1 99) (lim : rng (Y 0 0 6) 1 9) (ret : rng (Y 0 0 7) 0 7) (flo : rng (Y 0 0 8) 0 99)
    (tim : Y 0 0 9 = nI t) (age : rng (Y 0 0 12) 0 t) (tot : rng (Y 3 0 4) 0 Q) (hz : z < n) (i3 : Y 2 0 3 = 3) (i0 : Y 6 6 0 = 1) (i4 : is01 (Y 6 6 4)) (i5 : is01 (Y 6 6 5)) (j1 : rng (Y 6 6 1) 0 99) (j2 : rng (Y 6 6 2) 0 99) (j3 : rng (Y 6 6 3) 0 99)
    (log : ∀ i, i < 12 → rng (Y 7 0 i) 0 t ∧ rng (Y 8 0 i) 0 4 ∧ (Y 10 0 i = -1 ∨ rng (Y 10 0 i) 0 5)) (hg : sGreat (nI z) (sImg (sRoom (nI z) Y) z (sRoom (nI z) Y 6 6)) < 15) : wm Q n t (sTake z Y) := by
  have hz6 : z < 6 := by omega
  have hR : ∀ K j i, (K ≠ 5 ∨ i ≠ 2) → sRoom (nI z) Y K j i = Y K j i := fun K j i h => sRoom_else h
  have hP := sRoom_pri (a := nI z) sl
  have hgr : rng (sGreat (nI z) (sImg (sRoom (nI z) Y) z (sRoom (nI z) Y 6 6))) 0 15 := rng_great (fun k hk => by have := (hP k hk).2.2.2.2.1; simpa [b2_t, b2_f, up_at, up_up, up_id, sImg, wr_rd] using this)
  have hg1 : rng (sGreat (nI z) (sImg (sRoom (nI z) Y) z (sRoom (nI z) Y 6 6)) + 1) 0 15 := by
    obtain ⟨k, a1, a2, a3⟩ := hgr
    rw [a3] at hg ⊢
    have : k < 15 := (pu_lt k 15 (by decide) (by omega)).mp hg
    exact ⟨k + 1, by omega, by omega, by rw [pu_succ]⟩
  unfold sTake
  dsimp only
  generalize sGreat (nI z) (sImg (sRoom (nI z) Y) z (sRoom (nI z) Y 6 6)) = G at *
  have r6 : ∀ j i, sRoom (nI z) Y 6 j i = Y 6 j i := fun j i => hR 6 j i (by omega)
  have r0 : ∀ i, sRoom (nI z) Y 0 0 i = Y 0 0 i := fun i => hR 0 0 i (by omega)
  have hE : ∀ K i, K ≠ 2 → K ≠ 5 → K ≠ 6 → sStop (wr (wr (wr (wr (sImg (sRoom (nI z) Y) z (sRoom (nI z) Y 6 6)) 5 z 2 (G + 1)) 5 z 3 (sImg (sRoom (nI z) Y) z (sRoom (nI z) Y 6 6) 2 0 3)) 5 z 4 0) 5 z 5 0) K 0 i = Y K 0 i := by
    intro K i h1 h2 h3
    rw [sStop_rd h1 (Or.inl h3)]
    simp [b2_t, b2_f, up_at, up_up, up_id, sImg, wr_rd, h2, h3]
    exact hR K 0 i (by omega)
  have h23 : sImg (sRoom (nI z) Y) z (sRoom (nI z) Y 6 6) 2 0 3 = 3 := by simp [b2_t, b2_f, up_at, up_up, up_id, sImg, wr_rd, hR 2 0 3 (by omega), i3]
  refine ⟨hn, by rw [hE 0 4 (by omega) (by omega) (by omega)]; exact sz, ?_, ?_, by rw [hE 0 10 (by omega) (by omega) (by omega)]; exact on, ?_, by rw [hE 0 5 (by omega) (by omega) (by omega)]; exact wat, by rw [hE 0 6 (by omega) (by omega) (by omega)]; exact lim, by rw [hE 0 7 (by omega) (by omega) (by omega)]; exact ret, by rw [hE 0 8 (by omega) (by omega) (by omega)]; exact flo, by rw [hE 0 9 (by omega) (by omega) (by omega)]; exact tim, by rw [hE 0 12 (by omega) (by omega) (by omega)]; exact age, by rw [hE 3 4 (by omega) (by omega) (by omega)]; exact tot, sStop_pim, Or.inl sStop_ins, ?_⟩
  · intro k hk
    have hk6 : k ≠ 6 := by omega
    by_cases e : k = z
    · subst e
      have h3 : rng 3 0 7 := ⟨3, by omega, by omega, rfl⟩
      unfold wS
      simp only [sStop_rd (show (6 : Nat) ≠ 2 by decide) (show (6 : Nat) ≠ 6 ∨ k ≠ 6 by omega), sStop_rd (show (5 : Nat) ≠ 2 by decide) (show (5 : Nat) ≠ 6 ∨ k ≠ 6 by omega), h23]
      simp [b2_t, b2_f, up_at, up_up, up_id, sImg, wr_rd, r6, i0, i4, i5, j1, j2, j3, hg1, h3, is01]
      exact ⟨i4, i5⟩
    · have := hP k hk
      unfold wS at this ⊢
      simp only [sStop_rd (show (6 : Nat) ≠ 2 by decide) (show (6 : Nat) ≠ 6 ∨ k ≠ 6 by omega), sStop_rd (show (5 : Nat) ≠ 2 by decide) (show (5 : Nat) ≠ 6 ∨ k ≠ 6 by omega)]
      simpa [b2_t, b2_f, up_at, up_up, up_id, sImg, wr_rd, e] using this
  · intro k h1 h2
    have e : k ≠ z := by omega
    have := hi k h1 h2
    simp only [sStop_rd (show (6 : Nat) ≠ 2 by decide) (show (6 : Nat) ≠ 6 ∨ k ≠ 6 by omega), sStop_rd (show (5 : Nat) ≠ 2 by decide) (show (5 : Nat) ≠ 6 ∨ k ≠ 6 by omega)]
    simpa [b2_t, b2_f, up_at, up_up, up_id, sImg, wr_rd, e, r6, hR 5 k 6 (by omega), hR 5 k 7 (by omega), hR 5 k 8 (by omega)] using this
  · rw [hE 0 11 (by omega) (by omega) (by omega), hE 0 10 (by omega) (by omega) (by omega)]
    rcases run with e | ⟨r, hr, e1, e2, e3⟩
    · left; exact e
    · right
      refine ⟨r, hr, e1, e2, ?_⟩
      rw [sStop_rd (by decide) (by omega)]
      by_cases e : r = z
      · subst e; simp [b2_t, b2_f, up_at, up_up, up_id, sImg, wr_rd, r6, i0]
      · rcases e3 with e3 | e3
        · simpa [b2_t, b2_f, up_at, up_up, up_id, sImg, wr_rd, e, r6] using e3
        · exact absurd e3 e
  · intro i hi
    rw [hE 7 i (by omega) (by omega) (by omega), hE 8 i (by omega) (by omega) (by omega), hE 10 i (by omega) (by omega) (by omega)]
    exact log i hi
