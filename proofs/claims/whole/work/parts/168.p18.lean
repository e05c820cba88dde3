/-! THE REFERENCE: the install comes; a tick -/
theorem sGreat_wr6 {a : Int32} {Y : pY} {j i : Nat} {v : Int32} : sGreat a (wr Y 6 j i v) = sGreat a Y := by
  have : sGreatF a (wr Y 6 j i v) = sGreatF a Y := by funext k b; unfold sGreatF; simp [b2_t, b2_f, up_at, up_up, up_id, wr_rd]
  unfold sGreat; rw [this]
theorem pris_room {n : Nat} {a : Int32} {Y : pY} (h : pris n Y) (hs : ∀ k, k < 6 → wS Y k) : pris n (sRoom a Y) := by
  obtain ⟨hn, sz, hp, hz⟩ := h
  have h2 := sRoom_pri (a := a) hs
  refine ⟨hn, by rw [sRoom_else (by omega)]; exact sz, fun k hk => (h2 k hk).2.2.2.2.1, fun k h1 hk => ?_⟩
  by_cases h15 : 15 ≤ sGreat a Y
  · rw [sRoom_at h15 k hk, hz k h1 hk, if_neg (fun q => absurd q.2 (by decide))]
  · unfold sRoom; rw [if_neg h15]; exact hz k h1 hk
theorem pris_wr6 {n : Nat} {Y : pY} {j i : Nat} {v : Int32} (h : pris n Y) : pris n (wr Y 6 j i v) := by
  unfold pris at *; simpa [b2_t, b2_f, up_at, up_up, up_id, wr_rd] using h
def cmY (z : Nat) (v s c : Int32) (Y : pY) : pY := wr (wr (wr (wr (wr (wr Y 6 z 0 1) 5 z 2 (sGreat (nI z) Y + 1)) 5 z 3 3) 6 z 1 v) 6 z 2 s) 6 z 3 c
theorem q9_comes70 {n z : Nat} (hz : z < n) {v s c' : Int32} {X : bsX} {Y : pY} {a b c : Int32} (h : pris n Y) : fX9_comes_70 (nI z) v s c' (ro X (row Y a b c)) = some (ro X (row (cmY z v s c' Y) a b c)) := by
  have hz6 : z < 6 := by have := h.1; omega
  unfold fX9_comes_70
  simp only [q9_pu0 hz6, q9_pu1 hz6, q9_pu2 hz6, q9_pu3 hz6, q9_pu4 hz6, q9_pu5 hz6, q9_pu6 hz6, q9_pu7 hz6, q9_pu8 hz6, q9_pu9 hz6, q9_pu10 hz6, q9_pu11 hz6, q9_pu12 hz6, Option.bind_some, q9_great (pris_wr6 h), sGreat_wr6]
  rfl
theorem q9_comes {n z : Nat} (hz : z < n) {v s c' : Int32} {X : bsX} {Y : pY} {a b c : Int32} (h : pris n Y) (hs : ∀ k, k < 6 → wS Y k) : fX9_comes (nI z) v s c' (ro X (row Y a b c)) = some (ro X (row (cmY z v s c' (sRoom (nI z) Y)) a b c)) := by
  have hz6 : z < 6 := by have := h.1; omega
  have hR := pris_room (a := nI z) h hs
  obtain ⟨hn, sz, hp, hzz⟩ := h
  have hg := rng_great (a := nI z) (Y := Y) hp
  have e15 : (sGreat (nI z) Y = 15) ↔ 15 ≤ sGreat (nI z) Y := by
    obtain ⟨m, _, m2, m3⟩ := hg
    rw [m3]
    constructor
    · intro e; rw [e]; exact Int32.le_refl _
    · intro e
      have := (pu_le 15 m (by omega) (by decide)).mp e
      have : m = 15 := by omega
      rw [this]; rfl
  unfold fX9_comes
  rw [q9_great ⟨hn, sz, hp, hzz⟩]
  simp only [Option.bind_some]
  by_cases h15 : 15 ≤ sGreat (nI z) Y
  · rw [if_pos (e15.mpr h15)]
    have hcut : sRoom (nI z) Y = itF (sRoomF (nI z)) n 0 Y := by
      unfold sRoom
      rw [if_pos h15]
      refine itF_6P (fun W => ∀ k, n ≤ k → k < 6 → W 5 k 2 = 0) hn ?_ ?_ Y hzz
      · intro k W hk hW q h1 h2
        unfold sRoomF
        split
        · rw [wr_rd, if_neg (by omega)]; exact hW q h1 h2
        · exact hW q h1 h2
      · intro k W h1 h2 hW
        unfold sRoomF
        rw [hW k h1 h2, if_neg (fun q => absurd q.2 (by decide))]
    have key := (pu_loop (N := n) (fun m k (W : pY) => fX9_comes_13 m (nI z) v s c' (nI k) (ro X (row W a b c))) (sRoomF (nI z)) (fun W => ro X (row (cmY z v s c' W) a b c)) (fun _ W => pris n W) ?_ ?_ n 0 bsF Y (by omega) (by unfold bsF; omega) ⟨hn, sz, hp, hzz⟩).1
    · rw [hcut]; exact key
    · intro m k W hk hW
      have hk6 : k < 6 := by omega
      refine ⟨?_, ?_⟩
      · simp only [fX9_comes_13, fX9_comes_56, fX9_comes_57, fX9_flag, bi_0, bx_0, rw_rd0, hW.2.1, pu_leN hk hn, if_true, if_false, q9_of0 hk6, q9_of1 hk6, q9_of2 hk6, q9_of3 hk6, q9_of4 hk6, q9_of5 hk6, q9_of6 hk6, q9_of7 hk6, q9_of8 hk6, q9_of9 hk6, q9_of10 hk6, q9_of11 hk6, q9_of12 hk6, q9_pu0 hk6, q9_pu1 hk6, q9_pu2 hk6, q9_pu3 hk6, q9_pu4 hk6, q9_pu5 hk6, q9_pu6 hk6, q9_pu7 hk6, q9_pu8 hk6, q9_pu9 hk6, q9_pu10 hk6, q9_pu11 hk6, q9_pu12 hk6, Option.bind_some, pu_succ, sRoomF]
        have c10 : ¬ (1 : Int32) = 0 := by decide
        have s0 : ∀ x : Int32, x - 0 = x := by intro x; simp [b2_t, b2_f, up_at, up_up, up_id]
        by_cases e1 : nI k = nI z
        · simp only [e1, if_true, Option.bind_some, s0, ne_eq, not_true, false_and, if_false]
          have := (pu_eq k z (by omega) (by omega)).mp e1
          subst this
          simp only [q9_pu0 hk6, q9_pu1 hk6, q9_pu2 hk6, q9_pu3 hk6, q9_pu4 hk6, q9_pu5 hk6, q9_pu6 hk6, q9_pu7 hk6, q9_pu8 hk6, q9_pu9 hk6, q9_pu10 hk6, q9_pu11 hk6, q9_pu12 hk6, Option.bind_some, wr_self]
        · by_cases e2 : W 5 k 2 ≤ 1
          · have := pu_nlt.mpr e2
            simp [b2_t, b2_f, up_at, up_up, up_id, e1, e2, this, q9_pu0 hk6, q9_pu1 hk6, q9_pu2 hk6, q9_pu3 hk6, q9_pu4 hk6, q9_pu5 hk6, q9_pu6 hk6, q9_pu7 hk6, q9_pu8 hk6, q9_pu9 hk6, q9_pu10 hk6, q9_pu11 hk6, q9_pu12 hk6, wr_self]
          · have := pu_nle.mp e2
            simp [b2_t, b2_f, up_at, up_up, up_id, e1, e2, this, q9_pu0 hk6, q9_pu1 hk6, q9_pu2 hk6, q9_pu3 hk6, q9_pu4 hk6, q9_pu5 hk6, q9_pu6 hk6, q9_pu7 hk6, q9_pu8 hk6, q9_pu9 hk6, q9_pu10 hk6, q9_pu11 hk6, q9_pu12 hk6, c10]
      · unfold sRoomF
        split
        · rename_i hc
          obtain ⟨w1, w2, w3, w4⟩ := hW
          refine ⟨w1, by rw [wr_rd, if_neg (by omega)]; exact w2, fun q hq => ?_, fun q h1 h2 => ?_⟩
          · by_cases e : q = k
            · subst e
              simp only [wr_rd, and_self, if_true]
              exact rng_dec (by decide) (w3 q hq) (Int32.lt_trans (by decide) hc.2)
            · rw [wr_rd, if_neg (by omega)]; exact w3 q hq
          · rw [wr_rd, if_neg (by omega)]; exact w4 q h1 h2
        · exact hW
    · intro m W hW
      simp only [fX9_comes_13, bi_0, bx_0, rw_rd0, hW.2.1, pu_leNN, if_true]
      exact q9_comes70 hz hW
  · rw [if_neg (fun q => h15 (e15.mp q))]
    have : sRoom (nI z) Y = Y := by unfold sRoom; rw [if_neg h15]
    rw [this]
    exact q9_comes70 hz ⟨hn, sz, hp, hzz⟩
theorem rw_wr21 (X : bsX) (Y : pY) (a b c v : Int32) (h : Y 2 0 1 ≠ -1) : bsWr (ro X (row Y a b c)) 14 1 0 21 v = ro X (row (wr Y 2 0 2 v) a b c) := by
  rw [ro_wr]
  congr 1
  funext d
  unfold pt row
  have hE : eN (wr Y 2 0 2 v) d = if d = 21 then v else eN Y d := by
    refine eN_cases (P := fun d => eN (wr Y 2 0 2 v) d = if d = 21 then v else eN Y d) (fun m hm => by rw [eN_big hm, eN_big hm, if_neg (by omega)]) ?_ ?_ ?_ ?_ ?_ ?_ ?_ ?_ ?_ ?_ ?_ ?_ ?_ ?_ ?_ ?_ ?_ ?_ ?_ ?_ ?_ ?_ ?_ ?_ ?_ ?_ ?_ ?_ ?_ d <;> simp [b2_t, b2_f, up_at, up_up, up_id, eN, wr_rd, h]
  rw [hE, eL_wr (by omega) (by omega), eS_wr (by omega)]
  by_cases e : d = 21
  · subst e; simp [b2_t, b2_f, up_at, up_up, up_id]
  · simp only [e, if_false]
theorem q9_installs {n z Q t : Nat} (hz : z < n) (hQ : Q < 1000000) {X : bsX} {Y : pY} {a b c : Int32} (h : pris n Y) (hs : ∀ k, k < 6 → wS Y k) (ht : Y 2 0 1 = nI z) (h0 : Y 6 6 0 = 1) (hb : Y 6 z 0 = 0)
    (hw : wm Q n t (wr (sTake z Y) 4 0 6 (Y 4 0 6 + 1))) :
    fX9_installs (ro X (row Y a b c)) = some (ro X (if a = 2 then enc (sBoots 4 (wr (sTake z Y) 4 0 6 (Y 4 0 6 + 1))).2 else row (wr (sTake z Y) 4 0 6 (Y 4 0 6 + 1)) a b c)) := by
  have hz6 : z < 6 := by have := h.1; omega
  have hne : ¬ nI z = -1 := pu_m1 z (by omega)
  have r2 : ∀ i, sRoom (nI z) Y 2 0 i = Y 2 0 i := fun i => sRoom_else (by omega)
  have r6 : ∀ j i, sRoom (nI z) Y 6 j i = Y 6 j i := fun j i => sRoom_else (by omega)
  have r5 : ∀ i, i ≠ 2 → sRoom (nI z) Y 5 z i = Y 5 z i := fun i hi => sRoom_else (by omega)
  have c2 : ∀ i v s c', cmY z v s c' (sRoom (nI z) Y) 2 0 i = Y 2 0 i := by intro i v s c'; unfold cmY; simp [b2_t, b2_f, up_at, up_up, up_id, wr_rd, r2]
  have c6 : ∀ i v s c', cmY z v s c' (sRoom (nI z) Y) 6 6 i = Y 6 6 i := by
    intro i v s c'; unfold cmY
    have : ¬ 6 = z := by omega
    simp [b2_t, b2_f, up_at, up_up, up_id, wr_rd, r6, this]
  have hbl := (hs z hz6).2.2.2.2.2.2.2.2.2 hb
  have heq : wr (wr (wr (cmY z (Y 6 6 1) (Y 6 6 2) (Y 6 6 3) (sRoom (nI z) Y)) 5 z 3 (Y 2 0 3)) 6 z 4 (Y 6 6 4)) 6 z 5 (Y 6 6 5)
      = wr (wr (wr (wr (sImg (sRoom (nI z) Y) z (sRoom (nI z) Y 6 6)) 5 z 2 (sGreat (nI z) (sImg (sRoom (nI z) Y) z (sRoom (nI z) Y 6 6)) + 1)) 5 z 3 (sImg (sRoom (nI z) Y) z (sRoom (nI z) Y 6 6) 2 0 3)) 5 z 4 0) 5 z 5 0 := by
    have e23 : sImg (sRoom (nI z) Y) z (sRoom (nI z) Y 6 6) 2 0 3 = Y 2 0 3 := by simp [b2_t, b2_f, up_at, up_up, up_id, sImg, wr_rd, r2]
    rw [e23, sGreat_img]
    have q4 := r5 4 (by decide)
    have q5 := r5 5 (by decide)
    rw [hbl.2.2.1] at q4
    rw [hbl.2.2.2.1] at q5
    generalize sRoom (nI z) Y = W at *
    funext K j i
    unfold cmY sImg
    simp only [wr_rd, r6]
    by_cases k5 : K = 5
    · subst k5
      by_cases j5 : j = z
      · subst j5
        by_cases i2 : i = 2
        · subst i2; simp [b2_t, b2_f, up_at, up_up, up_id]
        · by_cases i3 : i = 3
          · subst i3; simp [b2_t, b2_f, up_at, up_up, up_id]
          · by_cases i4 : i = 4
            · subst i4; simp [b2_t, b2_f, up_at, up_up, up_id, q4]
            · by_cases i5 : i = 5
              · subst i5; simp [b2_t, b2_f, up_at, up_up, up_id, q5]
              · simp [b2_t, b2_f, up_at, up_up, up_id, i2, i3, i4, i5]
      · simp [b2_t, b2_f, up_at, up_up, up_id, j5]
    · by_cases k6 : K = 6
      · subst k6
        by_cases j5 : j = z
        · subst j5
          by_cases i0 : i = 0
          · subst i0; simp [b2_t, b2_f, up_at, up_up, up_id, h0]
          · by_cases i1 : i = 1
            · subst i1; simp [b2_t, b2_f, up_at, up_up, up_id]
            · by_cases i2 : i = 2
              · subst i2; simp [b2_t, b2_f, up_at, up_up, up_id]
              · by_cases i3 : i = 3
                · subst i3; simp [b2_t, b2_f, up_at, up_up, up_id]
                · by_cases i4 : i = 4
                  · subst i4; simp [b2_t, b2_f, up_at, up_up, up_id]
                  · by_cases i5 : i = 5
                    · subst i5; simp [b2_t, b2_f, up_at, up_up, up_id]
                    · simp [b2_t, b2_f, up_at, up_up, up_id, i0, i1, i2, i3, i4, i5]
        · simp [b2_t, b2_f, up_at, up_up, up_id, j5]
      · simp [b2_t, b2_f, up_at, up_up, up_id, k5, k6]
  have htk : sTake z Y 4 0 6 = Y 4 0 6 := by
    unfold sTake
    rw [sStop_rd (by decide) (by decide)]
    simp [b2_t, b2_f, up_at, up_up, up_id, wr_rd, sImg]
    rw [sRoom_else (by omega)]
  have hT : sStop (wr (wr (wr (cmY z (Y 6 6 1) (Y 6 6 2) (Y 6 6 3) (sRoom (nI z) Y)) 5 z 3 (Y 2 0 3)) 6 z 4 (Y 6 6 4)) 6 z 5 (Y 6 6 5)) = sTake z Y := by rw [heq]; rfl
  unfold fX9_installs
  simp only [bi_0, bx_0, bi_1, bx_1, bi_2, bx_2, bi_3, bx_3, bi_4, bx_4, bi_5, bx_5, bi_6, bx_6, bi_7, bx_7, bi_8, bx_8, bi_9, bx_9, bi_10, bx_10, bi_11, bx_11, bi_12, bx_12, bi_13, bx_13, bi_14, bx_14, bi_15, bx_15, bi_16, bx_16, bi_17, bx_17, bi_18, bx_18, bi_19, bx_19, bi_20, bx_20, bi_21, bx_21, bi_22, bx_22, bi_23, bx_23, bi_24, bx_24, bi_25, bx_25, bi_26, bx_26, bi_27, bx_27, bi_28, bx_28, if_true, rw_rd0, rw_rd1, rw_rd2, rw_rd3, rw_rd4, rw_rd5, rw_rd6, rw_rd7, rw_rd8, rw_rd12, rw_rd13, rw_rd14, rw_rd15, rw_rd16, rw_rd17, rw_rd18, rw_rd19, rw_rd20, rw_rd21, rw_rd22, rw_rd23, rw_rd24, rw_rd25, rw_rd26, rw_rd27, rw_rd28, ht, hne, if_false, q9_comes hz h hs, Option.bind_some, c2, c6, q9_pu0 hz6, q9_pu1 hz6, q9_pu2 hz6, q9_pu3 hz6, q9_pu4 hz6, q9_pu5 hz6, q9_pu6 hz6, q9_pu7 hz6, q9_pu8 hz6, q9_pu9 hz6, q9_pu10 hz6, q9_pu11 hz6, q9_pu12 hz6, wr_rd, q9_noInst, rw_wr1, rw_wr2, rw_wr3, rw_wr4, rw_wr5, rw_wr6, rw_wr7, rw_wr8, rw_wr13, rw_wr14, rw_wr15, rw_wr16, rw_wr17, rw_wr18, rw_wr19]
  have hz7 : ¬ 6 = z := by omega
  simp only [hz7, and_false, false_and, if_false, c6, c2, ht, hne, show ¬ ((2 : Nat) = 5) by decide, show ¬ ((2 : Nat) = 6) by decide, show ¬ ((6 : Nat) = 5) by decide, hT, htk, q9_pu0 hz6, q9_pu1 hz6, q9_pu2 hz6, q9_pu3 hz6, q9_pu4 hz6, q9_pu5 hz6, q9_pu6 hz6, q9_pu7 hz6, q9_pu8 hz6, q9_pu9 hz6, q9_pu10 hz6, q9_pu11 hz6, q9_pu12 hz6, q9_noInst, rw_wr1, rw_wr2, rw_wr3, rw_wr4, rw_wr5, rw_wr6, rw_wr7, rw_wr8, rw_wr13, rw_wr14, rw_wr15, rw_wr16, rw_wr17, rw_wr18, rw_wr19, rw_rd0, rw_rd1, rw_rd2, rw_rd3, rw_rd4, rw_rd5, rw_rd6, rw_rd7, rw_rd8, rw_rd12, rw_rd13, rw_rd14, rw_rd15, rw_rd16, rw_rd17, rw_rd18, rw_rd19, rw_rd20, rw_rd21, rw_rd22, rw_rd23, rw_rd24, rw_rd25, rw_rd26, rw_rd27, rw_rd28, Option.bind_some]
  by_cases ha : a = 2
  · rw [if_pos ha, if_pos ha, q9_boots hQ (wm_boot0 hw)]; rfl
  · rw [if_neg ha, if_neg ha]
