/-! a tick, ticks -/
theorem rl.wd {n : Nat} {Y Z : pY} (h : rl n Y Z) (v : Int32) : rl n (wr Y 2 0 2 v) (wr Z 2 0 2 v) :=
  ⟨h.a.of (fun _ _ _ => wr_y _ _ _ _ _ (by omega)) (fun _ _ _ => wr_y _ _ _ _ _ (by omega)), h.b.of (fun _ _ _ _ => wr_y _ _ _ _ _ (by omega)) (fun _ _ _ _ => wr_y _ _ _ _ _ (by omega)), h.c.of (fun _ _ _ _ => wr_y _ _ _ _ _ (by omega)) (fun _ _ _ _ _ => wr_y _ _ _ _ _ (by omega)),
    ⟨by rw [wr_y _ _ _ _ _ (by omega), wr_y _ _ _ _ _ (by omega)]; exact h.d.1, fun q => by
      rw [wr_y _ _ _ _ _ (by omega)] at q
      refine ⟨by rw [wr_s, wr_s], fun i a b => ?_⟩
      rw [wr_y _ _ _ _ _ (by omega), wr_y _ _ _ _ _ (by omega)]
      exact (h.d.2 q).2 i a b⟩,
    h.e.of (fun _ _ => wr_y _ _ _ _ _ (by omega)) (fun _ _ _ => wr_y _ _ _ _ _ (by omega)), h.f.of (wr_y _ _ _ _ _ (by omega)) (fun _ _ _ _ => wr_y _ _ _ _ _ (by omega)) (wr_y _ _ _ _ _ (by omega)) (wr_y _ _ _ _ _ (by omega)) (fun _ _ _ => wr_y _ _ _ _ _ (by omega))⟩
/-- the second half of a tick -/
theorem hq_tick2 {B Q n t m0 : Nat} {X : bsX} {Y Z : pY} (hw : wm Q n t Y) (h : rl n Y Z) (hs : rs Y Z) (em : Y 3 0 4 = nI m0) (hB : m0 ≤ B) (hB2 : B ≤ 90000) :
    ∃ Z', hX11_tick_45 B X Z = some (0, X, Z') ∧ rl n (sTick2 Y) Z' ∧ rs (sTick2 Y) Z' := by
  have h6 := hw.hn
  obtain ⟨s1, s2, s3⟩ := hs
  have d1 := h.d.1
  unfold hX11_tick_45 hX11_tick_59 hX11_tick_123
  have e10 : Z 0 0 10 = 0 ↔ Y 0 0 10 = 0 := by rw [s3]; exact hw.st.2.2
  by_cases a1 : Y 0 0 10 = 0
  · rw [if_pos (e10.mpr a1)]
    have e : sTick2 Y = Y := by unfold sTick2; rw [if_pos a1]
    rw [e]
    exact ⟨Z, rfl, h, s1, s2, s3⟩
  · rw [if_neg (fun q => a1 (e10.mp q)), d1]
    rcases hw.ins with hi | ⟨z, hz, hi⟩
    · rw [hi, if_neg (by decide)]
      have e : sTick2 Y = Y := by unfold sTick2; rw [if_neg a1, hi, if_pos (by decide)]
      rw [e]
      exact ⟨Z, rfl, h, s1, s2, s3⟩
    · have hi0 := hi
      obtain ⟨ht, hl, i3, i0, i4, i5, j1, j2, j3, hon, hz0, hrz⟩ := hi
      obtain ⟨m, hm1, hm2, hm3⟩ := hl
      have hz6 : z < 6 := by omega
      have d2 := (h.d.2 (by rw [ht]; exact pu_m1 z (by omega))).1
      have hm4 : nI m - 1 = nI (m - 1) := by rw [← pu_sub _ _ hm1]; rfl
      rw [ht, if_pos (show (0 : Int32) ≤ nI z from pu_nlt.mp (pu_neg z (by omega))), d2, hm3, hm4, wr_s]
      have hD : rl n (wr Y 2 0 2 (nI (m - 1))) (wr Z 2 0 2 (nI (m - 1))) := h.wd _
      have eT : sTick2 Y = if 0 < nI (m - 1) then wr Y 2 0 2 (nI (m - 1)) else if sResc (wr (sTake z (wr Y 2 0 2 (nI (m - 1)))) 4 0 6 (Y 4 0 6 + 1)) then (sBoots 4 (wr (sTake z (wr Y 2 0 2 (nI (m - 1)))) 4 0 6 (Y 4 0 6 + 1))).2 else wr (sTake z (wr Y 2 0 2 (nI (m - 1)))) 4 0 6 (Y 4 0 6 + 1) := by
        unfold sTick2
        try dsimp only
        rw [if_neg a1, ht, if_neg (pu_neg z (by omega)), hm3, hm4, pu_ix z (by omega)]
      rw [eT]
      by_cases hp : 0 < nI (m - 1)
      · rw [if_neg (pu_nle.mpr hp), if_pos hp]
        refine ⟨_, rfl, hD, ?_, ?_, ?_⟩
        · rw [wr_y _ _ _ _ _ (by omega), wr_y _ _ _ _ _ (by omega)]; exact s1
        · rw [wr_y _ _ _ _ _ (by omega), wr_y _ _ _ _ _ (by omega)]; exact s2
        · rw [wr_y _ _ _ _ _ (by omega), s3]
          unfold sSt
          rw [wr_y _ _ _ _ _ (by omega), wr_y _ _ _ _ _ (by omega)]
      · rw [if_pos (pu_nlt.mp hp), if_neg hp]
        have z21 : (wr Z 2 0 2 (nI (m - 1))) 2 0 1 = nI z := by rw [wr_y _ _ _ _ _ (by omega), d1]; exact ht
        rw [z21]
        have hs' : ∀ k, k < 6 → wS (wr Y 2 0 2 (nI (m - 1))) k := fun k hk => hw.sl k hk
        have hi' : ∀ k, n ≤ k → k < 6 → (wr Y 2 0 2 (nI (m - 1))) 6 k 0 = 0 := fun k a b => (hw.hi k a b).1
        obtain ⟨Z1, c1, c2, c3⟩ := hq_comes (X := X) h6 hs' hi' hD hz (by rw [wr_y _ _ _ _ _ (by omega)]; exact ht) (by rw [wr_y _ _ _ _ _ (by omega)]; exact i3) (by rw [wr_y _ _ _ _ _ (by omega)]; exact i0)
        rw [c1]
        simp only [Option.bind_some]
        have t46 : sTake z (wr Y 2 0 2 (nI (m - 1))) 4 0 6 = Y 4 0 6 := by
          rw [sTake_rd hz6, if_neg (by omega), if_neg (by omega), if_neg (by omega), if_neg (by omega), sRoom_else (by omega), wr_y _ _ _ _ _ (by omega)]
        have e19 : (wr Z1 2 0 1 (-1)) 11 0 19 = Y 4 0 6 := by rw [← t46]; exact c2.e 6 (by omega)
        rw [e19]
        have hE : rl n (wr (sTake z (wr Y 2 0 2 (nI (m - 1)))) 4 0 6 (Y 4 0 6 + 1)) (wr (wr Z1 2 0 1 (-1)) 11 0 19 (Y 4 0 6 + 1)) := c2.we 6 _
        have hwW := wm_takes (m := m) hw hz hi0 (Y 4 0 6 + 1)
        have t0 : ∀ i, wr (sTake z (wr Y 2 0 2 (nI (m - 1)))) 4 0 6 (Y 4 0 6 + 1) 0 0 i = Y 0 0 i := fun i => by
          rw [wr_y _ _ _ _ _ (by omega), sTake_rd hz6, if_neg (by omega), if_neg (by omega), if_neg (by omega), if_neg (by omega), sRoom_else (by omega), wr_y _ _ _ _ _ (by omega)]
        have z0 : ∀ i, (wr (wr Z1 2 0 1 (-1)) 11 0 19 (Y 4 0 6 + 1)) 0 0 i = Z 0 0 i := fun i => by
          rw [wr_y _ _ _ _ _ (by omega), wr_y _ _ _ _ _ (by omega), c3 i, wr_y _ _ _ _ _ (by omega)]
        rw [z0 10, s3]
        have st : sSt (wr (sTake z (wr Y 2 0 2 (nI (m - 1)))) 4 0 6 (Y 4 0 6 + 1)) = sSt Y := by unfold sSt; rw [t0, t0]
        have hr2 := hwW.st.1
        rw [st] at hr2
        by_cases a2 : sSt Y = 2
        · rw [if_pos a2, if_pos (hr2.mp a2)]
          have em2 : (wr (sTake z (wr Y 2 0 2 (nI (m - 1)))) 4 0 6 (Y 4 0 6 + 1)) 3 0 4 = nI m0 := by
            rw [wr_y _ _ _ _ _ (by omega), sTake_rd hz6, if_neg (by omega), if_neg (by omega), if_neg (by omega), if_neg (by omega), sRoom_else (by omega), wr_y _ _ _ _ _ (by omega)]; exact em
          obtain ⟨Z', b1, b2, b3⟩ := hq_boot (c := 4) (X := X) (B := B) (wm_boot0 hwW) hE em2 hB hB2
          refine ⟨Z', ?_, b2, b3⟩
          rw [b1]
          rfl
        · rw [if_neg a2, if_neg (fun q => a2 (hr2.mpr q))]
          exact ⟨_, rfl, hE, by rw [z0, t0]; exact s1, by rw [z0, t0]; exact s2, by rw [z0, st]; exact s3⟩
theorem sOlder_tot {k : Nat} {Y : pY} : (sOlder k Y).2 3 0 4 = Y 3 0 4 := by
  unfold sOlder sCrash sSucc sSucc1
  try dsimp only
  split
  · split <;> simp [wr_rd]
  · split
    · split <;> simp [wr_rd]
    · split <;> simp [wr_rd]
theorem hq_tick {B Q n t m0 : Nat} {X : bsX} {Y Z : pY} (hQ : Q + 2 < 1000000) (hw : wm Q n t Y) (h : rl n Y Z) (hs : rs Y Z) (em : Y 3 0 4 = nI m0) (hB : m0 + 1 ≤ B) (hB2 : B ≤ 90000) :
    ∃ Z' m1, hX11_tick B X Z = some (0, X, Z') ∧ rl n (sTick Y) Z' ∧ rs (sTick Y) Z' ∧ (sTick Y) 3 0 4 = nI m1 ∧ m1 ≤ m0 + 2 := by
  have h6 := hw.hn
  obtain ⟨s1, s2, s3⟩ := hs
  have hw1 := wm_tick1 hw
  have n9 := h.num (i := 9) (by omega) (by omega)
  have c18 : Z 11 0 18 = Y 4 0 5 := h.e 5 (by omega)
  have h1 := h.w0 9 (Y 0 0 9 + 1) (by omega) (by omega)
  -- the contents one tick later
  have step : ∃ Z1, rl n (sTick1 Y) Z1 ∧ (∀ i, 10 ≤ i → Z1 0 0 i = Z 0 0 i) ∧ hX11_tick B X Z = if Z1 0 0 10 = 1 then ((hX11_goes B X Z1).bind fun r12 => hX11_tick_45 B r12.2.1 r12.2.2) else hX11_tick_45 B X Z1 := by
    unfold hX11_tick hX11_tick_31
    have e10 : (wr Z 0 0 9 (Z 0 0 9 + 1)) 0 0 10 = Z 0 0 10 := wr_y _ _ _ _ _ (by omega)
    have e18 : (wr Z 0 0 9 (Z 0 0 9 + 1)) 11 0 18 = Y 4 0 5 := by rw [wr_y _ _ _ _ _ (by omega)]; exact c18
    rw [e10, e18, n9, s3]
    simp only [show bsIn (18 : Int32) 20 = True from eq_true (by decide), if_true, show bsIx (18 : Int32) = 18 from by decide]
    have hr2 := hw.st.1
    by_cases a2 : sSt Y = 2
    · refine ⟨wr (wr Z 0 0 9 (Y 0 0 9 + 1)) 11 0 18 (Y 4 0 5 + 1), ?_, fun i hi => by rw [wr_y _ _ _ _ _ (by omega), wr_y _ _ _ _ _ (by omega)], by rw [if_pos a2]⟩
      have e : sTick1 Y = wr (wr Y 0 0 9 (Y 0 0 9 + 1)) 4 0 5 (Y 4 0 5 + 1) := by
        unfold sTick1
        rw [if_pos (hr2.mp a2), wr_sw Y (a := 4) (b := 0) (c := 5) (by omega)]
      rw [e]
      exact h1.we 5 _
    · refine ⟨wr (wr Z 0 0 9 (Y 0 0 9 + 1)) 11 0 18 (Y 4 0 5 + 0), ?_, fun i hi => by rw [wr_y _ _ _ _ _ (by omega), wr_y _ _ _ _ _ (by omega)], by rw [if_neg a2]⟩
      have e : sTick1 Y = wr (wr Y 0 0 9 (Y 0 0 9 + 1)) 4 0 5 (Y 4 0 5 + 0) := by
        unfold sTick1
        rw [if_neg (fun q => a2 (hr2.mpr q)), wr_id (wr Y 0 0 9 (Y 0 0 9 + 1)) (a := 4) (b := 0) (c := 5) (by rw [wr_y _ _ _ _ _ (by omega), Int32.add_zero])]
      rw [e]
      exact h1.we 5 _
  obtain ⟨Z1, g1, g2, g3⟩ := step
  rw [g3, g2 10 (by omega), s3]
  have t0 : ∀ i, 10 ≤ i → sTick1 Y 0 0 i = Y 0 0 i := fun i hi => by
    unfold sTick1
    rw [wr_y _ _ _ _ _ (by omega)]
    split
    · rw [wr_y _ _ _ _ _ (by omega)]
    · rfl
  have tt : sTick1 Y 3 0 4 = nI m0 := by
    unfold sTick1
    rw [wr_y _ _ _ _ _ (by omega)]
    split
    · rw [wr_y _ _ _ _ _ (by omega)]; exact em
    · exact em
  have st1 : sSt (sTick1 Y) = sSt Y := by unfold sSt; rw [t0 10 (by omega), t0 11 (by omega)]
  have rs1 : rs (sTick1 Y) Z1 := ⟨by rw [g2 11 (by omega), t0 11 (by omega)]; exact s1, by rw [g2 12 (by omega), t0 12 (by omega)]; exact s2, by rw [g2 10 (by omega), st1]; exact s3⟩
  have tot2 : ∀ (W : pY) (mm : Nat), W 3 0 4 = nI mm → ∃ m1, sTick2 W 3 0 4 = nI m1 ∧ m1 ≤ mm + 1 := by
    intro W mm eW
    have hst : ∀ z V, sTake z V 3 0 4 = V 3 0 4 := fun z V => by
      unfold sTake
      try dsimp only
      rw [sStop_rd (by decide) (by decide), wr_y _ _ _ _ _ (by omega), wr_y _ _ _ _ _ (by omega), wr_y _ _ _ _ _ (by omega), wr_y _ _ _ _ _ (by omega)]
      unfold sImg
      rw [wr_y _ _ _ _ _ (by omega), wr_y _ _ _ _ _ (by omega), wr_y _ _ _ _ _ (by omega), wr_y _ _ _ _ _ (by omega), wr_y _ _ _ _ _ (by omega), wr_y _ _ _ _ _ (by omega)]
      exact sRoom_else (by omega)
    unfold sTick2
    try dsimp only
    split
    · exact ⟨mm, eW, by omega⟩
    · split
      · exact ⟨mm, eW, by omega⟩
      · split
        · exact ⟨mm, by rw [wr_y _ _ _ _ _ (by omega)]; exact eW, by omega⟩
        · split
          · exact ⟨mm + 1, by rw [sBoots_tot, wr_y _ _ _ _ _ (by omega), hst, wr_y _ _ _ _ _ (by omega), eW, pu_succ], by omega⟩
          · exact ⟨mm, by rw [wr_y _ _ _ _ _ (by omega), hst, wr_y _ _ _ _ _ (by omega)]; exact eW, by omega⟩
  unfold sTick sTickR
  rcases hw1.hrun with ⟨e, er⟩ | ⟨r, hr, e, er, hon, hp⟩
  · rw [er]
    try dsimp only
    have hn1 : ¬ sSt Y = 1 := by
      intro q
      have := hw1.st.2.1
      rw [st1, er] at this
      exact absurd (this.mp q) (by decide)
    rw [if_neg hn1]
    obtain ⟨Z', b1, b2, b3⟩ := hq_tick2 (X := X) (B := B) hw1 g1 rs1 tt (by omega) hB2
    obtain ⟨m1, b4, b5⟩ := tot2 _ _ tt
    exact ⟨Z', m1, b1, b2, b3, b4, by omega⟩
  · rw [er]
    try dsimp only
    have h1' : sSt Y = 1 := by
      have := hw1.st.2.1
      rw [st1, er] at this
      exact this.mpr rfl
    rw [if_pos h1']
    have ha : rng (sTick1 Y 0 0 12) 0 t := by rw [sTick1_age]; exact hw.age
    obtain ⟨Z2, b1, b2, b3⟩ := hq_goes (X := X) (B := B) hw1 ha g1 rs1 hr e hon hp tt (by omega) hB2
    rw [b1]
    simp only [Option.bind_some]
    have ho := wm_older hw1 ha hr hp
    by_cases c : (sOlder r (sTick1 Y)).1 = -1
    · rw [if_pos c] at b2 b3 ⊢
      have et : (sOlder r (sTick1 Y)).2 3 0 4 = nI m0 := by rw [sOlder_tot]; exact tt
      obtain ⟨Z', k1, k2, k3⟩ := hq_tick2 (X := X) (B := B) ho b2 b3 et (by omega) hB2
      obtain ⟨m1, k4, k5⟩ := tot2 _ _ et
      exact ⟨Z', m1, k1, k2, k3, k4, by omega⟩
    · rw [if_neg c] at b2 b3 ⊢
      have hc2 : rng (sOlder r (sTick1 Y)).1 0 4 := by rcases sOlder_c (k := r) (Y := sTick1 Y) with q | q; exact absurd q c; exact q
      have hwb := wm_boots (c := (sOlder r (sTick1 Y)).1) (wm_boot0 ho) hc2 (by omega)
      have et : (sBoots (sOlder r (sTick1 Y)).1 (sOlder r (sTick1 Y)).2).2 3 0 4 = nI (m0 + 1) := by rw [sBoots_tot, sOlder_tot, tt, pu_succ]
      obtain ⟨Z', k1, k2, k3⟩ := hq_tick2 (X := X) (B := B) hwb b2 b3 et (by omega) hB2
      obtain ⟨m1, k4, k5⟩ := tot2 _ _ et
      exact ⟨Z', m1, k1, k2, k3, k4, by omega⟩
theorem hq_ticks {B n m0 : Nat} {X : bsX} (hB2 : B ≤ 90000) : ∀ (d k f Q t mm : Nat) (Y Z : pY), k + d = m0 → d < f → m0 < 1000 → Q + 2 * d < 900000 → wm Q n t Y → rl n Y Z → rs Y Z → Y 3 0 4 = nI mm → mm + 2 * d ≤ B →
    ∃ Z' m1, hX11_ticks_2 B f (nI m0) (nI k) X Z = some (0, X, Z') ∧ rl n (sTicks d Y) Z' ∧ rs (sTicks d Y) Z' ∧ (sTicks d Y) 3 0 4 = nI m1 ∧ m1 ≤ mm + 2 * d := by
  intro d
  induction d with
  | zero =>
    intro k f Q t mm Y Z hk hf hm hQ hw h hs em hB
    obtain ⟨f, rfl⟩ : ∃ q, f = q + 1 := ⟨f - 1, by omega⟩
    obtain rfl : k = m0 := by omega
    exact ⟨Z, mm, by rw [hX11_ticks_2, if_pos (pz_nn k)], h, hs, em, by omega⟩
  | succ d ih =>
    intro k f Q t mm Y Z hk hf hm hQ hw h hs em hB
    obtain ⟨f, rfl⟩ : ∃ q, f = q + 1 := ⟨f - 1, by omega⟩
    obtain ⟨Z1, m1, a1, a2, a3, a4, a5⟩ := hq_tick (X := X) (B := B) (by omega) hw h hs em (by omega) hB2
    have hw2 := (qX3_tick (g := 0) (X := fun _ => Y) (Q := Q) (by omega) hw).2
    obtain ⟨Z2, m2, b1, b2, b3, b4, b5⟩ := ih (k + 1) f (Q + 2) (t + 1) m1 (sTick Y) Z1 (by omega) (by omega) hm (by omega) hw2 a2 a3 a4 (by omega)
    refine ⟨Z2, m2, ?_, b2, b3, b4, by omega⟩
    rw [hX11_ticks_2, if_neg (by rw [pu_le m0 k (by omega) (by omega)]; omega), a1]
    simp only [Option.bind_some]
    rw [pu_succ]
    exact b1
