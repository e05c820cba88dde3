/-! a tick of the law's machine -/
/-- the class's contents when an install is taken are well-formed -/
theorem wm_takes {Q n t z m : Nat} {Y : pY} (h : wm Q n t Y) (hz : z < n) (hi : Y 2 0 1 = nI z ∧ rng (Y 2 0 2) 1 99 ∧ Y 2 0 3 = 3 ∧ Y 6 6 0 = 1 ∧ is01 (Y 6 6 4) ∧ is01 (Y 6 6 5) ∧ rng (Y 6 6 1) 0 99 ∧ rng (Y 6 6 2) 0 99 ∧ rng (Y 6 6 3) 0 99 ∧ Y 0 0 10 = 1 ∧ Y 6 z 0 = 0 ∧ Y 0 0 11 ≠ nI z) : ∀ v, wm Q n t (wr (sTake z (wr Y 2 0 2 (nI (m - 1)))) 4 0 6 v) := by
  obtain ⟨ht, hl, i3, i0, i4, i5, j1, j2, j3, hon, hz0, hrz⟩ := hi
  have hz6 : z < 6 := by have := h.hn; omega
  have hw1 : wm Q n t (sTake z (wr (Y) 2 0 2 (nI (m - 1)))) := by
    refine wm_take h.hn (by simpa [b2_t, b2_f, up_at, up_up, up_id, wr_rd] using h.sz) (fun q hq => by simpa [b2_t, b2_f, up_at, up_up, up_id, wS, wr_rd] using h.sl q hq) (by simpa [b2_t, b2_f, up_at, up_up, up_id, wr_rd] using h.hi) (by simpa [b2_t, b2_f, up_at, up_up, up_id, wr_rd] using h.on) ?_ (by simpa [b2_t, b2_f, up_at, up_up, up_id, wr_rd] using h.wat) (by simpa [b2_t, b2_f, up_at, up_up, up_id, wr_rd] using h.lim) (by simpa [b2_t, b2_f, up_at, up_up, up_id, wr_rd] using h.ret) (by simpa [b2_t, b2_f, up_at, up_up, up_id, wr_rd] using h.flo) (by simpa [b2_t, b2_f, up_at, up_up, up_id, wr_rd] using h.tim) (by simpa [b2_t, b2_f, up_at, up_up, up_id, wr_rd] using h.age) (by simpa [b2_t, b2_f, up_at, up_up, up_id, wr_rd] using h.tot) hz (by simpa [b2_t, b2_f, up_at, up_up, up_id, wr_rd] using i3) (by simpa [b2_t, b2_f, up_at, up_up, up_id, wr_rd] using i0) (by simpa [b2_t, b2_f, up_at, up_up, up_id, wr_rd] using i4) (by simpa [b2_t, b2_f, up_at, up_up, up_id, wr_rd] using i5) (by simpa [b2_t, b2_f, up_at, up_up, up_id, wr_rd] using j1) (by simpa [b2_t, b2_f, up_at, up_up, up_id, wr_rd] using j2) (by simpa [b2_t, b2_f, up_at, up_up, up_id, wr_rd] using j3) (by simpa [b2_t, b2_f, up_at, up_up, up_id, wr_rd] using h.log) ?_
    · rcases h.run with e | ⟨r, hr, e1, e2, e3⟩
      · left; simpa [b2_t, b2_f, up_at, up_up, up_id, wr_rd] using e
      · right; exact ⟨r, hr, by simpa [b2_t, b2_f, up_at, up_up, up_id, wr_rd] using e1, by simpa [b2_t, b2_f, up_at, up_up, up_id, wr_rd] using e2, Or.inl (by simpa [b2_t, b2_f, up_at, up_up, up_id, wr_rd] using e3)⟩
    · rw [sGreat_img]
      exact sGreat_room (fun k hk => by have := (h.sl k hk).2.2.2.2.1; simpa [b2_t, b2_f, up_at, up_up, up_id, wr_rd] using this)
  have hw2 : ∀ v, wm Q n t (wr (sTake z (wr (Y) 2 0 2 (nI (m - 1)))) 4 0 6 v) := fun v => hw1.of (by simp [b2_t, b2_f, up_at, up_up, up_id, wr_rd]) (by simpa [b2_t, b2_f, up_at, up_up, up_id, wr_rd] using hw1.flo) (by simpa [b2_t, b2_f, up_at, up_up, up_id, wr_rd] using hw1.tim) (by simpa [b2_t, b2_f, up_at, up_up, up_id, wr_rd] using hw1.age) (by simpa [b2_t, b2_f, up_at, up_up, up_id, wr_rd] using hw1.tot) (by simp [b2_t, b2_f, up_at, up_up, up_id, wr_rd]) (fun q hq => by simpa [b2_t, b2_f, up_at, up_up, up_id, wS, wr_rd] using hw1.sl q hq) (by simp [b2_t, b2_f, up_at, up_up, up_id, wr_rd]) (fun q h1 h2 => by simpa [b2_t, b2_f, up_at, up_up, up_id, wr_rd] using (hw1.hi q h1 h2).2) (by simp [b2_t, b2_f, up_at, up_up, up_id, wr_rd]) (Nat.le_refl _)
  exact hw2
theorem sBoots_tot {c : Int32} {Y : pY} : (sBoots c Y).2 3 0 4 = Y 3 0 4 + 1 := by
  have key : ∀ (d : Nat) (gv : Int32) (Y : pY), (sBootL d gv Y).2 3 0 4 = Y 3 0 4 := by
    intro d
    induction d with
    | zero => intro gv Y; rfl
    | succ d ih =>
      intro gv Y
      have ht : ∀ k, (sTry Y k).2 3 0 4 = Y 3 0 4 := fun k => by
        unfold sTry sTry1
        by_cases h1 : Y 6 k 5 = 0 <;> by_cases h2 : Y 5 k 4 = 0 <;> simp [h1, h2, wr_rd]
      rw [sBootL]
      cases sFirstBut (-1) Y with
      | none => rfl
      | some k =>
        try dsimp only
        split
        · show (wr (sTry Y k).2 0 0 11 (nI k)) 3 0 4 = _
          rw [wr_y _ _ _ _ _ (by omega)]; exact ht k
        · rw [ih]; exact ht k
  unfold sBoots sAdd
  try dsimp only
  rw [wr_s, key]
  unfold sBoot0
  rw [wr_y _ _ _ _ _ (by omega), wr_y _ _ _ _ _ (by omega), wr_y _ _ _ _ _ (by omega)]
theorem sFloor_good {r : Nat} {Y : pY} (hr : r < 6) (hg : ¬ Y 5 r 4 = 0) : sFloorBy (nI r) Y = sFloorBy (-1) Y := by
  unfold sFloorBy
  have e : itF (sFbg (nI r) Y) 6 0 ((99 : Int32), (0 : Int32)) = itF (sFbg (-1) Y) 6 0 ((99 : Int32), (0 : Int32)) := itF_congr (N := 6) (fun k a hk => by
    unfold sFbg
    have c : (Y 5 k 4 ≠ 0 ∨ nI k = nI r) ↔ (Y 5 k 4 ≠ 0 ∨ nI k = -1) := by
      constructor
      · rintro (g | g)
        · exact Or.inl g
        · rw [(pu_eq k r (by omega) (by omega)).mp g]; exact Or.inl hg
      · rintro (g | g)
        · exact Or.inl g
        · exact absurd g (pu_m1 k (by omega))
    by_cases q : Y 5 k 4 ≠ 0 ∨ nI k = nI r
    · rw [if_pos q, if_pos (c.mp q)]
    · rw [if_neg q, if_neg (fun w => q (c.mpr w))]) 6 0 _ rfl
  rw [e]
/-- what the law does with a slot that runs, up to the boot -/
theorem hq_goes {B Q n t r m0 : Nat} {X : bsX} {Y Z : pY} (hw : wm Q n (t + 1) Y) (ha : rng (Y 0 0 12) 0 t) (h : rl n Y Z) (hs : rs Y Z) (hr : r < n) (er : Y 0 0 11 = nI r) (hon : Y 0 0 10 = 1) (hp : ¬ Y 6 r 0 = 0) (em : Y 3 0 4 = nI m0) (hB : m0 ≤ B) (hB2 : B ≤ 90000) :
    ∃ Z', hX11_goes B X Z = some (0, X, Z') ∧ rl n (if (sOlder r Y).1 = -1 then (sOlder r Y).2 else (sBoots (sOlder r Y).1 (sOlder r Y).2).2) Z' ∧ rs (if (sOlder r Y).1 = -1 then (sOlder r Y).2 else (sBoots (sOlder r Y).1 (sOlder r Y).2).2) Z' := by
  have h6 := hw.hn
  have hr6 : r < 6 := by omega
  obtain ⟨s1, s2, s3⟩ := hs
  have ho := wm_older hw ha hr hp
  have h1 : rl n (wr Y 0 0 12 (Y 0 0 12 + 1)) (wr Z 0 0 12 (Y 0 0 12 + 1)) := (h.y0 12 _ (by omega)).z0 12 _ (by omega)
  have hl := h.pn h6
  have i3 := h.im hr hp (i := 3) (by omega) (by omega)
  have i2 := h.im hr hp (i := 2) (by omega) (by omega)
  have n5 := h.num (i := 5) (by omega) (by omega)
  have n6 := h.num (i := 6) (by omega) (by omega)
  have n7 := h.num (i := 7) (by omega) (by omega)
  have f3 := h.sl hr (i := 3) (by omega) (by omega)
  have f4 := h.sl hr (i := 4) (by omega) (by omega)
  have f5 := h.sl hr (i := 5) (by omega) (by omega)
  have f8 := h.sl hr (i := 8) (by omega) (by omega)
  have c15 := h.e 2 (by omega)
  have c16 := h.e 3 (by omega)
  have c17 := h.e 4 (by omega)
  have c15 : Z 11 0 15 = Y 4 0 2 := c15
  have c16 : Z 11 0 16 = Y 4 0 3 := c16
  have c17 : Z 11 0 17 = Y 4 0 4 := c17
  unfold hX11_goes
  rw [s1, er, hl, if_pos (pz_in hr h6), pu_ix r (by omega), s2]
  simp only [wr_s]
  -- reads of the contents one tick older
  have y1 : ∀ K j i, ¬ (K = 0 ∧ j = 0 ∧ i = 12) → wr Z 0 0 12 (Y 0 0 12 + 1) K j i = Z K j i := fun K j i q => wr_y _ _ _ _ _ q
  rw [y1 6 r 3 (by omega), y1 6 r 2 (by omega), y1 0 0 5 (by omega), i3, i2, n5]
  have boots : ∀ (cz : Int32) (Y1 Z1 : pY), wm Q n (t + 1) Y1 → rl n Y1 Z1 → Y1 3 0 4 = nI m0 → ∃ Z', (hX11_boot B cz X Z1).bind (fun r6 => some ((0 : Int32), r6.2.1, r6.2.2)) = some (0, X, Z') ∧ rl n (sBoots cz Y1).2 Z' ∧ rs (sBoots cz Y1).2 Z' := by
    intro cz Y1 Z1 hw1 hr1 e1
    obtain ⟨Z', e, g1, g2⟩ := hq_boot (c := cz) (X := X) (B := B) (wm_boot0 hw1) hr1 e1 hB hB2
    exact ⟨Z', by rw [e]; rfl, g1, g2⟩
  by_cases a1 : Y 0 0 12 + 1 = Y 6 r 3
  · rw [if_pos a1]
    have eo : sOlder r Y = (2, sCrash r (wr Y 0 0 12 (Y 0 0 12 + 1))) := by unfold sOlder; try dsimp only; rw [if_pos a1]
    rw [eo] at ho ⊢
    try dsimp only at ho ⊢
    rw [if_neg (show ¬ (2 : Int32) = -1 by decide)]
    rw [y1 11 0 15 (by omega), c15]
    have e5 : (wr (wr Z 0 0 12 (Y 0 0 12 + 1)) 11 0 15 (Y 4 0 2 + 1)) 5 r 5 = Y 5 r 5 := by rw [wr_y _ _ _ _ _ (by omega), y1 5 r 5 (by omega)]; exact f5
    rw [e5]
    have e4 : (wr (wr (wr Z 0 0 12 (Y 0 0 12 + 1)) 11 0 15 (Y 4 0 2 + 1)) 5 r 5 (Y 5 r 5 + 1)) 5 r 4 = Y 5 r 4 := by rw [wr_y _ _ _ _ _ (by omega), wr_y _ _ _ _ _ (by omega), y1 5 r 4 (by omega)]; exact f4
    have e6 : (wr (wr (wr Z 0 0 12 (Y 0 0 12 + 1)) 11 0 15 (Y 4 0 2 + 1)) 5 r 5 (Y 5 r 5 + 1)) 0 0 6 = Y 0 0 6 := by rw [wr_y _ _ _ _ _ (by omega), wr_y _ _ _ _ _ (by omega), y1 0 0 6 (by omega)]; exact n6
    have e7 : (wr (wr (wr (wr Z 0 0 12 (Y 0 0 12 + 1)) 11 0 15 (Y 4 0 2 + 1)) 5 r 5 (Y 5 r 5 + 1)) 5 r 4 0) 0 0 7 = Y 0 0 7 := by rw [wr_y _ _ _ _ _ (by omega), wr_y _ _ _ _ _ (by omega), wr_y _ _ _ _ _ (by omega), y1 0 0 7 (by omega)]; exact n7
    rw [e4, e6, e7]
    have hA : rl n (wr (wr (wr Y 0 0 12 (Y 0 0 12 + 1)) 4 0 2 (Y 4 0 2 + 1)) 5 r 5 (Y 5 r 5 + 1)) (wr (wr (wr Z 0 0 12 (Y 0 0 12 + 1)) 11 0 15 (Y 4 0 2 + 1)) 5 r 5 (Y 5 r 5 + 1)) := (h1.we 2 _).w5 r 5 _
    have em1 : (sCrash r (wr Y 0 0 12 (Y 0 0 12 + 1))) 3 0 4 = nI m0 := by
      unfold sCrash
      try dsimp only
      split <;> (simp only [wr_rd]; simp; exact em)
    have cY : ∀ K j i, ¬ (K = 0 ∧ j = 0 ∧ i = 12) → wr Y 0 0 12 (Y 0 0 12 + 1) K j i = Y K j i := fun K j i q => wr_y _ _ _ _ _ q
    unfold hX11_goes_90
    by_cases g : Y 5 r 4 = 0
    · rw [if_pos g]
      have ec : sCrash r (wr Y 0 0 12 (Y 0 0 12 + 1)) = wr (wr (wr Y 0 0 12 (Y 0 0 12 + 1)) 4 0 2 (Y 4 0 2 + 1)) 5 r 5 (Y 5 r 5 + 1) := by
        unfold sCrash
        try dsimp only
        rw [cY 5 r 4 (by omega), if_neg (fun q => q.1 g), cY 4 0 2 (by omega), cY 5 r 5 (by omega)]
      rw [ec] at em1 ho ⊢
      exact boots 2 _ _ ho hA em1
    · rw [if_neg g]
      by_cases g2 : Y 5 r 5 + 1 < Y 0 0 6
      · rw [if_pos g2]
        have ec : sCrash r (wr Y 0 0 12 (Y 0 0 12 + 1)) = wr (wr (wr Y 0 0 12 (Y 0 0 12 + 1)) 4 0 2 (Y 4 0 2 + 1)) 5 r 5 (Y 5 r 5 + 1) := by
          unfold sCrash
          try dsimp only
          rw [cY 0 0 6 (by omega), cY 5 r 5 (by omega), if_neg (fun q => pu_nle.mpr g2 q.2), cY 4 0 2 (by omega)]
        rw [ec] at em1 ho ⊢
        exact boots 2 _ _ ho hA em1
      · rw [if_neg g2]
        have ec : sCrash r (wr Y 0 0 12 (Y 0 0 12 + 1)) = wr (wr (wr (wr (wr (wr Y 0 0 12 (Y 0 0 12 + 1)) 4 0 2 (Y 4 0 2 + 1)) 5 r 5 (Y 5 r 5 + 1)) 5 r 4 0) 5 r 3 (Y 0 0 7)) 5 r 5 0 := by
          unfold sCrash
          try dsimp only
          rw [cY 5 r 4 (by omega), cY 0 0 6 (by omega), cY 5 r 5 (by omega), if_pos ⟨g, pu_nlt.mp g2⟩, cY 4 0 2 (by omega), cY 0 0 7 (by omega)]
        rw [ec] at em1 ho ⊢
        exact boots 2 _ _ ho (((hA.w5 r 4 _).w5 r 3 _).w5 r 5 _) em1
  · rw [if_neg a1]
    by_cases a2 : Y 0 0 12 + 1 = Y 6 r 2
    · rw [if_pos a2]
      have eo : sOlder r Y = (-1, sSucc r (wr Y 0 0 12 (Y 0 0 12 + 1))) := by unfold sOlder; try dsimp only; rw [if_neg a1, if_pos a2]
      rw [eo] at ho ⊢
      try dsimp only at ho ⊢
      rw [if_pos rfl]
      have cY : ∀ K j i, ¬ (K = 0 ∧ j = 0 ∧ i = 12) → wr Y 0 0 12 (Y 0 0 12 + 1) K j i = Y K j i := fun K j i q => wr_y _ _ _ _ _ q
      generalize hY1 : wr Y 0 0 12 (Y 0 0 12 + 1) = Y1 at *
      generalize hZ1 : wr Z 0 0 12 (Y 0 0 12 + 1) = Z1 at *
      -- both ways lead to sSucc1
      have fin : ∀ Z2 : pY, rl n (sSucc1 r Y1) (wr (wr Z2 5 r 4 1) 5 r 5 0) → Z2 0 0 11 = nI r → Z2 0 0 12 = Y1 0 0 12 → Z2 0 0 10 = Z 0 0 10 → ∃ Z', hX11_goes_145 B r X Z2 = some (0, X, Z') ∧ rl n (sSucc r Y1) Z' ∧ rs (sSucc r Y1) Z' := by
        intro Z2 g0 z11 z12 z10
        have sl : ∀ k, k < 6 → wS (sSucc1 r Y1) k := fun k hk => by
          have := ho.sl k hk
          have q5 : ∀ j i, sSucc r Y1 5 j i = sSucc1 r Y1 5 j i := fun j i => by unfold sSucc; exact wr_y _ _ _ _ _ (by omega)
          have q6 : ∀ j i, sSucc r Y1 6 j i = sSucc1 r Y1 6 j i := fun j i => by unfold sSucc; exact wr_y _ _ _ _ _ (by omega)
          unfold wS at this
          unfold wS
          simp only [q5, q6] at this
          exact this
        have hi : ∀ k, n ≤ k → k < 6 → (sSucc1 r Y1) 6 k 0 = 0 := fun k a b => by
          have := (ho.hi k a b).1
          unfold sSucc at this
          rwa [wr_y _ _ _ _ _ (by omega)] at this
        have hg : ¬ (sSucc1 r Y1) 5 r 4 = 0 := by
          unfold sSucc1
          rw [wr_y _ _ _ _ _ (by omega)]
          by_cases q : Y1 5 r 4 = 0
          · rw [if_pos q, wr_y _ _ _ _ _ (by omega), wr_y _ _ _ _ _ (by omega), wr_y _ _ _ _ _ (by omega), wr_s]; decide
          · rw [if_neg q]; exact q
        have hne : ¬ (sSucc1 r Y1) 6 r 0 = 0 := fun q => hg ((sl r hr6).2.2.2.2.2.2.2.2.2 q).2.2.1
        have hf := hq_floor (X := X) h6 sl hi g0 hr
        rw [if_neg hne, sFloor_good hr6 hg] at hf
        refine ⟨wr (wr (wr Z2 5 r 4 1) 5 r 5 0) 0 0 8 (sFloorBy (-1) (sSucc1 r Y1)), ?_, ?_, ?_⟩
        · unfold hX11_goes_145
          rw [wr_y _ _ _ _ _ (by omega), wr_y _ _ _ _ _ (by omega), z11, hf]
          rfl
        · exact g0.w0 8 _ (by omega) (by omega)
        · have q1 : ∀ i, 9 ≤ i → sSucc r Y1 0 0 i = Y1 0 0 i := fun i hi => by
            unfold sSucc sSucc1
            rw [wr_y _ _ _ _ _ (by omega), wr_y _ _ _ _ _ (by omega)]
            split
            · rw [wr_y _ _ _ _ _ (by omega), wr_y _ _ _ _ _ (by omega), wr_y _ _ _ _ _ (by omega), wr_y _ _ _ _ _ (by omega)]
            · rfl
          have q2 : ∀ i, 9 ≤ i → wr (wr (wr Z2 5 r 4 1) 5 r 5 0) 0 0 8 (sFloorBy (-1) (sSucc1 r Y1)) 0 0 i = Z2 0 0 i := fun i hi => by
            rw [wr_y _ _ _ _ _ (by omega), wr_y _ _ _ _ _ (by omega), wr_y _ _ _ _ _ (by omega)]
          refine ⟨?_, ?_, ?_⟩
          · rw [q2 11 (by omega), q1 11 (by omega), z11, ← hY1, wr_y _ _ _ _ _ (by omega)]; exact er.symm
          · rw [q2 12 (by omega), q1 12 (by omega), z12]
          · rw [q2 10 (by omega), z10, s3]
            unfold sSt
            rw [q1 10 (by omega), q1 11 (by omega), ← hY1, wr_y _ _ _ _ _ (by omega), wr_y _ _ _ _ _ (by omega)]
      have z11 : Z1 0 0 11 = nI r := by rw [← hZ1, wr_y _ _ _ _ _ (by omega), s1]; exact er
      have z12 : Z1 0 0 12 = Y1 0 0 12 := by rw [← hZ1, ← hY1, wr_s, wr_s]
      have z10 : Z1 0 0 10 = Z 0 0 10 := by rw [← hZ1, wr_y _ _ _ _ _ (by omega)]
      rw [y1 5 r 4 (by omega), f4]
      by_cases g : Y 5 r 4 = 0
      · rw [if_pos g]
        have e8 : (wr Z1 5 r 3 0) 5 r 8 = Y 5 r 8 := by rw [wr_y _ _ _ _ _ (by omega), y1 5 r 8 (by omega)]; exact f8
        have e17 : (wr (wr Z1 5 r 3 0) 5 r 8 (Y 5 r 8 + 1)) 11 0 17 = Y 4 0 4 := by rw [wr_y _ _ _ _ _ (by omega), wr_y _ _ _ _ _ (by omega), y1 11 0 17 (by omega)]; exact c17
        rw [e8, e17]
        refine fin _ ?_ (by rw [wr_y _ _ _ _ _ (by omega), wr_y _ _ _ _ _ (by omega), wr_y _ _ _ _ _ (by omega)]; exact z11) (by rw [wr_y _ _ _ _ _ (by omega), wr_y _ _ _ _ _ (by omega), wr_y _ _ _ _ _ (by omega)]; exact z12) (by rw [wr_y _ _ _ _ _ (by omega), wr_y _ _ _ _ _ (by omega), wr_y _ _ _ _ _ (by omega)]; exact z10)
        have hB3 := ((((h1.w5 r 3 0).w5 r 8 (Y 5 r 8 + 1)).we 4 (Y 4 0 4 + 1)).w5 r 4 1).w5 r 5 0
        have ee : sSucc1 r Y1 = wr (wr (wr (wr (wr Y1 5 r 3 0) 5 r 8 (Y 5 r 8 + 1)) 4 0 4 (Y 4 0 4 + 1)) 5 r 4 1) 5 r 5 0 := by
          unfold sSucc1
          rw [cY 5 r 4 (by omega), if_pos g, cY 5 r 8 (by omega), cY 4 0 4 (by omega)]
          rw [wr_sw (wr (wr Y1 5 r 3 0) 5 r 8 (Y 5 r 8 + 1)) (a := 4) (b := 0) (c := 4) (a' := 5) (b' := r) (c' := 4) (by omega), wr_sw (wr Y1 5 r 3 0) (a := 5) (b := r) (c := 8) (a' := 5) (b' := r) (c' := 4) (by omega), wr_sw Y1 (a := 5) (b := r) (c := 3) (a' := 5) (b' := r) (c' := 4) (by omega)]
        rw [ee]
        exact hB3
      · rw [if_neg g]
        have g1 : Y 5 r 4 = 1 := ((hw.sl r hr6).2.2.2.1).resolve_left g
        refine fin _ ?_ z11 z12 z10
        have ee : sSucc1 r Y1 = wr (wr Y1 5 r 4 1) 5 r 5 0 := by
          unfold sSucc1
          rw [cY 5 r 4 (by omega), if_neg g, wr_id Y1 (a := 5) (b := r) (c := 4) (by rw [cY 5 r 4 (by omega)]; exact g1)]
        rw [ee]
        exact (h1.w5 r 4 1).w5 r 5 0
    · rw [if_neg a2]
      have hrs : rs (wr Y 0 0 12 (Y 0 0 12 + 1)) (wr Z 0 0 12 (Y 0 0 12 + 1)) := by
        refine ⟨by rw [wr_y _ _ _ _ _ (by omega), wr_y _ _ _ _ _ (by omega)]; exact s1, by rw [wr_s, wr_s], ?_⟩
        rw [wr_y _ _ _ _ _ (by omega), s3]
        unfold sSt
        rw [wr_y _ _ _ _ _ (by omega), wr_y _ _ _ _ _ (by omega)]
      rw [y1 5 r 4 (by omega), f4]
      by_cases a3 : Y 0 0 12 + 1 = Y 0 0 5
      · rw [if_pos a3]
        by_cases g : Y 5 r 4 = 0
        · rw [if_pos g]
          have eo : sOlder r Y = (3, wr (wr Y 0 0 12 (Y 0 0 12 + 1)) 4 0 3 (Y 4 0 3 + 1)) := by unfold sOlder; try dsimp only; rw [if_neg a1, if_neg a2, if_pos ⟨a3, g⟩]
          rw [eo] at ho ⊢
          try dsimp only at ho ⊢
          rw [if_neg (show ¬ (3 : Int32) = -1 by decide), y1 11 0 16 (by omega), c16]
          exact boots 3 _ _ ho (h1.we 3 _) (by rw [wr_y _ _ _ _ _ (by omega), wr_y _ _ _ _ _ (by omega)]; exact em)
        · rw [if_neg g]
          have eo : sOlder r Y = (-1, wr Y 0 0 12 (Y 0 0 12 + 1)) := by unfold sOlder; try dsimp only; rw [if_neg a1, if_neg a2, if_neg (fun q => g q.2)]
          rw [eo]
          try dsimp only
          rw [if_pos rfl]
          exact ⟨_, rfl, h1, hrs⟩
      · rw [if_neg a3]
        have eo : sOlder r Y = (-1, wr Y 0 0 12 (Y 0 0 12 + 1)) := by unfold sOlder; try dsimp only; rw [if_neg a1, if_neg a2, if_neg (fun q => a3 q.1)]
        rw [eo]
        try dsimp only
        rw [if_pos rfl]
        exact ⟨_, rfl, h1, hrs⟩
