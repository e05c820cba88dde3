/-! A TICK in the reference is a tick -/
theorem wm.st {Q n t : Nat} {Y : pY} (h : wm Q n t Y) : (sSt Y = 2 ↔ sResc Y = true) ∧ (sSt Y = 1 ↔ (sRun Y).isSome = true) ∧ (sSt Y = 0 ↔ Y 0 0 10 = 0) := by
  have c1 : ¬ (0 : Int32) = 2 := by decide
  have c2 : ¬ (0 : Int32) = 1 := by decide
  have c3 : ¬ (2 : Int32) = 1 := by decide
  have c4 : ¬ (2 : Int32) = 0 := by decide
  have c5 : ¬ (1 : Int32) = 2 := by decide
  have c6 : ¬ (1 : Int32) = 0 := by decide
  have h6 := h.hn
  rcases h.hrun with ⟨e, er⟩ | ⟨r, hr, e, er, hon, _⟩
  · unfold sSt sResc
    rw [e, er]
    by_cases ho : Y 0 0 10 = 0 <;> simp [b2_t, b2_f, up_at, up_up, up_id, ho, c1, c2, c3, c4]
  · have hm := pu_m1 r (by omega)
    unfold sSt sResc
    rw [e, er, hon]
    simp [b2_t, b2_f, up_at, up_up, up_id, hm, c5, c6]
theorem enc_any {Y Z : pY} (h : ∀ a b c, row Y a b c = row Z a b c) (h1 : Y 0 0 10 = Z 0 0 10) (h2 : Y 0 0 11 = Z 0 0 11) (h3 : Y 0 0 12 = Z 0 0 12) : enc Y = enc Z := by
  have : sSt Y = sSt Z := by unfold sSt; rw [h1, h2]
  unfold enc; rw [this, h2, h3, h]
theorem wm.pris {Q n t : Nat} {Y : pY} (h : wm Q n t Y) : pris n Y :=
  ⟨h.hn, h.sz, fun k hk => (h.sl k hk).2.2.2.2.1, fun k h1 hk => ((h.sl k hk).2.2.2.2.2.2.2.2.2 (h.hi k h1 hk).1).1⟩
theorem sTake_N {z : Nat} {Y : pY} {i : Nat} : sTake z Y 0 0 i = Y 0 0 i := by
  unfold sTake
  rw [sStop_rd (by decide) (by decide)]
  simp [b2_t, b2_f, up_at, up_up, up_id, wr_rd, sImg]
  rw [sRoom_else (by omega)]
theorem q9_tick2 {Q n t : Nat} (hQ : Q + 1 < 1000000) {X : bsX} {Y : pY} (h : wm Q n t Y) : fX9_ticks_54 (ro X (enc Y)) = some (ro X (enc (sTick2 Y))) := by
  have h6 := h.hn
  have hst := h.st
  unfold fX9_ticks_54
  unfold enc
  simp only [bi_6, bx_6, rw_rd6, if_true]
  unfold sTick2
  by_cases h1 : Y 0 0 10 = 0
  · rw [if_pos (hst.2.2.mpr h1), if_pos h1]
  · rw [if_neg (fun q => h1 (hst.2.2.mp q)), if_neg h1, q9_hasI]
    simp only [Option.bind_some]
    rcases h.ins with hi | ⟨z, hz, hi⟩
    · have e : (-1 : Int32) < 0 := by decide
      simp [b2_t, b2_f, up_at, up_up, up_id, hi, e]
    · obtain ⟨ht, hl, i3, i0, i4, i5, j1, j2, j3, hon, hz0, hrz⟩ := hi
      have hz6 : z < 6 := by omega
      have hne : ¬ nI z = -1 := pu_m1 z (by omega)
      have hne2 : Y 2 0 1 ≠ -1 := by rw [ht]; exact hne
      obtain ⟨m, hm1, hm2, hm3⟩ := hl
      have hm4 : Y 2 0 2 - 1 = nI (m - 1) := by rw [hm3, ← pu_sub _ _ hm1]; rfl
      have c10 : ¬ (1 : Int32) = 0 := by decide
      have hb1 : b2 (decide (Y 2 0 1 ≠ -1)) = 1 := by rw [decide_eq_true hne2]; rfl
      have e21 : (if wr Y 2 0 2 (nI (m - 1)) 2 0 1 = -1 then -1 else wr Y 2 0 2 (nI (m - 1)) 2 0 2) = nI (m - 1) := by
        have : wr Y 2 0 2 (nI (m - 1)) 2 0 1 = Y 2 0 1 := by simp [b2_t, b2_f, up_at, up_up, up_id, wr_rd]
        rw [this, if_neg hne2]; simp [b2_t, b2_f, up_at, up_up, up_id, wr_rd]
      rw [hb1, if_neg c10]
      simp only [bi_21, bx_21, if_true, rw_rd21, if_neg hne2, rw_wr21 _ _ _ _ _ _ hne2, hm4, e21]
      rw [ht]
      simp only [pu_lt0 hz6, if_false, pu_ix6 hz6]
      by_cases hp : 0 < nI (m - 1)
      · have hp2 : ¬ nI (m - 1) = 0 := fun e => by rw [e] at hp; exact absurd hp (by decide)
        rw [if_neg hp2, if_pos hp]
        congr 2
      · have hm0 : m - 1 = 0 := by
          rcases Nat.eq_zero_or_pos (m - 1) with q | q
          · exact q
          · exact absurd ((pu_lt 0 (m - 1) (by omega) (by decide)).mpr q) hp
        have hp2 : nI (m - 1) = 0 := by rw [hm0]; rfl
        rw [if_pos hp2, if_neg hp]
        have hpr : pris n (wr Y 2 0 2 (nI (m - 1))) := by have := h.pris; unfold pris at *; simpa [b2_t, b2_f, up_at, up_up, up_id, wr_rd] using this
        have hsl : ∀ k, k < 6 → wS (wr Y 2 0 2 (nI (m - 1))) k := fun q hq => by simpa [b2_t, b2_f, up_at, up_up, up_id, wS, wr_rd] using h.sl q hq
        have hw1 : wm Q n t (sTake z (wr Y 2 0 2 (nI (m - 1)))) := by
          refine wm_take h.hn (by simpa [b2_t, b2_f, up_at, up_up, up_id, wr_rd] using h.sz) hsl (by simpa [b2_t, b2_f, up_at, up_up, up_id, wr_rd] using h.hi) (by simpa [b2_t, b2_f, up_at, up_up, up_id, wr_rd] using h.on) ?_ (by simpa [b2_t, b2_f, up_at, up_up, up_id, wr_rd] using h.wat) (by simpa [b2_t, b2_f, up_at, up_up, up_id, wr_rd] using h.lim) (by simpa [b2_t, b2_f, up_at, up_up, up_id, wr_rd] using h.ret) (by simpa [b2_t, b2_f, up_at, up_up, up_id, wr_rd] using h.flo) (by simpa [b2_t, b2_f, up_at, up_up, up_id, wr_rd] using h.tim) (by simpa [b2_t, b2_f, up_at, up_up, up_id, wr_rd] using h.age) (by simpa [b2_t, b2_f, up_at, up_up, up_id, wr_rd] using h.tot) hz (by simpa [b2_t, b2_f, up_at, up_up, up_id, wr_rd] using i3) (by simpa [b2_t, b2_f, up_at, up_up, up_id, wr_rd] using i0) (by simpa [b2_t, b2_f, up_at, up_up, up_id, wr_rd] using i4) (by simpa [b2_t, b2_f, up_at, up_up, up_id, wr_rd] using i5) (by simpa [b2_t, b2_f, up_at, up_up, up_id, wr_rd] using j1) (by simpa [b2_t, b2_f, up_at, up_up, up_id, wr_rd] using j2) (by simpa [b2_t, b2_f, up_at, up_up, up_id, wr_rd] using j3) (by simpa [b2_t, b2_f, up_at, up_up, up_id, wr_rd] using h.log) ?_
          · rcases h.run with e | ⟨r, hr, e1, e2, e3⟩
            · left; simpa [b2_t, b2_f, up_at, up_up, up_id, wr_rd] using e
            · right; exact ⟨r, hr, by simpa [b2_t, b2_f, up_at, up_up, up_id, wr_rd] using e1, by simpa [b2_t, b2_f, up_at, up_up, up_id, wr_rd] using e2, Or.inl (by simpa [b2_t, b2_f, up_at, up_up, up_id, wr_rd] using e3)⟩
          · rw [sGreat_img]
            exact sGreat_room (fun k hk => (hsl k hk).2.2.2.2.1)
        have hw2 : wm Q n t (wr (sTake z (wr Y 2 0 2 (nI (m - 1)))) 4 0 6 (Y 4 0 6 + 1)) := hw1.of (by simp [b2_t, b2_f, up_at, up_up, up_id, wr_rd]) (by simpa [b2_t, b2_f, up_at, up_up, up_id, wr_rd] using hw1.flo) (by simpa [b2_t, b2_f, up_at, up_up, up_id, wr_rd] using hw1.tim) (by simpa [b2_t, b2_f, up_at, up_up, up_id, wr_rd] using hw1.age) (by simpa [b2_t, b2_f, up_at, up_up, up_id, wr_rd] using hw1.tot) (by simp [b2_t, b2_f, up_at, up_up, up_id, wr_rd]) (fun q hq => by simpa [b2_t, b2_f, up_at, up_up, up_id, wS, wr_rd] using hw1.sl q hq) (by simp [b2_t, b2_f, up_at, up_up, up_id, wr_rd]) (fun q h1 h2 => by simpa [b2_t, b2_f, up_at, up_up, up_id, wr_rd] using (hw1.hi q h1 h2).2) (by simp [b2_t, b2_f, up_at, up_up, up_id, wr_rd]) (Nat.le_refl _)
        have e46 : wr Y 2 0 2 (nI (m - 1)) 4 0 6 = Y 4 0 6 := by simp [b2_t, b2_f, up_at, up_up, up_id, wr_rd]
        have hin := q9_installs (X := X) (a := sSt Y) (b := Y 0 0 11) (c := Y 0 0 12) hz (Q := Q) (t := t) (by omega) hpr hsl (by simpa [b2_t, b2_f, up_at, up_up, up_id, wr_rd] using ht) (by simpa [b2_t, b2_f, up_at, up_up, up_id, wr_rd] using i0) (by simpa [b2_t, b2_f, up_at, up_up, up_id, wr_rd] using hz0) (by rw [e46]; exact hw2)
        rw [e46] at hin
        rw [hin]
        simp only [Option.bind_some]
        have eN0 : ∀ i, wr (sTake z (wr Y 2 0 2 (nI (m - 1)))) 4 0 6 (Y 4 0 6 + 1) 0 0 i = Y 0 0 i := by
          intro i; rw [wr_rd, if_neg (by omega), sTake_N, wr_rd, if_neg (by omega)]
        have hs2 : sSt (wr (sTake z (wr Y 2 0 2 (nI (m - 1)))) 4 0 6 (Y 4 0 6 + 1)) = sSt Y := by unfold sSt; rw [eN0, eN0]
        have h2st := hw2.st.1
        rw [hs2] at h2st
        by_cases hr : sSt Y = 2
        · rw [if_pos hr, if_pos (h2st.mp hr)]
          rfl
        · rw [if_neg hr, if_neg (fun q => hr (h2st.mpr q)), hs2, eN0, eN0]
theorem q9_tick {Q n t : Nat} (hQ : Q + 2 < 1000000) {X : bsX} {Y : pY} (h : wm Q n t Y) : fX9_ticks (ro X (enc Y)) = some (ro X (enc (sTick Y))) := by
  have h6 := h.hn
  have h1 := wm_tick1 h
  have hst := h.st
  have e10 : sTick1 Y 0 0 10 = Y 0 0 10 := by unfold sTick1; split <;> simp [b2_t, b2_f, up_at, up_up, up_id, wr_rd]
  have e11 : sTick1 Y 0 0 11 = Y 0 0 11 := by unfold sTick1; split <;> simp [b2_t, b2_f, up_at, up_up, up_id, wr_rd]
  have e12 : sTick1 Y 0 0 12 = Y 0 0 12 := sTick1_age
  have es : sSt (sTick1 Y) = sSt Y := by unfold sSt; rw [e10, e11]
  have erun : sRun (sTick1 Y) = sRun Y := by unfold sRun; rw [e11]
  -- the reference's first two writes
  have hT : ∀ v, (v = 1 ∧ sResc Y = true) ∨ (v = 0 ∧ sResc Y = false) → wr (wr Y 0 0 9 (Y 0 0 9 + 1)) 4 0 5 (Y 4 0 5 + v) = sTick1 Y := by
    intro v hv
    unfold sTick1
    rcases hv with ⟨rfl, e⟩ | ⟨rfl, e⟩
    · rw [e, if_pos rfl]
      funext K j i; simp only [wr_rd]; grind
    · rw [e, if_neg (by decide)]
      have : Y 4 0 5 + 0 = (wr Y 0 0 9 (Y 0 0 9 + 1)) 4 0 5 := by simp [b2_t, b2_f, up_at, up_up, up_id, wr_rd]
      rw [this, wr_self]
  have rest : ∀ v, (v = 1 ∧ sResc Y = true) ∨ (v = 0 ∧ sResc Y = false) → fX9_ticks_34 18 (Y 4 0 5) v (ro X (row (wr Y 0 0 9 (Y 0 0 9 + 1)) (sSt Y) (Y 0 0 11) (Y 0 0 12))) = some (ro X (enc (sTick Y))) := by
    intro v hv
    have hfl : fX9_flag v (ro X (row (wr Y 0 0 9 (Y 0 0 9 + 1)) (sSt Y) (Y 0 0 11) (Y 0 0 12))) = some (v, ro X (row (wr Y 0 0 9 (Y 0 0 9 + 1)) (sSt Y) (Y 0 0 11) (Y 0 0 12))) := by
      unfold fX9_flag
      rcases hv with ⟨rfl, _⟩ | ⟨rfl, _⟩
      · rw [if_neg (by decide)]
      · rw [if_pos rfl]
    have eenc : enc (sTick1 Y) = row (sTick1 Y) (sSt Y) (Y 0 0 11) (Y 0 0 12) := by unfold enc; rw [es, e11, e12]
    unfold fX9_ticks_34
    rw [hfl]
    simp only [Option.bind_some, bi_18, bx_18, bi_6, bx_6, if_true, rw_wr18, rw_rd6, hT v hv]
    rw [← eenc]
    unfold sTick sTickR
    rcases h1.hrun with ⟨e, er⟩ | ⟨r, hr, e, er, hon, hp⟩
    · have : ¬ sSt Y = 1 := fun q => by
        have := hst.2.1.mp q
        rw [← erun, er] at this; cases this
      rw [if_neg this, er]
      exact q9_tick2 (Q := Q) (by omega) h1
    · have hs1 : sSt Y = 1 := hst.2.1.mpr (by rw [← erun, er]; rfl)
      have ha : rng (sTick1 Y 0 0 12) 0 t := by rw [e12]; exact h.age
      rw [if_pos hs1, er, q9_runsOn hr (by omega) h1 ha hp e hon]
      simp only [Option.bind_some]
      have ho := wm_older h1 ha hr hp
      by_cases hc : (sOlder r (sTick1 Y)).1 = -1
      · rw [if_pos hc]
        exact q9_tick2 (Q := Q) (by omega) ho
      · rw [if_neg hc]
        have hc2 : rng (sOlder r (sTick1 Y)).1 0 4 := by rcases sOlder_c (k := r) (Y := sTick1 Y) with q | q; exact absurd q hc; exact q
        exact q9_tick2 (Q := Q + 1) (by omega) (wm_boots (wm_boot0 ho) hc2 (by omega))
  unfold fX9_ticks
  unfold enc
  have e45 : wr Y 0 0 9 (Y 0 0 9 + 1) 4 0 5 = Y 4 0 5 := by simp [b2_t, b2_f, up_at, up_up, up_id, wr_rd]
  simp only [bi_1, bx_1, bi_18, bx_18, bi_6, bx_6, if_true, rw_rd1, rw_wr1, rw_rd6, rw_rd18, e45]
  by_cases hr : sSt Y = 2
  · rw [if_pos hr]
    exact rest 1 (Or.inl ⟨rfl, hst.1.mp hr⟩)
  · rw [if_neg hr]
    refine rest 0 (Or.inr ⟨rfl, ?_⟩)
    cases hx : sResc Y
    · rfl
    · exact absurd (hst.1.mpr hx) hr
