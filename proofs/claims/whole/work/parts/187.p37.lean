theorem sim_newerIn_ok : sim_newerIn Inv := by
  intro j X hj h
  have c10 : ¬ (1 : Int32) = 0 := by decide
  have n10 : ¬ (1 : Nat) = 0 := by decide
  rcases h.req with ⟨e, e1, e2⟩ | ⟨e, e1, e2, n, t, Q, n1, hw, hR, ht, hQ⟩
  · exact ⟨(1, 0, X), (0, th X 1), by unfold fX8_newerIn; rw [e1]; rfl, Or.inr rfl, by unfold fX9_newerIn fX9_newerIn_18; rw [e2]; simp only [Option.bind_some, c10, if_false, th_rd], th_rd X 1, fun q => absurd (show (1 : Nat) = 0 from q) n10, ((quiet.refl X).thr 1).inv h⟩
  · have h6 := hw.hn
    have hst := hw.st
    rcases hw.hrun with ⟨f, er⟩ | ⟨r, hr, f, er, hon, hp⟩
    · have hth := th_ro X 0 hR
      have r6 : th X 0 14 1 0 6 = sSt (X 0) := by rw [hth, ro_rd]; rfl
      have hs1 : ¬ sSt (X 0) = 1 := fun q => by have := hst.2.1.mp q; rw [er] at this; cases this
      have hm : (-1 : Int32) < 0 := by decide
      refine ⟨(0, -1, X), (-1, th X 0), ?_, Or.inl rfl, ?_, th_rd X 0, fun _ => rfl, ((quiet.refl X).thr 0).inv h⟩
      · unfold fX8_newerIn fX3_isRunning; rw [e1]; simp [b2_t, b2_f, up_at, up_up, up_id, f, hm]
      · unfold fX9_newerIn fX9_newerIn_18; rw [e2]
        simp only [Option.bind_some, if_true, bi_6, bx_6, r6, hs1, if_false, th_rd]
    · have hr6 : r < 6 := by omega
      obtain ⟨Y, c1, c2, c3, c4, c5, c6⟩ := Inv.copy (J := j) (by omega) hw ht hQ hR
      have hv0 : sVer (X 0) = X 0 6 r 1 := by unfold sVer; rw [er]
      have hY11 : Y 0 0 11 = X 0 0 0 11 := c4 0 0 11 (by unfold real; omega)
      have hYr : sRun Y = some r := by rw [← er]; unfold sRun; rw [hY11]
      have hvY : sVer Y = X 0 6 r 1 := by
        unfold sVer; rw [hYr]; exact c4 6 r 1 (by unfold real; omega)
      have hrg := (hw.sl r hr6).2.2.2.2.2.2.1
      obtain ⟨Z, k1⟩ := qX8_newer (X := X) (v := X 0 6 r 1) 300 1 bsF Q t Y (by omega) (by unfold bsF; omega) (by omega) c2
      obtain ⟨W, k2⟩ := q9_newer (X := ar (th (up X 1 Z) 0) 2 (stK ((th (up X 1 Z) 0) 14 2 0) (enc Y) 10)) hrg 300 1 bsF Q t Y (by omega) (by unfold bsF; omega) (by omega) c2
      have k3 : fX9_newerNow_2 bsF (X 0 6 r 1) (1 : Int32) (lk (th (up X 1 Z) 0) Y) = some (rNew (X 0 6 r 1) 300 1 Y, ro (ar (th (up X 1 Z) 0) 2 (stK ((th (up X 1 Z) 0) 14 2 0) (enc Y) 10)) (enc W)) := k2
      have k4 : fX8_newerIn_37 bsF (X 0 6 r 1) (1 : Int32) (up X 1 Y) = some (0, sNew (X 0 6 r 1) 300 1 Y, up X 1 Z) := k1
      have e3 := nl_up e2 h.1 Z
      have hst2 := c2.st
      have hs1 : sSt Y = 1 := hst2.2.1.mpr (by rw [hYr]; rfl)
      have r6 : th (up X 1 Z) 0 14 1 0 6 = 1 := by rw [wt c3]; exact hs1
      have r7 : lk (th (up X 1 Z) 0) Y 14 1 0 7 = nI r := by rw [lk_row, enc_7, hY11, f]
      have ho : fX9_of (nI r) 8 (lk (th (up X 1 Z) 0) Y) = some (Y 6 r 1, lk (th (up X 1 Z) 0) Y) := q9_of8 hr6 _ _ _ _ _
      have hy1 : Y 6 r 1 = X 0 6 r 1 := c4 6 r 1 (by unfold real; omega)
      refine ⟨(0, sNew (X 0 6 r 1) 300 1 Y, up X 1 Z), (sNew (X 0 6 r 1) 300 1 Y, lk (th (up X 1 Z) 0) Y), ?_, Or.inl rfl, ?_, lk_th (up X 1 Z) 0 Y, fun _ => rfl, (quiet_lk c3).inv h⟩
      · have hrv := qX3_runVer (g := 0) (X := X) hw
        rw [hv0] at hrv
        unfold fX8_newerIn fX3_isRunning; rw [e1]
        simp only [Option.bind_some, if_true, f, pu_lt0 hr6, pu_le6 hr6, if_false, c10, hrv, c1]
        exact k4
      · unfold fX9_newerIn fX9_newerNow
        rw [e3]
        simp only [Option.bind_some, if_true, bi_6, bx_6, r6, lay_lk (wt c3), bi_7, bx_7, r7, ho, hy1, k3]
        rw [back_lk (enc_160 W), rNew_eq 300 1 Q t Y (by omega) (by omega) c2 (by rw [hvY]; exact Int32.lt_irrefl)]
        rfl
