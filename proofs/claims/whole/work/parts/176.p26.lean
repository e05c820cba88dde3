/-! LOOKS AHEAD: the calls, on -/
theorem lay_lk {W : bsX} {Y : pY} (h : W 14 1 0 = enc Y) : fX9_laysAside W = some (lk W Y) := by
  have : (ar W 2 (stK (W 14 2 0) (enc Y) 10)) 14 1 0 = enc Y := by funext d; rw [ar_ne _ _ _ (by decide), h]
  rw [q9_lays, h]
  unfold lk
  conv => lhs; rw [← ro_id (ar W 2 (stK (W 14 2 0) (enc Y) 10)), this]
theorem back_lk {W : bsX} {Y : pY} {S : Nat → Int32} {v : Int32} (hS : r160 S) : fX9_back v (ro (ar W 2 (stK (W 14 2 0) (enc Y) 10)) S) = some (v, lk W Y) := by
  rw [q9_back (enc_160 Y) hS]; rfl
theorem sim.resc {Y Z : pY} (h : sim Y Z) : sResc Y = sResc Z := by
  have e : sRun Y = sRun Z := by unfold sRun; rw [h 0 0 11 (by decide) (by decide)]
  unfold sResc; rw [e, h 0 0 10 (by decide) (by decide)]
theorem wt {X : bsX} {Y Z : pY} (hR : X 14 1 0 = enc Y) : (th (up X 1 Z) 0) 14 1 0 = enc Y := by rw [th_K _ _ (by decide), up_ne _ _ (by decide)]; exact hR
theorem quiet_lk {X : bsX} {Y Z : pY} (hR : X 14 1 0 = enc Y) : quiet X (lk (th (up X 1 Z) 0) Y) := quiet_look hR
theorem enc_7 (Y : pY) : enc Y 7 = Y 0 0 11 := rfl
/-- a call without arguments that tries things out on the trial -/
theorem try0 {f : bsX → Option bsXr} {g : bsX → Option (Int32 × bsX)} {J : Nat} {X : bsX} (hJ : J ≤ 3072) (h : Inv J X)
    (f0 : fX8_requireLoaded X = some (1, 0, X) → f X = some (1, 0, X)) (g0 : fX9_notLoaded X = some (1, th X 1) → g X = some (0, th X 1))
    (hfg : ∀ (n t Q : Nat) (Y : pY), fX8_requireLoaded X = some (0, 0, X) → fX3_copyFrom 1 0 X = some (up X 1 Y) → wm Q n t Y → X 14 1 0 = enc Y → alike Y (X 0) → Q ≤ 30000 → t ≤ 9999 →
      (∀ Z : pY, fX9_notLoaded (up X 1 Z) = some (0, th (up X 1 Z) 0)) → ∃ (a : Int32) (Z : pY), f X = some (0, a, up X 1 Z) ∧ g (up X 1 Z) = some (a, lk (th (up X 1 Z) 0) Y)) :
    ∃ (r : bsXr) (q : Int32 × bsX), f X = some r ∧ (r.1 = 0 ∨ r.1 = 1) ∧ g r.2.2 = some q ∧ q.2 14 0 0 0 = (if r.1 = 1 then (1 : Int32) else (0 : Int32)) ∧ (r.1 = 0 → r.2.1 = q.1) ∧ Inv (J + 1) q.2 := by
  have n10 : ¬ (1 : Nat) = 0 := by decide
  rcases h.req with ⟨e, e1, e2⟩ | ⟨e, e1, e2, n, t, Q, n1, hw, hR, ht, hQ⟩
  · exact ⟨(1, 0, X), (0, th X 1), f0 e1, Or.inr rfl, g0 e2, th_rd X 1, fun q => absurd (show (1 : Nat) = 0 from q) n10, ((quiet.refl X).thr 1).inv h⟩
  · obtain ⟨Y, c1, c2, c3, c4, c5, c6⟩ := Inv.copy hJ hw ht hQ hR
    obtain ⟨a, Z, k1, k2⟩ := hfg n t Q Y e1 c1 c2 c3 c4 c5 c6 (fun Z => nl_up e2 h.1 Z)
    exact ⟨(0, a, up X 1 Z), (a, lk (th (up X 1 Z) 0) Y), k1, Or.inl rfl, k2, lk_th (up X 1 Z) 0 Y, fun _ => rfl, (quiet_lk c3).inv h⟩
theorem sim_rescueIn_ok : sim_rescueIn Inv := by
  intro j X hj h
  have c10 : ¬ (1 : Int32) = 0 := by decide
  refine try0 (by omega) h ?_ ?_ ?_
  · intro e; unfold fX8_rescueIn; rw [e]; rfl
  · intro e; unfold fX9_rescueIn; rw [e]; simp only [Option.bind_some, c10, if_false]
  · intro n t Q Y e1 c1 hw hR ha hQ ht e2
    obtain ⟨Q', t', k1, _, _, _⟩ := qX3_toResc (g := 1) 301 0 bsF Q n t X Y (by omega) (by unfold bsF; omega) (by omega) hw
    refine ⟨(sWhen sResc 301 0 Y).1, (sWhen sResc 301 0 Y).2, ?_, ?_⟩
    · unfold fX8_rescueIn fX3_ticksToRescue
      rw [e1]
      simp only [Option.bind_some, if_true, c1]
      rw [show (0 : Int32) = nI 0 from rfl, k1]
      rfl
    · obtain ⟨Z, k2⟩ := q9_toResc (X := ar (th (up X 1 (sWhen sResc 301 0 Y).2) 0) 2 (stK ((th (up X 1 (sWhen sResc 301 0 Y).2) 0) 14 2 0) (enc Y) 10)) (n := n) 301 0 bsF Q t Y (by omega) (by unfold bsF; omega) (by omega) hw
      unfold fX9_rescueIn fX9_rescueNow
      rw [e2]
      simp only [Option.bind_some, if_true, lay_lk (wt hR)]
      unfold lk at *
      rw [show (0 : Int32) = nI 0 from rfl] at *
      rw [k2]
      simp only [Option.bind_some]
      rw [back_lk (enc_160 Z), rWhen_eq (fun _ _ hs => hs.resc) 301 0 Q t Y (by omega) (by omega) hw]
      rfl
theorem sim_ifBooted_ok : sim_ifBooted Inv := by
  intro j X hj h
  have c10 : ¬ (1 : Int32) = 0 := by decide
  refine try0 (by omega) h ?_ ?_ ?_
  · intro e; unfold fX8_ifBooted; rw [e]; rfl
  · intro e; unfold fX9_ifBooted; rw [e]; simp only [Option.bind_some, c10, if_false]
  · intro n t Q Y e1 c1 hw hR ha hQ ht e2
    have k1 := qX3_bootBy (g := 1) (c := 1) (X := up X 1 Y) (Q := Q) (n := n) (t := t) (by omega) (by rw [up_at]; exact wm_boot0 hw)
    rw [up_at, up_up] at k1
    refine ⟨(sBoots 1 Y).2 0 0 11, (sBoots 1 Y).2, ?_, ?_⟩
    · unfold fX8_ifBooted
      rw [e1]
      simp only [Option.bind_some, if_true, c1, k1, up_at]
    · have k2 := q9_boots (cs := 1) (X := ar (th (up X 1 (sBoots 1 Y).2) 0) 2 (stK ((th (up X 1 (sBoots 1 Y).2) 0) 14 2 0) (enc Y) 10)) (Q := Q) (n := n) (t := t) (a := sSt Y) (b := Y 0 0 11) (c := Y 0 0 12) (by omega) (wm_boot0 hw)
      unfold fX9_ifBooted
      rw [e2]
      simp only [Option.bind_some, if_true, lay_lk (wt hR)]
      unfold lk
      show ((fX9_boots 1 (ro _ (row Y (sSt Y) (Y 0 0 11) (Y 0 0 12)))).bind _) = _
      rw [k2]
      simp only [Option.bind_some, bi_7, bx_7, if_true, ro_rd]
      rw [back_lk (enc_160 _)]
      rfl
theorem sim_givenUpIf_ok : sim_givenUpIf Inv := by
  intro j X hj h
  have c10 : ¬ (1 : Int32) = 0 := by decide
  refine try0 (by omega) h ?_ ?_ ?_
  · intro e; unfold fX8_givenUpIf; rw [e]; rfl
  · intro e; unfold fX9_givenUpIf; rw [e]; simp only [Option.bind_some, c10, if_false]
  · intro n t Q Y e1 c1 hw hR ha hQ ht e2
    have k1 := qX3_bootBy (g := 1) (c := 1) (X := up X 1 Y) (Q := Q) (n := n) (t := t) (by omega) (by rw [up_at]; exact wm_boot0 hw)
    rw [up_at, up_up] at k1
    refine ⟨(sBoots 1 Y).1, (sBoots 1 Y).2, ?_, ?_⟩
    · unfold fX8_givenUpIf
      rw [e1]
      simp only [Option.bind_some, if_true, c1, k1]
    · have k2 := q9_boots (cs := 1) (X := ar (th (up X 1 (sBoots 1 Y).2) 0) 2 (stK ((th (up X 1 (sBoots 1 Y).2) 0) 14 2 0) (enc Y) 10)) (Q := Q) (n := n) (t := t) (a := sSt Y) (b := Y 0 0 11) (c := Y 0 0 12) (by omega) (wm_boot0 hw)
      unfold fX9_givenUpIf
      rw [e2]
      simp only [Option.bind_some, if_true, lay_lk (wt hR)]
      unfold lk
      show ((fX9_boots 1 (ro _ (row Y (sSt Y) (Y 0 0 11) (Y 0 0 12)))).bind _) = _
      rw [k2]
      simp only [Option.bind_some]
      rw [back_lk (enc_160 _)]
      rfl
theorem sim_settlesOn_ok : sim_settlesOn Inv := by
  intro j X hj h
  have c10 : ¬ (1 : Int32) = 0 := by decide
  refine try0 (by omega) h ?_ ?_ ?_
  · intro e; unfold fX8_settlesOn; rw [e]; rfl
  · intro e; unfold fX9_settlesOn; rw [e]; simp only [Option.bind_some, c10, if_false]
  · intro n t Q Y e1 c1 hw hR ha hQ ht e2
    have k1 := qX3_bootBy (g := 1) (c := 1) (X := up X 1 Y) (Q := Q) (n := n) (t := t) (by omega) (by rw [up_at]; exact wm_boot0 hw)
    rw [up_at, up_up] at k1
    have hb := wm_boots (c := 1) (wm_boot0 hw) ⟨1, by omega, by omega, rfl⟩ (by omega)
    obtain ⟨s1, _⟩ := qX3_settle (g := 1) (m := 300) (Q := Q + 1) (n := n) (t := t) (X := up X 1 (sBoots 1 Y).2) (by omega) (by omega) (by rw [up_at]; exact hb)
    rw [up_at, up_up] at s1
    have hs := ticks_settle 300 (Q + 1) t (sBoots 1 Y).2 (by omega) (by omega) hb
    refine ⟨(sSettle 300 (sBoots 1 Y).2) 0 0 11, sSettle 300 (sBoots 1 Y).2, ?_, ?_⟩
    · unfold fX8_settlesOn fX8_bootAndSettle
      rw [e1]
      simp only [Option.bind_some, if_true, c1, k1]
      rw [show (300 : Int32) = nI 300 from rfl, s1]
      simp only [Option.bind_some, up_at]
    · generalize sSettle 300 (sBoots 1 Y).2 = Z at *
      have k2 := q9_boots (cs := 1) (X := ar (th (up X 1 Z) 0) 2 (stK ((th (up X 1 Z) 0) 14 2 0) (enc Y) 10)) (Q := Q) (n := n) (t := t) (a := sSt Y) (b := Y 0 0 11) (c := Y 0 0 12) (by omega) (wm_boot0 hw)
      have k3 := q9_ticksAll (X := ar (th (up X 1 Z) 0) 2 (stK ((th (up X 1 Z) 0) 14 2 0) (enc Y) 10)) (m := 300) (by omega) (Q := Q + 1) (by omega) hb
      unfold fX9_settlesOn fX9_settles
      rw [e2]
      simp only [Option.bind_some, if_true, lay_lk (wt hR)]
      unfold lk
      show (((fX9_boots 1 (ro _ (row Y (sSt Y) (Y 0 0 11) (Y 0 0 12)))).bind _).bind _) = _
      rw [k2]
      simp only [Option.bind_some]
      rw [show (300 : Int32) = nI 300 from rfl, k3]
      simp only [Option.bind_some, bi_7, bx_7, if_true, ro_rd]
      rw [back_lk (enc_160 _)]
      rw [enc_7, hs 0 0 11 (by decide) (by decide)]
      rfl
