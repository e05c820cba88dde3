/-! LOOKS AHEAD: the calls -/
theorem qX3_state {g Q n t : Nat} {X : bsX} (h : wm Q n t (X g)) : fX3_state g X = some (sSt (X g), X) := by
  have h6 := h.hn
  have hst := h.st
  unfold fX3_state fX3_isRunning sSt
  by_cases h1 : X g 0 0 10 = 0
  · rw [if_pos h1, if_pos h1]
  · rw [if_neg h1, if_neg h1]
    rcases h.run with e | ⟨r, hr, e, _⟩
    · have hm : (-1 : Int32) < 0 := by decide
      simp [b2_t, b2_f, up_at, up_up, up_id, e, hm]
    · have hr6 : r < 6 := by omega
      simp [b2_t, b2_f, up_at, up_up, up_id, e, pu_lt0 hr6, pu_le6 hr6, pu_m16 hr6]
theorem sim.sst {Y Z : pY} (h : sim Y Z) : sSt Y = sSt Z := by
  unfold sSt; rw [h 0 0 10 (by decide) (by decide), h 0 0 11 (by decide) (by decide)]
theorem nl_up {X : bsX} {v : Int32} {w : Int32} (h : fX9_notLoaded X = some (v, th X w)) (h01 : is01 (X 14 0 0 1)) (Z : pY) : fX9_notLoaded (up X 1 Z) = some (v, th (up X 1 Z) w) := by
  have e : up X 1 Z 14 0 0 1 = X 14 0 0 1 := by rw [up_ne _ _ (by decide)]
  have h1 := q9_notLoaded h01
  have h2 := q9_notLoaded (X := up X 1 Z) (by rw [e]; exact h01)
  rw [h1] at h
  rw [h2, e]
  have c10 : ¬ (1 : Int32) = 0 := by decide
  have k := Option.some.inj h
  have kk : ∀ a b : Int32, th X a = th X b → a = b := fun a b e => by have := congrFun (congrFun (congrFun (congrFun e 14) 0) 0) 0; rwa [th_rd, th_rd] at this
  by_cases q : X 14 0 0 1 = 0
  · rw [if_pos q] at k ⊢
    have k1 := congrArg Prod.fst k
    have k2 := kk _ _ (congrArg Prod.snd k)
    dsimp only at k1
    rw [← k1, ← k2]
  · rw [if_neg q] at k ⊢
    have k1 := congrArg Prod.fst k
    have k2 := kk _ _ (congrArg Prod.snd k)
    dsimp only at k1
    rw [← k1, ← k2]
/-- the trial is made the machine -/
theorem Inv.copy {J : Nat} {X : bsX} (hJ : J ≤ 3072) {n t Q : Nat} (hw : wm Q n t (X 0)) (ht : t ≤ 9999) (hQ : Q ≤ 2 * t + J) (hR : X 14 1 0 = enc (X 0)) :
    ∃ Y, fX3_copyFrom 1 0 X = some (up X 1 Y) ∧ wm Q n t Y ∧ X 14 1 0 = enc Y ∧ alike Y (X 0) ∧ Q ≤ 30000 ∧ t ≤ 9999 := by
  have ha := sCopy_alike (X 0) (X 1)
  exact ⟨sCopy (X 0) (X 1), qX3_copy (by decide) hw, wm_alike hw ha, by rw [hR, enc_alike ha], ha, by omega, ht⟩
theorem Inv.look {J : Nat} {X : bsX} (hJ : J ≤ 3072) (h : Inv J X) (ticks : Int32) :
    (fX8_lookAhead ticks X = some (1, 0, X) ∧ fX9_notLoaded X = some (1, th X 1)) ∨
    (fX8_lookAhead ticks X = some (3, 0, X) ∧ fX9_notLoaded X = some (0, th X 0) ∧ ∀ (c : Int32) (Z : bsX), c ≠ 0 → fX9_noTicks ticks c (th Z 0) = some (1, th Z c)) ∨
    (∃ m n t Q Y Q' t', m ≤ 300 ∧ ticks = nI m ∧ fX8_lookAhead ticks X = some (0, 0, up X 1 (sSettle m Y)) ∧ fX9_notLoaded (up X 1 (sSettle m Y)) = some (0, th (up X 1 (sSettle m Y)) 0) ∧ (∀ (c : Int32) (Z : bsX), c ≠ 0 → fX9_noTicks ticks c (th Z 0) = some (0, th Z 0)) ∧
      wm Q n t Y ∧ X 14 1 0 = enc Y ∧ alike Y (X 0) ∧ Q ≤ 30000 ∧ t ≤ 9999 ∧ wm Q' n t' (sSettle m Y) ∧ sim (sTicks m Y) (sSettle m Y)) := by
  have n30 : ¬ (3 : Nat) = 0 := by decide
  rcases h.req with ⟨e, e1, e2⟩ | ⟨e, e1, e2, n, t, Q, n1, hw, hR, ht, hQ⟩
  · left
    exact ⟨by unfold fX8_lookAhead; rw [e1]; rfl, e2⟩
  · right
    rcases Inv.within (X := X) (ticks := ticks) with ⟨w1, w2⟩ | ⟨m, hm, rfl, w1, w2⟩
    · left
      exact ⟨by unfold fX8_lookAhead; rw [e1]; simp only [Option.bind_some, if_true, w1, n30, if_false], e2, w2⟩
    · right
      obtain ⟨Y, c1, c2, c3, c4, c5, c6⟩ := Inv.copy hJ hw ht hQ hR
      obtain ⟨s1, Q', t', s2, s3, s4, s5, s6⟩ := qX3_settle (g := 1) (m := m) (Q := Q) (n := n) (t := t) (X := up X 1 Y) (by omega) (by omega) (by rw [up_at]; exact c2)
      rw [up_at] at s1 s6
      rw [up_up] at s1
      refine ⟨m, n, t, Q, Y, Q', t', hm, rfl, ?_, nl_up e2 h.1 _, w2, c2, c3, c4, c5, c6, s6, ticks_settle m Q t Y (by omega) (by omega) c2⟩
      unfold fX8_lookAhead
      rw [e1]
      simp only [Option.bind_some, if_true, w1, c1, s1]
/-- behind a look ahead: what was laid aside, and back -/
def lk (X : bsX) (Y : pY) : bsX := ro (ar X 2 (stK (X 14 2 0) (enc Y) 10)) (enc Y)
theorem num_up {X : bsX} {Y Z : pY} {i m n Q t : Nat} (hR : X 14 1 0 = enc Y) (hi : i < 160) (hm : m ≤ 300) (hQ : Q ≤ 30000) (h : wm Q n t Y) :
    fX9_numberIn (nI i) (nI m) (th (up X 1 Z) 0) = some (enc (sTicks m Y) i, lk (th (up X 1 Z) 0) Y) :=
  q9_numberIn (by rw [th_K _ _ (by decide), up_ne _ _ (by decide)]; exact hR) hi (by omega) (by omega) h
theorem quiet_look {X : bsX} {Y Z : pY} (hR : X 14 1 0 = enc Y) : quiet X (lk (th (up X 1 Z) 0) Y) :=
  ((((quiet.refl X).up1 Z).thr 0).lay (enc Y)).row hR.symm
theorem lk_th (X : bsX) (v : Int32) (Y : pY) : lk (th X v) Y 14 0 0 0 = v := by
  unfold lk
  rw [ro_val, if_neg (by omega), ar_val, if_neg (by omega)]
  exact th_rd X v
theorem lk_row (X : bsX) (Y : pY) (i : Nat) : lk X Y 14 1 0 i = enc Y i := ro_rd _ _ _
theorem sim_stateIn_ok : sim_stateIn Inv := by
  intro j X a hj h
  have n10 : ¬ (1 : Nat) = 0 := by decide
  have n30 : ¬ (3 : Nat) = 0 := by decide
  have c10 : ¬ (1 : Int32) = 0 := by decide
  rcases h.look (by omega) a with ⟨e1, e2⟩ | ⟨e1, e2, e3⟩ | ⟨m, n, t, Q, Y, Q', t', hm, rfl, e1, e2, e3, hw, hR, ha, hQ, ht, hw2, hs⟩
  · refine ⟨(1, 0, X), (0, th X 1), ?_, Or.inr (Or.inl rfl), ?_, th_rd X 1, fun q => absurd (show (1 : Nat) = 0 from q) n10, ((quiet.refl X).thr 1).inv h⟩
    · unfold fX8_stateIn; rw [e1]; rfl
    · unfold fX9_stateIn fX9_stateIn_16; rw [e2]; simp only [Option.bind_some, c10, if_false]
  · refine ⟨(3, 0, X), (0, th X 2), ?_, Or.inr (Or.inr rfl), ?_, th_rd X 2, fun q => absurd (show (3 : Nat) = 0 from q) n30, ((quiet.refl X).thr 2).inv h⟩
    · unfold fX8_stateIn; rw [e1]; rfl
    · unfold fX9_stateIn fX9_stateIn_16; rw [e2]; simp only [Option.bind_some, if_true, e3 2 X (by decide), c10, if_false]
  · have hnum := num_up (X := X) (Y := Y) (Z := sSettle m Y) (i := 6) (m := m) hR (by decide) hm hQ hw
    have hX0 : up X 1 (sSettle m Y) 0 = X 0 := up_ne _ _ (by decide)
    refine ⟨(0, sSt (sSettle m Y), up X 1 (sSettle m Y)), (enc (sTicks m Y) 6, lk (th (up X 1 (sSettle m Y)) 0) Y), ?_, Or.inl rfl, ?_, lk_th (up X 1 (sSettle m Y)) 0 Y, fun _ => ?_, (quiet_look hR).inv h⟩
    rotate_left
    · unfold fX9_stateIn; rw [e2]
      simp only [Option.bind_some, if_true, e3 2 (up X 1 (sSettle m Y)) (by decide)]
      rw [show (6 : Int32) = nI 6 from rfl, hnum]
      rfl
    · exact hs.sst.symm
    · unfold fX8_stateIn; rw [e1]
      simp only [Option.bind_some, if_true]
      rw [qX3_state (Q := Q') (n := n) (t := t') (by rw [up_at]; exact hw2), up_at]; rfl
theorem sim_slotIn_ok : sim_slotIn Inv := by
  intro j X a hj h
  have n10 : ¬ (1 : Nat) = 0 := by decide
  have n30 : ¬ (3 : Nat) = 0 := by decide
  have c10 : ¬ (1 : Int32) = 0 := by decide
  rcases h.look (by omega) a with ⟨e1, e2⟩ | ⟨e1, e2, e3⟩ | ⟨m, n, t, Q, Y, Q', t', hm, rfl, e1, e2, e3, hw, hR, ha, hQ, ht, hw2, hs⟩
  · refine ⟨(1, 0, X), (0, th X 1), ?_, Or.inr (Or.inl rfl), ?_, th_rd X 1, fun q => absurd (show (1 : Nat) = 0 from q) n10, ((quiet.refl X).thr 1).inv h⟩
    · unfold fX8_slotIn; rw [e1]; rfl
    · unfold fX9_slotIn fX9_slotIn_16; rw [e2]; simp only [Option.bind_some, c10, if_false]
  · refine ⟨(3, 0, X), (0, th X 2), ?_, Or.inr (Or.inr rfl), ?_, th_rd X 2, fun q => absurd (show (3 : Nat) = 0 from q) n30, ((quiet.refl X).thr 2).inv h⟩
    · unfold fX8_slotIn; rw [e1]; rfl
    · unfold fX9_slotIn fX9_slotIn_16; rw [e2]; simp only [Option.bind_some, if_true, e3 2 X (by decide), c10, if_false]
  · have hnum := num_up (X := X) (Y := Y) (Z := sSettle m Y) (i := 7) (m := m) hR (by decide) hm hQ hw
    have hX0 : up X 1 (sSettle m Y) 0 = X 0 := up_ne _ _ (by decide)
    refine ⟨(0, sSettle m Y 0 0 11, up X 1 (sSettle m Y)), (enc (sTicks m Y) 7, lk (th (up X 1 (sSettle m Y)) 0) Y), ?_, Or.inl rfl, ?_, lk_th (up X 1 (sSettle m Y)) 0 Y, fun _ => ?_, (quiet_look hR).inv h⟩
    rotate_left
    · unfold fX9_slotIn; rw [e2]
      simp only [Option.bind_some, if_true, e3 2 (up X 1 (sSettle m Y)) (by decide)]
      rw [show (7 : Int32) = nI 7 from rfl, hnum]
      rfl
    · exact (hs 0 0 11 (by decide) (by decide)).symm
    · unfold fX8_slotIn; rw [e1]
      simp only [Option.bind_some, if_true, up_at]
theorem sim_floorIn_ok : sim_floorIn Inv := by
  intro j X a hj h
  have n10 : ¬ (1 : Nat) = 0 := by decide
  have n30 : ¬ (3 : Nat) = 0 := by decide
  have c10 : ¬ (1 : Int32) = 0 := by decide
  rcases h.look (by omega) a with ⟨e1, e2⟩ | ⟨e1, e2, e3⟩ | ⟨m, n, t, Q, Y, Q', t', hm, rfl, e1, e2, e3, hw, hR, ha, hQ, ht, hw2, hs⟩
  · refine ⟨(1, 0, X), (0, th X 1), ?_, Or.inr (Or.inl rfl), ?_, th_rd X 1, fun q => absurd (show (1 : Nat) = 0 from q) n10, ((quiet.refl X).thr 1).inv h⟩
    · unfold fX8_floorIn; rw [e1]; rfl
    · unfold fX9_floorIn fX9_floorIn_16; rw [e2]; simp only [Option.bind_some, c10, if_false]
  · refine ⟨(3, 0, X), (0, th X 2), ?_, Or.inr (Or.inr rfl), ?_, th_rd X 2, fun q => absurd (show (3 : Nat) = 0 from q) n30, ((quiet.refl X).thr 2).inv h⟩
    · unfold fX8_floorIn; rw [e1]; rfl
    · unfold fX9_floorIn fX9_floorIn_16; rw [e2]; simp only [Option.bind_some, if_true, e3 2 X (by decide), c10, if_false]
  · have hnum := num_up (X := X) (Y := Y) (Z := sSettle m Y) (i := 5) (m := m) hR (by decide) hm hQ hw
    have hX0 : up X 1 (sSettle m Y) 0 = X 0 := up_ne _ _ (by decide)
    refine ⟨(0, sSettle m Y 0 0 8, up X 1 (sSettle m Y)), (enc (sTicks m Y) 5, lk (th (up X 1 (sSettle m Y)) 0) Y), ?_, Or.inl rfl, ?_, lk_th (up X 1 (sSettle m Y)) 0 Y, fun _ => ?_, (quiet_look hR).inv h⟩
    rotate_left
    · unfold fX9_floorIn; rw [e2]
      simp only [Option.bind_some, if_true, e3 2 (up X 1 (sSettle m Y)) (by decide)]
      rw [show (5 : Int32) = nI 5 from rfl, hnum]
      rfl
    · exact (hs 0 0 8 (by decide) (by decide)).symm
    · unfold fX8_floorIn; rw [e1]
      simp only [Option.bind_some, if_true, up_at]
theorem sim_bootsIn_ok : sim_bootsIn Inv := by
  intro j X a hj h
  have n10 : ¬ (1 : Nat) = 0 := by decide
  have n30 : ¬ (3 : Nat) = 0 := by decide
  have c10 : ¬ (1 : Int32) = 0 := by decide
  rcases h.look (by omega) a with ⟨e1, e2⟩ | ⟨e1, e2, e3⟩ | ⟨m, n, t, Q, Y, Q', t', hm, rfl, e1, e2, e3, hw, hR, ha, hQ, ht, hw2, hs⟩
  · refine ⟨(1, 0, X), (0, th X 1), ?_, Or.inr (Or.inl rfl), ?_, th_rd X 1, fun q => absurd (show (1 : Nat) = 0 from q) n10, ((quiet.refl X).thr 1).inv h⟩
    · unfold fX8_bootsIn; rw [e1]; rfl
    · unfold fX9_bootsIn fX9_bootsIn_16; rw [e2]; simp only [Option.bind_some, c10, if_false]
  · refine ⟨(3, 0, X), (0, th X 2), ?_, Or.inr (Or.inr rfl), ?_, th_rd X 2, fun q => absurd (show (3 : Nat) = 0 from q) n30, ((quiet.refl X).thr 2).inv h⟩
    · unfold fX8_bootsIn; rw [e1]; rfl
    · unfold fX9_bootsIn fX9_bootsIn_16; rw [e2]; simp only [Option.bind_some, if_true, e3 2 X (by decide), c10, if_false]
  · have hnum := num_up (X := X) (Y := Y) (Z := sSettle m Y) (i := 12) (m := m) hR (by decide) hm hQ hw
    have hX0 : up X 1 (sSettle m Y) 0 = X 0 := up_ne _ _ (by decide)
    refine ⟨(0, sSettle m Y 3 0 4 - X 0 3 0 4, up X 1 (sSettle m Y)), (enc (sTicks m Y) 12 - enc Y 12, lk (th (up X 1 (sSettle m Y)) 0) Y), ?_, Or.inl rfl, ?_, lk_th (up X 1 (sSettle m Y)) 0 Y, fun _ => ?_, (quiet_look hR).inv h⟩
    rotate_left
    · unfold fX9_bootsIn; rw [e2]
      simp only [Option.bind_some, if_true, e3 2 (up X 1 (sSettle m Y)) (by decide)]
      rw [show (12 : Int32) = nI 12 from rfl, hnum]
      simp only [Option.bind_some, pu_inT (show 12 < 160 by decide) (by decide), pu_ix 12 (by decide), if_true, lk_row]
    · show sSettle m Y 3 0 4 - X 0 3 0 4 = sTicks m Y 3 0 4 - Y 3 0 4
      rw [hs 3 0 4 (by decide) (by decide), ha 3 0 4 (by unfold real; omega)]
    · unfold fX8_bootsIn; rw [e1]
      simp only [Option.bind_some, if_true, up_at, hX0]
theorem sim_crashesIn_ok : sim_crashesIn Inv := by
  intro j X a hj h
  have n10 : ¬ (1 : Nat) = 0 := by decide
  have n30 : ¬ (3 : Nat) = 0 := by decide
  have c10 : ¬ (1 : Int32) = 0 := by decide
  rcases h.look (by omega) a with ⟨e1, e2⟩ | ⟨e1, e2, e3⟩ | ⟨m, n, t, Q, Y, Q', t', hm, rfl, e1, e2, e3, hw, hR, ha, hQ, ht, hw2, hs⟩
  · refine ⟨(1, 0, X), (0, th X 1), ?_, Or.inr (Or.inl rfl), ?_, th_rd X 1, fun q => absurd (show (1 : Nat) = 0 from q) n10, ((quiet.refl X).thr 1).inv h⟩
    · unfold fX8_crashesIn; rw [e1]; rfl
    · unfold fX9_crashesIn fX9_crashesIn_16; rw [e2]; simp only [Option.bind_some, c10, if_false]
  · refine ⟨(3, 0, X), (0, th X 2), ?_, Or.inr (Or.inr rfl), ?_, th_rd X 2, fun q => absurd (show (3 : Nat) = 0 from q) n30, ((quiet.refl X).thr 2).inv h⟩
    · unfold fX8_crashesIn; rw [e1]; rfl
    · unfold fX9_crashesIn fX9_crashesIn_16; rw [e2]; simp only [Option.bind_some, if_true, e3 2 X (by decide), c10, if_false]
  · have hnum := num_up (X := X) (Y := Y) (Z := sSettle m Y) (i := 15) (m := m) hR (by decide) hm hQ hw
    have hX0 : up X 1 (sSettle m Y) 0 = X 0 := up_ne _ _ (by decide)
    refine ⟨(0, sSettle m Y 4 0 2 - X 0 4 0 2, up X 1 (sSettle m Y)), (enc (sTicks m Y) 15 - enc Y 15, lk (th (up X 1 (sSettle m Y)) 0) Y), ?_, Or.inl rfl, ?_, lk_th (up X 1 (sSettle m Y)) 0 Y, fun _ => ?_, (quiet_look hR).inv h⟩
    rotate_left
    · unfold fX9_crashesIn; rw [e2]
      simp only [Option.bind_some, if_true, e3 2 (up X 1 (sSettle m Y)) (by decide)]
      rw [show (15 : Int32) = nI 15 from rfl, hnum]
      simp only [Option.bind_some, pu_inT (show 15 < 160 by decide) (by decide), pu_ix 15 (by decide), if_true, lk_row]
    · show sSettle m Y 4 0 2 - X 0 4 0 2 = sTicks m Y 4 0 2 - Y 4 0 2
      rw [hs 4 0 2 (by decide) (by decide), ha 4 0 2 (by unfold real; omega)]
    · unfold fX8_crashesIn; rw [e1]
      simp only [Option.bind_some, if_true, up_at, hX0]
