theorem Inv.one {J : Nat} {X : bsX} (h : Inv J X) {s : Int32} (e : fX8_requireSlot s X = some (0, 0, X)) : X 14 0 0 1 = 1 := by
  rcases h.req with ⟨_, e1, _⟩ | ⟨e1, _⟩
  · exfalso
    unfold fX8_requireSlot at e
    rw [e1] at e
    have z : (1 : Nat) = 0 := congrArg Prod.fst (Option.some.inj e)
    exact absurd z (by decide)
  · exact e1
theorem sim_mayHold_ok : sim_mayHold Inv := by
  intro j X a hj h
  have c10 : ¬ (1 : Int32) = 0 := by decide
  refine tell1 (s := a) h ?_ ?_ ?_
  · intro e he q; unfold fX8_mayHold; rw [q]; simp only [Option.bind_some, he, if_false]
  · intro v q; unfold fX9_mayHold; rw [q]; simp only [Option.bind_some, c10, if_false]
  · intro k n t Q hs e1 e2 hk hk6 hw hth ht hQ
    subst hs
    have hs := hw.sl k hk6
    have hh : fX9_has (nI k) (ro (th X 0) (enc (X 0))) = some (b2 (decide (X 0 6 k 0 ≠ 0)), ro (th X 0) (enc (X 0))) := q9_has hk6 hs.1
    have hg : fX9_isGood (nI k) (ro (th X 0) (enc (X 0))) = some (b2 (decide (X 0 5 k 4 ≠ 0)), ro (th X 0) (enc (X 0))) := q9_good hk6 hs.2.2.2.1
    have o9 : fX9_of (nI k) 9 (ro (th X 0) (enc (X 0))) = some (X 0 6 k 2, ro (th X 0) (enc (X 0))) := q9_of9 hk6 _ _ _ _ _
    have o10 : fX9_of (nI k) 10 (ro (th X 0) (enc (X 0))) = some (X 0 6 k 3, ro (th X 0) (enc (X 0))) := q9_of10 hk6 _ _ _ _ _
    have r2 : ro (th X 0) (enc (X 0)) 14 1 0 2 = X 0 0 0 5 := by rw [ro_rd]; rfl
    rw [← hth] at hh hg o9 o10 r2
    refine ⟨b2 (decide (X 0 6 k 0 ≠ 0 ∧ (X 0 6 k 3 = 0 ∨ X 0 6 k 2 < X 0 6 k 3) ∧ (X 0 5 k 4 ≠ 0 ∨ X 0 6 k 2 ≤ X 0 0 0 5))), ?_, ?_⟩
    · unfold fX8_mayHold fX8_mayHold_38 fX8_mayHold_43 fX8_mayHold_78
      rw [e1]
      simp only [Option.bind_some, if_true, pu_inT hk6 (by decide), pu_ix6 hk6, c10, if_false]
      by_cases q1 : X 0 6 k 0 = 0 <;> by_cases q2 : X 0 6 k 3 = 0 <;> by_cases q3 : X 0 6 k 3 ≤ X 0 6 k 2 <;> by_cases q4 : X 0 5 k 4 = 0 <;> by_cases q5 : X 0 0 0 5 < X 0 6 k 2
      all_goals first | have g3 := pu_nlt.mpr q3 | have g3 := pu_nle.mp q3
      all_goals first | have g5 := pu_nle.mpr q5 | have g5 := pu_nlt.mp q5
      all_goals simp [b2_t, b2_f, up_at, up_up, up_id, q1, q2, q3, q4, q5, g3, g5]
    · unfold fX9_mayHold fX9_mayHold_45 fX9_mayHold_69
      rw [e2]
      simp only [Option.bind_some, if_true, hh, hg, o9, o10, r2, bi_2, bx_2]
      by_cases q1 : X 0 6 k 0 = 0 <;> by_cases q2 : X 0 6 k 3 = 0 <;> by_cases q3 : X 0 6 k 3 ≤ X 0 6 k 2 <;> by_cases q4 : X 0 5 k 4 = 0 <;> by_cases q5 : X 0 0 0 5 < X 0 6 k 2
      all_goals first | have g3 := pu_nlt.mpr q3 | have g3 := pu_nle.mp q3
      all_goals first | have g5 := pu_nle.mpr q5 | have g5 := pu_nlt.mp q5
      all_goals simp [b2_t, b2_f, up_at, up_up, up_id, q1, q2, q3, q4, q5, g3, g5, c10]
theorem sim_triesIn_ok : sim_triesIn Inv := by
  intro j X a b hj h
  have n10 : ¬ (1 : Nat) = 0 := by decide
  have n20 : ¬ (2 : Nat) = 0 := by decide
  have n30 : ¬ (3 : Nat) = 0 := by decide
  have c10 : ¬ (1 : Int32) = 0 := by decide
  rcases h.slot a with ⟨e1, e2⟩ | ⟨e1, e2⟩ | ⟨k, n, t, Q, e1, e2, rfl, hkn, hk6, hw, hR, ht, hQ⟩
  · refine ⟨(1, 0, X), (0, th X 1), by unfold fX8_triesIn; rw [e1]; rfl, Or.inr (Or.inl rfl), by unfold fX9_triesIn fX9_triesIn_17; rw [e2]; simp only [Option.bind_some, c10, if_false], th_rd X 1, fun q => absurd (show (1 : Nat) = 0 from q) n10, ((quiet.refl X).thr 1).inv h⟩
  · refine ⟨(2, 0, X), (0, th X 2), by unfold fX8_triesIn; rw [e1]; rfl, Or.inr (Or.inr (Or.inl rfl)), by unfold fX9_triesIn fX9_triesIn_17; rw [e2]; simp only [Option.bind_some, c10, if_false], th_rd X 2, fun q => absurd (show (2 : Nat) = 0 from q) n20, ((quiet.refl X).thr 2).inv h⟩
  · have h1 := h.one e1
    rcases h.look (by omega) b with ⟨l1, l2⟩ | ⟨l1, l2, l3⟩ | ⟨m, n', t', Q', Y, Q2, t2, hm, rfl, l1, l2, l3, hw', hR', ha, hQ', ht', hw2, hs⟩
    · exfalso
      rw [q9_notLoaded (Or.inr h1), h1, if_neg c10] at l2
      have z : (0 : Int32) = 1 := congrArg Prod.fst (Option.some.inj l2)
      exact absurd z (by decide)
    · refine ⟨(3, 0, X), (0, th X 3), ?_, Or.inr (Or.inr (Or.inr rfl)), ?_, th_rd X 3, fun q => absurd (show (3 : Nat) = 0 from q) n30, ((quiet.refl X).thr 3).inv h⟩
      · unfold fX8_triesIn; rw [e1]; simp only [Option.bind_some, if_true, l1, n30, if_false]
      · unfold fX9_triesIn fX9_triesIn_17; rw [e2]; simp only [Option.bind_some, if_true, l3 3 X (by decide), c10, if_false]
    · have hnum := num_up (X := X) (Y := Y) (Z := sSettle m Y) (i := 80 + 13 * k + 2) (m := m) hR' (by omega) hm hQ' hw'
      have hX0 : up X 1 (sSettle m Y) 0 = X 0 := up_ne _ _ (by decide)
      have hns := ns_ok (W := up X 1 (sSettle m Y)) (n := n) (k := k) (by rw [up_ne _ _ (by decide)]; exact h1) (by rw [up_ne _ _ (by decide), hR]; exact hw.sz) hkn hw.hn
      have hen : ∀ W : pY, enc W (80 + 13 * k + 2) = W 5 k 3 := fun W => rw_at (w := 2) hk6 (by decide)
      refine ⟨(0, sSettle m Y 5 k 3, up X 1 (sSettle m Y)), (sTicks m Y 5 k 3, lk (th (up X 1 (sSettle m Y)) 0) Y), ?_, Or.inl rfl, ?_, lk_th (up X 1 (sSettle m Y)) 0 Y, fun _ => ?_, (quiet_lk hR').inv h⟩
      · unfold fX8_triesIn; rw [e1]
        simp only [Option.bind_some, if_true, l1, pu_inT hk6 (by decide), pu_ix6 hk6, up_at, hX0]
      · unfold fX9_triesIn; rw [hns]
        simp only [Option.bind_some, if_true, l3 3 (up X 1 (sSettle m Y)) (by decide)]
        rw [show (2 : Int32) = nI 2 from rfl, rw_adr, hnum, hen]
        rfl
      · exact (hs 5 k 3 (by omega) (by omega)).symm
theorem sim_runsIn_ok : sim_runsIn Inv := by
  intro j X a b hj h
  have n10 : ¬ (1 : Nat) = 0 := by decide
  have n20 : ¬ (2 : Nat) = 0 := by decide
  have n30 : ¬ (3 : Nat) = 0 := by decide
  have c10 : ¬ (1 : Int32) = 0 := by decide
  rcases h.slot a with ⟨e1, e2⟩ | ⟨e1, e2⟩ | ⟨k, n, t, Q, e1, e2, rfl, hkn, hk6, hw, hR, ht, hQ⟩
  · refine ⟨(1, 0, X), (0, th X 1), by unfold fX8_runsIn; rw [e1]; rfl, Or.inr (Or.inl rfl), by unfold fX9_runsIn; rw [e2]; simp only [Option.bind_some, c10, if_false], th_rd X 1, fun q => absurd (show (1 : Nat) = 0 from q) n10, ((quiet.refl X).thr 1).inv h⟩
  · refine ⟨(2, 0, X), (0, th X 2), by unfold fX8_runsIn; rw [e1]; rfl, Or.inr (Or.inr (Or.inl rfl)), by unfold fX9_runsIn; rw [e2]; simp only [Option.bind_some, c10, if_false], th_rd X 2, fun q => absurd (show (2 : Nat) = 0 from q) n20, ((quiet.refl X).thr 2).inv h⟩
  · have h1 := h.one e1
    rcases h.look (by omega) b with ⟨l1, l2⟩ | ⟨l1, l2, l3⟩ | ⟨m, n', t', Q', Y, Q2, t2, hm, rfl, l1, l2, l3, hw', hR', ha, hQ', ht', hw2, hs⟩
    · exfalso
      rw [q9_notLoaded (Or.inr h1), h1, if_neg c10] at l2
      have z : (0 : Int32) = 1 := congrArg Prod.fst (Option.some.inj l2)
      exact absurd z (by decide)
    · refine ⟨(3, 0, X), (0, th X 3), ?_, Or.inr (Or.inr (Or.inr rfl)), ?_, th_rd X 3, fun q => absurd (show (3 : Nat) = 0 from q) n30, ((quiet.refl X).thr 3).inv h⟩
      · unfold fX8_runsIn; rw [e1]; simp only [Option.bind_some, if_true, l1, n30, if_false]
      · unfold fX9_runsIn; rw [e2]; simp only [Option.bind_some, if_true, l3 3 X (by decide), c10, if_false]
    · have hnum := num_up (X := X) (Y := Y) (Z := sSettle m Y) (i := 80 + 13 * k + 5) (m := m) hR' (by omega) hm hQ' hw'
      have hX0 : up X 1 (sSettle m Y) 0 = X 0 := up_ne _ _ (by decide)
      have hns := ns_ok (W := up X 1 (sSettle m Y)) (n := n) (k := k) (by rw [up_ne _ _ (by decide)]; exact h1) (by rw [up_ne _ _ (by decide), hR]; exact hw.sz) hkn hw.hn
      have hen : ∀ W : pY, enc W (80 + 13 * k + 5) = W 5 k 6 := fun W => rw_at (w := 5) hk6 (by decide)
      refine ⟨(0, sSettle m Y 5 k 6 - X 0 5 k 6, up X 1 (sSettle m Y)), (sTicks m Y 5 k 6 - Y 5 k 6, lk (th (up X 1 (sSettle m Y)) 0) Y), ?_, Or.inl rfl, ?_, lk_th (up X 1 (sSettle m Y)) 0 Y, fun _ => ?_, (quiet_lk hR').inv h⟩
      · unfold fX8_runsIn; rw [e1]
        simp only [Option.bind_some, if_true, l1, pu_inT hk6 (by decide), pu_ix6 hk6, up_at, hX0]
      · unfold fX9_runsIn; rw [hns]
        simp only [Option.bind_some, if_true, l3 3 (up X 1 (sSettle m Y)) (by decide)]
        rw [show (5 : Int32) = nI 5 from rfl, rw_adr, hnum, hen]
        have ho : fX9_of (nI k) (nI 5) (lk (th (up X 1 (sSettle m Y)) 0) Y) = some (Y 5 k 6, lk (th (up X 1 (sSettle m Y)) 0) Y) := q9_of5 hk6 _ _ _ _ _
        simp only [Option.bind_some, ho]
      · show sSettle m Y 5 k 6 - X 0 5 k 6 = sTicks m Y 5 k 6 - Y 5 k 6
        rw [hs 5 k 6 (by omega) (by omega), ha 5 k 6 (by unfold real; omega)]
