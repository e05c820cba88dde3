/-! SLOTS ASKED FOR; LOOKS AHEAD -/
theorem enc_alike {Y Z : pY} (h : alike Y Z) : enc Y = enc Z := by
  have e0 : ∀ i, 4 ≤ i → i ≤ 12 → Y 0 0 i = Z 0 0 i := fun i a b => h 0 0 i (by unfold real; omega)
  have e2 : ∀ i, 1 ≤ i → i ≤ 3 → Y 2 0 i = Z 2 0 i := fun i a b => h 2 0 i (by unfold real; omega)
  have e4 : ∀ i, i ≤ 6 → Y 4 0 i = Z 4 0 i := fun i b => h 4 0 i (by unfold real; omega)
  have e6 : ∀ i, i ≤ 5 → Y 6 6 i = Z 6 6 i := fun i b => h 6 6 i (by unfold real; omega)
  have e3 : Y 3 0 4 = Z 3 0 4 := h 3 0 4 (by unfold real; omega)
  have hN : ∀ d, eN Y d = eN Z d := by
    intro d
    refine eN_cases (P := fun d => eN Y d = eN Z d) (fun m hm => by rw [eN_big hm, eN_big hm]) ?_ ?_ ?_ ?_ ?_ ?_ ?_ ?_ ?_ ?_ ?_ ?_ ?_ ?_ ?_ ?_ ?_ ?_ ?_ ?_ ?_ ?_ ?_ ?_ ?_ ?_ ?_ ?_ ?_ d
    all_goals simp [b2_t, b2_f, up_at, up_up, up_id, eN, e0, e2, e4, e6, e3]
  have hrow : ∀ a b c, row Y a b c = row Z a b c := by
    intro a b c
    funext d
    unfold row
    rw [hN d]
    by_cases d29 : d < 29
    · simp only [d29, if_true]
    · simp only [d29, if_false]
      by_cases d77 : d < 77
      · have hL : eL Y ((d - 29) / 4) ((d - 29) % 4) = eL Z ((d - 29) / 4) ((d - 29) % 4) := by
          unfold eL
          rw [e3]
          by_cases q : (d - 29) / 4 < min (bsIx (Z 3 0 4)) 12
          · rw [if_pos q, if_pos q]
            exact h _ _ _ (by unfold real; omega)
          · rw [if_neg q, if_neg q]
        simp only [d77, if_true, hL]
      · simp only [d77, if_false]
        by_cases d80 : 80 ≤ d ∧ d < 158
        · have hS : eS Y ((d - 80) / 13) ((d - 80) % 13) = eS Z ((d - 80) / 13) ((d - 80) % 13) := by
            have hk : (d - 80) / 13 < 6 := by omega
            generalize (d - 80) / 13 = k at hk
            unfold eS
            split <;> first | exact h _ _ _ (by unfold real; omega) | rfl
          simp only [d80, hS]
        · simp only [d80, if_false]
  have s : sSt Y = sSt Z := by unfold sSt; rw [e0 10 (by omega) (by omega), e0 11 (by omega) (by omega)]
  unfold enc
  rw [s, e0 11 (by omega) (by omega), e0 12 (by omega) (by omega), hrow]
theorem q9_refuse {X : bsX} {v c : Int32} (hc : c ≠ 0) : fX9_refuse v c (th X 0) = some (if v = 0 then (0, th X 0) else (1, th X c)) := by
  unfold fX9_refuse fX9_refuse_16
  have e : bsWr (th X 0) 14 0 0 0 c = th X c := by
    funext a b d e; unfold th bsWr; split <;> rfl
  rw [th_rd, if_pos rfl, e, th_rd]
  by_cases h : v = 0
  · simp [b2_t, b2_f, up_at, up_up, up_id, h, hc]
  · simp [b2_t, b2_f, up_at, up_up, up_id, h, hc]
/-- what slot s is, when it is asked for -/
theorem Inv.slot {J : Nat} {X : bsX} (h : Inv J X) (s : Int32) :
    (fX8_requireSlot s X = some (1, 0, X) ∧ fX9_noSlot s X = some (1, th X 1)) ∨
    (fX8_requireSlot s X = some (2, 0, X) ∧ fX9_noSlot s X = some (1, th X 2)) ∨
    (∃ k n t Q, fX8_requireSlot s X = some (0, 0, X) ∧ fX9_noSlot s X = some (0, th X 0) ∧ s = nI k ∧ k < n ∧ k < 6 ∧ wm Q n t (X 0) ∧ X 14 1 0 = enc (X 0) ∧ t ≤ 9999 ∧ Q ≤ 2 * t + J) := by
  have c10 : ¬ (1 : Int32) = 0 := by decide
  have n10 : ¬ (1 : Nat) = 0 := by decide
  rcases h.req with ⟨e, e1, e2⟩ | ⟨e, e1, e2, n, t, Q, n1, hw, hR, ht, hQ⟩
  · left
    refine ⟨?_, ?_⟩
    · unfold fX8_requireSlot; rw [e1]; rfl
    · unfold fX9_noSlot fX9_noSlot_28; rw [e2]; simp only [Option.bind_some, c10, if_false]
  · right
    have h6 := hw.hn
    have hsz : X 0 0 0 4 = nI n := hw.sz
    have hr0 : th X 0 14 1 0 0 = nI n := by
      rw [th_K _ _ (by decide), hR]; exact hw.sz
    have hsub : nI n - (1 : Int32) = nI (n - 1) := by rw [show (1 : Int32) = nI 1 from rfl, pu_sub _ _ n1]
    have z64 : (0 : Int64) = (0 : Int32).toInt64 := by decide
    have hin : fX9_isSlot s (th X 0) = some (b2 (0 ≤ s ∧ s ≤ nI (n - 1)), th X 0) := by
      unfold fX9_isSlot
      simp only [bi_0, bx_0, if_true, hr0, hsub]
      rw [z64, q9_in]
      simp only [Option.bind_some, b2_01, if_true]
    have hno : fX9_noSlot s X = some (if (0 ≤ s ∧ s ≤ nI (n - 1)) then (0, th X 0) else (1, th X 2)) := by
      unfold fX9_noSlot fX9_noSlot_21 fX9_noSlot_28
      rw [e2]
      simp only [Option.bind_some, if_true, hin]
      by_cases q : 0 ≤ s ∧ s ≤ nI (n - 1)
      · rw [decide_eq_true q, if_pos q, b2_t, if_neg c10, q9_refuse (by decide)]
        simp [b2_t, b2_f, up_at, up_up, up_id]
      · rw [decide_eq_false q, if_neg q, b2_f, if_pos rfl, q9_refuse (by decide)]
        simp [b2_t, b2_f, up_at, up_up, up_id]
    have hre : fX8_requireSlot s X = some (if (0 ≤ s ∧ s ≤ nI (n - 1)) then (0, 0, X) else (2, 0, X)) := by
      unfold fX8_requireSlot
      rw [e1]
      simp only [Option.bind_some, if_true, hsz]
      by_cases q1 : s < 0
      · rw [if_pos q1, if_neg (fun q => absurd q.1 (pu_nle.mpr q1))]
      · have g1 := pu_nlt.mp q1
        obtain ⟨k, hk, rfl⟩ := pu_of g1
        rw [if_neg q1]
        have c6 : ((6 : Int32) ≤ nI k) ↔ 6 ≤ k := pu_le 6 k hk (by decide)
        by_cases q2 : 6 ≤ k
        · rw [if_pos (c6.mpr q2), if_neg (fun q => by have := (pu_le k (n - 1) (by omega) hk).mp q.2; omega)]
        · rw [if_neg (fun q => q2 (c6.mp q))]
          by_cases q3 : k < n
          · rw [if_pos ((pu_lt k n (by omega) hk).mpr q3), if_pos ⟨g1, (pu_le k (n - 1) (by omega) hk).mpr (by omega)⟩]
          · rw [if_neg (fun q => q3 ((pu_lt k n (by omega) hk).mp q)), if_neg (fun q => by have := (pu_le k (n - 1) (by omega) hk).mp q.2; omega)]
    by_cases q : 0 ≤ s ∧ s ≤ nI (n - 1)
    · right
      obtain ⟨k, hk, rfl⟩ := pu_of q.1
      have hk2 := (pu_le k (n - 1) (by omega) hk).mp q.2
      rw [if_pos q] at hno hre
      exact ⟨k, n, t, Q, hre, hno, rfl, by omega, by omega, hw, hR, ht, hQ⟩
    · left
      rw [if_neg q] at hno hre
      exact ⟨hre, hno⟩
theorem sim_whyNot_ok : sim_whyNot Inv := by
  intro j X a hj h
  have c10 : ¬ (1 : Int32) = 0 := by decide
  rcases h.slot a with ⟨e1, e2⟩ | ⟨e1, e2⟩ | ⟨k, n, t, Q, e1, e2, rfl, hk, hk6, hw, hR, ht, hQ⟩
  · refine ⟨(1, 0, X), (0, th X 1), by unfold fX8_whyNot; rw [e1]; rfl, Or.inr (Or.inl rfl), by unfold fX9_whyNot; rw [e2]; rfl, th_rd X 1, fun q => absurd (show (1 : Nat) = 0 from q) (by decide), ((quiet.refl X).thr 1).inv h⟩
  · refine ⟨(2, 0, X), (0, th X 2), by unfold fX8_whyNot; rw [e1]; rfl, Or.inr (Or.inr rfl), by unfold fX9_whyNot; rw [e2]; rfl, th_rd X 2, fun q => absurd (show (2 : Nat) = 0 from q) (by decide), ((quiet.refl X).thr 2).inv h⟩
  · have hr := q9_why hk6 (X := th X 0) (Y := X 0) (a := sSt (X 0)) (b := X 0 0 0 11) (c := X 0 0 0 12) (hw.sl k hk6)
    have hob : fX3_obstacle 0 k X = some (sWhy (X 0) k, X) := by
      unfold fX3_obstacle fX3_obstacle_63 sWhy
      by_cases k0 : X 0 6 k 0 = 0 <;> by_cases k4 : X 0 6 k 4 = 0 <;> by_cases k1 : X 0 6 k 1 < X 0 0 0 8 <;> by_cases k2 : X 0 5 k 2 = 0 <;> by_cases k3 : X 0 5 k 4 = 0 <;> by_cases k5 : 0 < X 0 5 k 3
      all_goals first | have g1 := pu_nle.mpr k1 | have g1 := pu_nlt.mp k1
      all_goals first | have g5 := pu_nle.mpr k5 | have g5 := pu_nlt.mp k5
      all_goals simp [b2_t, b2_f, up_at, up_up, up_id, k0, k1, k2, k3, k4, k5, g1, g5]
    refine ⟨(0, sWhy (X 0) k, X), (sWhy (X 0) k, th X 0), ?_, Or.inl rfl, ?_, th_rd X 0, fun _ => rfl, ((quiet.refl X).thr 0).inv h⟩
    · unfold fX8_whyNot; rw [e1]
      simp only [Option.bind_some, if_true, pu_inT hk6 (by decide), pu_ix6 hk6, hob]
    · unfold fX9_whyNot; rw [e2]
      simp only [Option.bind_some, if_true]
      rw [th_ro X 0 hR]
      show (fX9_whyOf (nI k) (ro (th X 0) (row (X 0) (sSt (X 0)) (X 0 0 0 11) (X 0 0 0 12)))).bind _ = _
      rw [hr]; rfl
/-- a look ahead in the reference: place i behind m ticks -/
theorem q9_numberIn {X : bsX} {Y : pY} {i m n Q t : Nat} (hR : X 14 1 0 = enc Y) (hi : i < 160) (hm : m < 1000) (hQ : Q < 900000) (h : wm Q n t Y) :
    fX9_numberIn (nI i) (nI m) X = some (enc (sTicks m Y) i, ro (ar X 2 (stK (X 14 2 0) (enc Y) 10)) (enc Y)) := by
  have e1 : ar X 2 (stK (X 14 2 0) (X 14 1 0) 10) = ro (ar X 2 (stK (X 14 2 0) (enc Y) 10)) (enc Y) := by
    have : (ar X 2 (stK (X 14 2 0) (enc Y) 10)) 14 1 0 = enc Y := by funext d; rw [ar_ne _ _ _ (by decide), hR]
    rw [hR]
    conv => lhs; rw [← ro_id (ar X 2 (stK (X 14 2 0) (enc Y) 10)), this]
  unfold fX9_numberIn
  rw [q9_lays, e1]
  simp only [Option.bind_some]
  rw [q9_ticksAll hm hQ h]
  simp only [Option.bind_some, pu_inT hi (by decide), if_true, pu_ix i (by omega), ro_rd]
  rw [q9_back (enc_160 Y) (enc_160 _)]
  rfl
theorem Inv.within {X : bsX} {ticks : Int32} :
    (fX8_requireWithin ticks 0 300 X = some (3, 0, X) ∧ ∀ (c : Int32) (Z : bsX), c ≠ 0 → fX9_noTicks ticks c (th Z 0) = some (1, th Z c)) ∨
    ∃ m, m ≤ 300 ∧ ticks = nI m ∧ fX8_requireWithin ticks 0 300 X = some (0, 0, X) ∧ ∀ (c : Int32) (Z : bsX), c ≠ 0 → fX9_noTicks ticks c (th Z 0) = some (0, th Z 0) := by
  have z64 : (0 : Int64) = (0 : Int32).toInt64 := by decide
  have t64 : (300 : Int64) = (300 : Int32).toInt64 := by decide
  have c10 : ¬ (1 : Int32) = 0 := by decide
  have hno : ∀ (c : Int32) (Z : bsX), c ≠ 0 → fX9_noTicks ticks c (th Z 0) = some (if 0 ≤ ticks ∧ ticks ≤ 300 then (0, th Z 0) else (1, th Z c)) := by
    intro c Z hc
    unfold fX9_noTicks fX9_noTicks_18
    rw [z64, t64, q9_in]
    simp only [Option.bind_some]
    by_cases q : 0 ≤ ticks ∧ ticks ≤ 300
    · rw [decide_eq_true q, if_pos q, b2_t, if_neg c10, q9_refuse hc]
      simp [b2_t, b2_f, up_at, up_up, up_id]
    · rw [decide_eq_false q, if_neg q, b2_f, if_pos rfl, q9_refuse hc]
      simp [b2_t, b2_f, up_at, up_up, up_id]
  unfold fX8_requireWithin
  by_cases q1 : ticks < 0
  · left
    rw [if_pos q1]
    exact ⟨rfl, fun c Z hc => by rw [hno c Z hc, if_neg (fun q => absurd q.1 (pu_nle.mpr q1))]⟩
  · have g1 := pu_nlt.mp q1
    rw [if_neg q1]
    by_cases q2 : ticks ≤ 300
    · right
      obtain ⟨m, hm, rfl⟩ := pu_of g1
      rw [if_pos q2]
      exact ⟨m, (pu_le m 300 (by decide) hm).mp q2, rfl, rfl, fun c Z hc => by rw [hno c Z hc, if_pos ⟨g1, q2⟩]⟩
    · left
      rw [if_neg q2]
      exact ⟨rfl, fun c Z hc => by rw [hno c Z hc, if_neg (fun q => q2 q.2)]⟩
