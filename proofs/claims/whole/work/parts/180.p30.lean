theorem sim_weakest_ok : sim_weakest Inv := by
  intro j X hj h
  have c10 : ¬ (1 : Int32) = 0 := by decide
  refine tell0 h ?_ ?_ ?_
  · intro e; unfold fX8_weakest; rw [e]; rfl
  · intro e; unfold fX9_weakest; rw [e]; simp only [Option.bind_some, c10, if_false]
  · intro n t Q e1 e2 n1 hw hth ht hQ
    have h6 := hw.hn
    have h0 := row0 (X := th X 0) (Y := X 0) hw.sz
    obtain ⟨x, k1, k2⟩ := loop2 h6 (fun k (b : Option Nat) => if sBoot (X 0) k = true ∧ X 0 5 k 4 = 0 ∧ (b = none ∨ ∃ q, b = some q ∧ X 0 5 k 3 < X 0 5 q 3) then some k else b) o6
      (fun m k b => fX8_weakest_11 m (oI b) (match b with | none => 8 | some q => X 0 5 q 3) (nI k) X) (fun m k b => fX9_weakest_13 m (oI b) (nI k) (ro (th X 0) (enc (X 0)))) oI X (ro (th X 0) (enc (X 0))) none (by simp [b2_t, b2_f, up_at, up_up, up_id, o6])
      (fun k b hk hb => by
        intro q hq
        split at hq
        · injection hq with hq; omega
        · exact hb q hq)
      (fun k a h1 h2 => by rw [if_neg (fun q => by have this : sBoot (X 0) k = false := hw.nb h1 h2; rw [this] at q; exact absurd q.1 (by decide))])
      (fun m k b hk hb => by
        have hs := hw.sl k hk
        have hv := hs.2.2.2.2.2.1
        have hv8 : ¬ 8 ≤ X 0 5 k 3 := by
          obtain ⟨z, _, z2, z3⟩ := hv
          rw [z3]
          intro e
          have := (pu_le 8 z (by omega) (by decide)).mp e
          omega
        simp only [fX8_weakest_11, fX8_weakest_65, pu_le6 hk, pu_inT hk (by decide), pu_ix6 hk, pu_succ, if_false, if_true, qX3_boot, Option.bind_some]
        cases q0 : sBoot (X 0) k
        · simp [b2_t, b2_f, up_at, up_up, up_id]
        · by_cases q1 : X 0 5 k 4 = 0
          · cases b with
            | none => simp [b2_t, b2_f, up_at, up_up, up_id, q1, hv8, oI]
            | some q =>
              by_cases q2 : X 0 5 q 3 ≤ X 0 5 k 3
              · have := pu_nlt.mpr q2; simp [b2_t, b2_f, up_at, up_up, up_id, q1, q2, this]
              · have := pu_nle.mp q2; simp [b2_t, b2_f, up_at, up_up, up_id, q1, q2, this, oI]
          · simp [b2_t, b2_f, up_at, up_up, up_id, q1])
      (fun m b => by simp only [fX8_weakest_11, pu_66, if_true])
      (fun m k b hk hk6 hb => by
        have hs := hw.sl k hk6
        have hc : fX9_canBoot (nI k) (ro (th X 0) (enc (X 0))) = some (b2 (sBoot (X 0) k), ro (th X 0) (enc (X 0))) := q9_canBoot hk6 hs
        have hg : fX9_isGood (nI k) (ro (th X 0) (enc (X 0))) = some (b2 (decide (X 0 5 k 4 ≠ 0)), ro (th X 0) (enc (X 0))) := q9_good hk6 hs.2.2.2.1
        have ho : ∀ k, k < 6 → fX9_of (nI k) 2 (ro (th X 0) (enc (X 0))) = some (X 0 5 k 3, ro (th X 0) (enc (X 0))) := fun k hk => q9_of2 hk _ _ _ _ _
        simp only [fX9_weakest_13, fX9_weakest_59, fX9_weakest_61, bi_0, bx_0, h0, pu_leN hk h6, if_true, if_false, hc, hg, ho k hk6, Option.bind_some, pu_succ]
        cases q0 : sBoot (X 0) k
        · simp [b2_t, b2_f, up_at, up_up, up_id]
        · by_cases q1 : X 0 5 k 4 = 0
          · cases b with
            | none => simp [b2_t, b2_f, up_at, up_up, up_id, q1, oI]
            | some q =>
              have hq := hb q rfl
              by_cases q2 : X 0 5 q 3 ≤ X 0 5 k 3
              · have := pu_nlt.mpr q2; simp [b2_t, b2_f, up_at, up_up, up_id, q1, q2, this, oI, pu_m16 hq, ho q hq]
              · have := pu_nle.mp q2; simp [b2_t, b2_f, up_at, up_up, up_id, q1, q2, this, oI, pu_m16 hq, ho q hq]
          · simp [b2_t, b2_f, up_at, up_up, up_id, q1])
      (fun m b => by simp only [fX9_weakest_13, bi_0, bx_0, h0, pu_leNN, if_true])
    refine ⟨x, ?_, ?_⟩
    · unfold fX8_weakest; rw [e1]; simp only [Option.bind_some, if_true]; exact k1
    · unfold fX9_weakest; rw [e2]; simp only [Option.bind_some, if_true]
      rw [← hth] at k2; exact k2
theorem sim_highestFloor_ok : sim_highestFloor Inv := by
  intro j X hj h
  have c10 : ¬ (1 : Int32) = 0 := by decide
  refine tell0 h ?_ ?_ ?_
  · intro e; unfold fX8_highestFloor; rw [e]; rfl
  · intro e; unfold fX9_highestFloor; rw [e]; simp only [Option.bind_some, c10, if_false]
  · intro n t Q e1 e2 n1 hw hth ht hQ
    have h6 := hw.hn
    have h0 := row0 (X := th X 0) (Y := X 0) hw.sz
    obtain ⟨x, k1, k2⟩ := loop2 h6 (fun k (x : Int32) => if sBootF 0 (X 0) k = true then bsMax x (X 0 6 k 1) else x) (fun _ => True)
      (fun m k x => fX8_highestFloor_8 m x (nI k) X) (fun m k x => fX9_highestFloor_13 m x (nI k) (ro (th X 0) (enc (X 0)))) (fun x => x) X (ro (th X 0) (enc (X 0))) (-1) trivial (fun _ _ _ _ => trivial)
      (fun k a h1 h2 => by rw [hw.nb h1 h2]; rfl)
      (fun m k x hk _ => by
        simp only [fX8_highestFloor_8, fX8_highestFloor_51, pu_le6 hk, pu_inT hk (by decide), pu_ix6 hk, pu_succ, if_false, if_true, qX5_boot, Option.bind_some]
        cases q0 : sBootF 0 (X 0) k
        · simp [b2_t, b2_f, up_at, up_up, up_id]
        · by_cases q2 : X 0 6 k 1 ≤ x
          · have := pu_nlt.mpr q2; simp [b2_t, b2_f, up_at, up_up, up_id, q2, bsMax, this]
          · have := pu_nle.mp q2; simp [b2_t, b2_f, up_at, up_up, up_id, q2, bsMax, this])
      (fun m x => by simp only [fX8_highestFloor_8, pu_66, if_true])
      (fun m k x hk hk6 _ => by
        have hs := hw.sl k hk6
        have hh : fX9_has (nI k) (ro (th X 0) (enc (X 0))) = some (b2 (decide (X 0 6 k 0 ≠ 0)), ro (th X 0) (enc (X 0))) := q9_has hk6 hs.1
        have hg : fX9_isGood (nI k) (ro (th X 0) (enc (X 0))) = some (b2 (decide (X 0 5 k 4 ≠ 0)), ro (th X 0) (enc (X 0))) := q9_good hk6 hs.2.2.2.1
        have o8 : fX9_of (nI k) 8 (ro (th X 0) (enc (X 0))) = some (X 0 6 k 1, ro (th X 0) (enc (X 0))) := q9_of8 hk6 _ _ _ _ _
        have o11 : fX9_of (nI k) 11 (ro (th X 0) (enc (X 0))) = some (X 0 6 k 4, ro (th X 0) (enc (X 0))) := q9_of11 hk6 _ _ _ _ _
        have o1 : fX9_of (nI k) 1 (ro (th X 0) (enc (X 0))) = some (X 0 5 k 2, ro (th X 0) (enc (X 0))) := q9_of1 hk6 _ _ _ _ _
        have o2 : fX9_of (nI k) 2 (ro (th X 0) (enc (X 0))) = some (X 0 5 k 3, ro (th X 0) (enc (X 0))) := q9_of2 hk6 _ _ _ _ _
        have hv : (0 : Int32) ≤ X 0 6 k 1 := by
          obtain ⟨z, _, z2, z3⟩ := hs.2.2.2.2.2.2.1
          rw [z3]; exact (pu_le 0 z (by omega) (by decide)).mpr (Nat.zero_le _)
        simp only [fX9_highestFloor_13, fX9_highestFloor_71, fX9_highestFloor_67, fX9_highestFloor_72, fX9_highestFloor_92, bi_0, bx_0, h0, pu_leN hk h6, if_true, if_false, hh, hg, o8, o11, o1, o2, Option.bind_some, pu_succ, c10, sBootF]
        by_cases q1 : X 0 6 k 0 = 0
        · simp [b2_t, b2_f, up_at, up_up, up_id, q1]
        · by_cases q2 : X 0 6 k 4 = 0
          · by_cases q3 : X 0 5 k 2 ≤ 0
            · have := pu_nlt.mpr q3; simp [b2_t, b2_f, up_at, up_up, up_id, q1, q2, q3, this]
            · have g3 := pu_nle.mp q3
              by_cases q4 : X 0 5 k 4 = 0
              · by_cases q5 : X 0 5 k 3 ≤ 0
                · have := pu_nlt.mpr q5; simp [b2_t, b2_f, up_at, up_up, up_id, q1, q2, q3, q4, q5, this]
                · have := pu_nle.mp q5; simp [b2_t, b2_f, up_at, up_up, up_id, q1, q2, q3, g3, q4, q5, this, hv]
              · simp [b2_t, b2_f, up_at, up_up, up_id, q1, q2, q3, g3, q4, hv]
          · simp [b2_t, b2_f, up_at, up_up, up_id, q1, q2])
      (fun m x => by simp only [fX9_highestFloor_13, bi_0, bx_0, h0, pu_leNN, if_true])
    refine ⟨x, ?_, ?_⟩
    · unfold fX8_highestFloor; rw [e1]; simp only [Option.bind_some, if_true]; exact k1
    · unfold fX9_highestFloor; rw [e2]; simp only [Option.bind_some, if_true]
      rw [← hth] at k2; exact k2
theorem sim_fallback_ok : sim_fallback Inv := by
  intro j X hj h
  have c10 : ¬ (1 : Int32) = 0 := by decide
  refine tell0 h ?_ ?_ ?_
  · intro e; unfold fX8_fallback; rw [e]; rfl
  · intro e; unfold fX9_fallback fX9_fallback_18; rw [e]; simp only [Option.bind_some, c10, if_false, th_rd]
  · intro n t Q e1 e2 n1 hw hth ht hQ
    have h6 := hw.hn
    have hst := hw.st
    have h0 := row0 (X := th X 0) (Y := X 0) hw.sz
    have r6 : th X 0 14 1 0 6 = sSt (X 0) := by rw [hth, ro_rd]; rfl
    have r7 : ro (th X 0) (enc (X 0)) 14 1 0 7 = X 0 0 0 11 := by rw [ro_rd]; rfl
    obtain ⟨f1, f2⟩ := qX3_firstBut 0 (X 0 0 0 11) X hw.s01
    rcases hw.hrun with ⟨e, er⟩ | ⟨r, hr, e, er, hon, hp⟩
    · refine ⟨-1, ?_, ?_⟩
      · have hm : (-1 : Int32) < 0 := by decide
        unfold fX8_fallback fX3_isRunning; rw [e1]; simp [b2_t, b2_f, up_at, up_up, up_id, e, hm]
      · have hs1 : ¬ sSt (X 0) = 1 := fun q => by have := hst.2.1.mp q; rw [er] at this; cases this
        unfold fX9_fallback fX9_fallback_18; rw [e2]
        simp only [Option.bind_some, if_true, bi_6, bx_6, r6, hs1, if_false, th_rd]
    · have hr6 : r < 6 := by omega
      have hs1 : sSt (X 0) = 1 := hst.2.1.mpr (by rw [er]; rfl)
      refine ⟨oI (sFirstBut (X 0 0 0 11) (X 0)), ?_, ?_⟩
      · unfold fX8_fallback fX3_isRunning; rw [e1]
        simp only [Option.bind_some, if_true, e, pu_lt0 hr6, pu_le6 hr6, if_false, c10]
        rw [← e, f1]; rfl
      · unfold fX9_fallback; rw [e2]
        simp only [Option.bind_some, if_true, bi_6, bx_6, r6, hs1]
        have hcut : sFirstBut (X 0 0 0 11) (X 0) = itF (sFb (X 0 0 0 11) (X 0)) n 0 none := itF_6 h6 (fun k b h1 hk => by unfold sFb; rw [show sBoot (X 0) k = false from hw.nb h1 hk]; simp [b2_t, b2_f, up_at, up_up, up_id]) none
        rw [hcut]
        have key := (pu_loop (N := n) (fun m k b => fX9_fallback_35 m (oI b) (nI k) (ro (th X 0) (enc (X 0)))) (sFb (X 0 0 0 11) (X 0)) (fun b => (oI b, ro (th X 0) (enc (X 0)))) (fun _ b => o6 b) ?_ ?_ n 0 bsF none (by omega) (by unfold bsF; omega) (by simp [b2_t, b2_f, up_at, up_up, up_id, o6])).1
        · rw [← hth] at key; exact key
        · intro m k b hk hb
          have hk6 : k < 6 := by omega
          refine ⟨?_, o6_ite _ hk6 hb⟩
          have hs := hw.sl k hk6
          have hc : fX9_canBoot (nI k) (ro (th X 0) (enc (X 0))) = some (b2 (sBoot (X 0) k), ro (th X 0) (enc (X 0))) := q9_canBoot hk6 hs
          have ha : ∀ q, q < 6 → fX9_isAhead (nI k) (nI q) (ro (th X 0) (enc (X 0))) = some (b2 (sAhead (X 0) k q), ro (th X 0) (enc (X 0))) := fun q hq => q9_ahead hk6 hq hs.2.2.2.1
          simp only [fX9_fallback_35, fX9_fallback_78, fX9_fallback_80, bi_0, bx_0, h0, bi_7, bx_7, r7, pu_leN hk h6, if_true, if_false, hc, Option.bind_some, pu_succ, sFb]
          by_cases q0 : nI k = X 0 0 0 11
          · simp [b2_t, b2_f, up_at, up_up, up_id, q0]
          · cases q1 : sBoot (X 0) k
            · simp [b2_t, b2_f, up_at, up_up, up_id, q0]
            · cases b with
              | none => simp [b2_t, b2_f, up_at, up_up, up_id, q0, oI, sPref]
              | some q =>
                have hq := hb q rfl
                cases q2 : sAhead (X 0) k q <;> simp [b2_t, b2_f, up_at, up_up, up_id, q0, oI, sPref, pu_m16 hq, ha q hq, q2]
        · intro m b _
          simp only [fX9_fallback_35, bi_0, bx_0, h0, pu_leNN, if_true]
