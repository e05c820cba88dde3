def spF (Y : pY) (k : Nat) (b : Option Nat) : Option Nat := if nI k = Y 0 0 11 ∨ nI k = Y 2 0 1 then b else match b with
  | none => some k
  | some q => if sLess Y k q = true then some k else some q
theorem spF_lt {Y : pY} {k : Nat} {b : Option Nat} (h : ∀ q, b = some q → q < k) : ∀ q, spF Y k b = some q → q < k + 1 := by
  intro q e
  unfold spF at e
  by_cases c : nI k = Y 0 0 11 ∨ nI k = Y 2 0 1
  · rw [if_pos c] at e; have := h q e; omega
  · rw [if_neg c] at e
    cases b with
    | none => simp only [Option.some.injEq] at e; omega
    | some z =>
      have hz := h z rfl
      dsimp only at e
      by_cases c2 : sLess Y k z = true
      · rw [if_pos c2] at e; simp only [Option.some.injEq] at e; omega
      · rw [if_neg c2] at e; simp only [Option.some.injEq] at e; omega
theorem sim_spare_ok : sim_spare Inv := by
  intro j X hj h
  have c10 : ¬ (1 : Int32) = 0 := by decide
  have cm : (-1 : Int32) < 0 := by decide
  refine tell0 h ?_ ?_ ?_
  · intro e; unfold fX8_spare; rw [e]; rfl
  · intro e; unfold fX9_spare; rw [e]; simp only [Option.bind_some, c10, if_false]
  · intro n t Q e1 e2 n1 hw hth ht hQ
    have h6 := hw.hn
    have h0 := row0 (X := th X 0) (Y := X 0) hw.sz
    have hsz : X 0 0 0 4 = nI n := hw.sz
    have hs01 := hw.s01
    have r20 : ro (th X 0) (enc (X 0)) 14 1 0 20 = X 0 2 0 1 := by rw [ro_rd]; rfl
    have hc : fX8_spare_8 bsF (oI none) (nI 0) X = some (0, oI (itF (spF (X 0)) n 0 none), X) := by
      refine (pu_loop (N := n) (fun m k b => fX8_spare_8 m (oI b) (nI k) X) (spF (X 0)) (fun b => (0, oI b, X)) (fun k b => ∀ q, b = some q → q < k) ?_ ?_ n 0 bsF none (by omega) (by unfold bsF; omega) (by simp [b2_t, b2_f, up_at, up_up, up_id])).1
      · intro m k b hk hP
        have hk6 : k < 6 := by omega
        refine ⟨?_, spF_lt hP⟩
        have st : fX8_spare_8 (m + 1) (oI b) (nI k) X = if nI k = X 0 0 0 11 then fX8_spare_8 m (oI b) (nI (k + 1)) X else if nI k = X 0 2 0 1 then fX8_spare_8 m (oI b) (nI (k + 1)) X else fX8_spare_55 (fX8_spare_8 m) (oI b) (nI k) 1 X := by
          simp only [fX8_spare_8, fX8_spare_54, pu_le6 hk6, if_false, hsz, pu_leN hk h6]
          by_cases q1 : nI k = X 0 0 0 11
          · rw [if_pos q1, if_pos q1]; unfold fX8_spare_55 fX8_spare_91; rw [if_pos rfl, pu_succ]
          · rw [if_neg q1, if_neg q1]
            by_cases q2 : nI k = X 0 2 0 1
            · rw [if_pos q2, if_pos q2]; unfold fX8_spare_55 fX8_spare_91; rw [if_pos rfl, pu_succ]
            · rw [if_neg q2, if_neg q2]
        show fX8_spare_8 (m + 1) (oI b) (nI k) X = fX8_spare_8 m (oI (spF (X 0) k b)) (nI (k + 1)) X
        rw [st]
        unfold spF
        by_cases q1 : nI k = X 0 0 0 11
        · rw [if_pos q1, if_pos (Or.inl q1)]
        · by_cases q2 : nI k = X 0 2 0 1
          · rw [if_neg q1, if_pos q2, if_pos (Or.inr q2)]
          · rw [if_neg q1, if_neg q2, if_neg (fun q => q.elim q1 q2)]
            unfold fX8_spare_55 fX8_spare_89 fX8_spare_91
            rw [if_neg c10]
            cases b with
            | none =>
              simp only [oI, cm, if_true, pu_succ]
            | some q =>
              have hq := hP q rfl
              simp only [oI, pu_neg q (by omega), if_false, pu_inT hk6 (show (6 : Nat) < 2147483648 by decide), pu_inT (show q < 6 by omega) (show (6 : Nat) < 2147483648 by decide), pu_ix6 hk6, pu_ix6 (show q < 6 by omega), if_true, qX8_hurtsLess hk6 (show q < 6 by omega) hs01, Option.bind_some, pu_succ]
              cases sLess (X 0) k q
              · simp [b2_t, b2_f, up_at, up_up, up_id, oI]
              · simp [b2_t, b2_f, up_at, up_up, up_id, oI, c10]
      · intro m b hP
        show fX8_spare_8 (m + 1) (oI b) (nI n) X = _
        simp only [fX8_spare_8, hsz, pu_leNN, if_true]
        by_cases q : (6 : Int32) ≤ nI n
        · rw [if_pos q]
        · rw [if_neg q]
    have hr : fX9_spare_13 bsF (oI none) (nI 0) (ro (th X 0) (enc (X 0))) = some (oI (itF (spF (X 0)) n 0 none), ro (th X 0) (enc (X 0))) := by
      refine (pu_loop (N := n) (fun m k b => fX9_spare_13 m (oI b) (nI k) (ro (th X 0) (enc (X 0)))) (spF (X 0)) (fun b => (oI b, ro (th X 0) (enc (X 0)))) (fun k b => ∀ q, b = some q → q < k) ?_ ?_ n 0 bsF none (by omega) (by unfold bsF; omega) (by simp [b2_t, b2_f, up_at, up_up, up_id])).1
      · intro m k b hk hP
        have hk6 : k < 6 := by omega
        refine ⟨?_, spF_lt hP⟩
        have hio : fX9_isOn (nI k) (ro (th X 0) (enc (X 0))) = some (b2 (decide (sSt (X 0) = 1 ∧ X 0 0 0 11 = nI k)), ro (th X 0) (enc (X 0))) := q9_isOn
        have hru : (sSt (X 0) = 1 ∧ X 0 0 0 11 = nI k) ↔ nI k = X 0 0 0 11 := by
          constructor
          · exact fun q => q.2.symm
          · intro q
            refine ⟨?_, q.symm⟩
            have hk1 : ¬ nI k = -1 := pu_m1 k (by omega)
            rcases hw.run with e | ⟨r, _, _, e3, _⟩
            · exact absurd (q.trans e) hk1
            · unfold sSt; rw [e3, ← q, if_neg c10, if_neg hk1]
        show fX9_spare_13 (m + 1) (oI b) (nI k) (ro (th X 0) (enc (X 0))) = fX9_spare_13 m (oI (spF (X 0) k b)) (nI (k + 1)) (ro (th X 0) (enc (X 0)))
        simp only [fX9_spare_13, fX9_spare_60, fX9_spare_62, bi_0, bx_0, bi_20, bx_20, h0, r20, pu_leN hk h6, if_true, if_false, hio, Option.bind_some, pu_succ, spF]
        by_cases q1 : nI k = X 0 0 0 11
        · rw [decide_eq_true (hru.mpr q1)]
          simp only [b2_t, c10, if_false]
          rw [if_pos (Or.inl q1)]
        · rw [decide_eq_false (fun q => q1 (hru.mp q))]
          simp only [b2_f, if_true]
          by_cases q2 : nI k = X 0 2 0 1
          · rw [if_pos q2.symm, if_pos (Or.inr q2)]
          · have hN : ¬ (nI k = X 0 0 0 11 ∨ nI k = X 0 2 0 1) := fun q => q.elim q1 q2
            rw [if_neg (fun q => q2 q.symm)]
            cases b with
            | none =>
              simp only [hN, oI, if_true, if_false]
            | some q =>
              have hq := hP q rfl
              have hlt := sHurt_lt (Y := X 0) hs01 hk6 (show q < 6 by omega) (by omega)
              simp only [hN, oI, pu_m1 q (by omega), if_false, q9_hurt hk6 hw, q9_hurt (show q < 6 by omega) hw, Option.bind_some]
              by_cases g : sLess (X 0) k q = true
              · have := hlt.mpr g
                rw [if_neg (fun z => absurd this (pu_nlt.mpr z)), if_pos g]
              · have : ¬ sHurt (X 0) k < sHurt (X 0) q := fun z => g (hlt.mp z)
                rw [if_pos (pu_nlt.mp this), if_neg g]
      · intro m b hP
        show fX9_spare_13 (m + 1) (oI b) (nI n) (ro (th X 0) (enc (X 0))) = _
        simp only [fX9_spare_13, bi_0, bx_0, h0, pu_leNN, if_true]
    refine ⟨oI (itF (spF (X 0)) n 0 none), ?_, ?_⟩
    · unfold fX8_spare; rw [e1]
      simp only [Option.bind_some, if_true]
      exact hc
    · rw [← hth] at hr
      unfold fX9_spare; rw [e2]
      simp only [Option.bind_some, if_true]
      exact hr
