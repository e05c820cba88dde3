/-! CALLS that go through the slots -/
/-- the class's loop over six and the reference's over n, both the fold of f -/
theorem loop2 {σ : Type} {n : Nat} (hn : n ≤ 6) (f : Nat → σ → σ) (P : σ → Prop) (L : Nat → Nat → σ → Option bsXr) (R : Nat → Nat → σ → Option (Int32 × bsX)) (ans : σ → Int32) (X Z : bsX) (a0 : σ) (h0 : P a0)
    (hP : ∀ k a, k < 6 → P a → P (f k a)) (hz : ∀ k a, n ≤ k → k < 6 → f k a = a)
    (hL : ∀ m k a, k < 6 → P a → L (m + 1) k a = L m (k + 1) (f k a)) (hLe : ∀ m a, L (m + 1) 6 a = some (0, ans a, X))
    (hR : ∀ m k a, k < n → k < 6 → P a → R (m + 1) k a = R m (k + 1) (f k a)) (hRe : ∀ m a, R (m + 1) n a = some (ans a, Z)) :
    ∃ x : Int32, L bsF 0 a0 = some (0, x, X) ∧ R bsF 0 a0 = some (x, Z) := by
  refine ⟨ans (itF f 6 0 a0), ?_, ?_⟩
  · exact (pu_loop (N := 6) L f (fun a => (0, ans a, X)) (fun _ a => P a) (fun m k a hk ha => ⟨hL m k a hk ha, hP k a hk ha⟩) (fun m a _ => hLe m a) 6 0 bsF a0 rfl (by decide) h0).1
  · rw [itF_6 hn hz a0]
    exact (pu_loop (N := n) R f (fun a => (ans a, Z)) (fun _ a => P a) (fun m k a hk ha => ⟨hR m k a hk (by omega) ha, hP k a (by omega) ha⟩) (fun m a _ => hRe m a) n 0 bsF a0 (by omega) (by unfold bsF; omega) h0).1
theorem row0 {X : bsX} {Y : pY} {n : Nat} (h : Y 0 0 4 = nI n) : ro X (enc Y) 14 1 0 0 = nI n := by rw [ro_rd]; exact h
theorem sim_sinking_ok : sim_sinking Inv := by
  intro j X hj h
  have c10 : ¬ (1 : Int32) = 0 := by decide
  refine tell0 h ?_ ?_ ?_
  · intro e; unfold fX8_sinking; rw [e]; rfl
  · intro e; unfold fX9_sinking; rw [e]; simp only [Option.bind_some, c10, if_false]
  · intro n t Q e1 e2 n1 hw hth ht hQ
    have h6 := hw.hn
    have h0 := row0 (X := th X 0) (Y := X 0) hw.sz
    have h5 : ro (th X 0) (enc (X 0)) 14 1 0 5 = X 0 0 0 8 := by rw [ro_rd]; rfl
    obtain ⟨x, k1, k2⟩ := loop2 h6 (fun k (x : Int32) => if X 0 6 k 0 ≠ 0 ∧ X 0 6 k 1 < X 0 0 0 8 then x ||| ((1 : Int32) <<< (nI k &&& 31)) else x) (fun _ => True)
      (fun m k x => fX8_sinking_8 m x (nI k) X) (fun m k x => fX9_sinking_13 m x (nI k) (ro (th X 0) (enc (X 0)))) (fun x => x) X (ro (th X 0) (enc (X 0))) 0 trivial (fun _ _ _ _ => trivial)
      (fun k a h1 h2 => by rw [if_neg (fun q => q.1 (hw.hi k h1 h2).1)])
      (fun m k x hk _ => by
        simp only [fX8_sinking_8, fX8_sinking_54, pu_le6 hk, pu_inT hk (by decide), pu_ix6 hk, pu_succ, if_false, if_true]
        by_cases q1 : X 0 6 k 0 = 0
        · simp [b2_t, b2_f, up_at, up_up, up_id, q1]
        · by_cases q2 : X 0 6 k 1 < X 0 0 0 8
          · have := pu_nle.mpr q2; simp [b2_t, b2_f, up_at, up_up, up_id, q1, q2, this]
          · have := pu_nlt.mp q2; simp [b2_t, b2_f, up_at, up_up, up_id, q1, q2, this])
      (fun m x => by simp only [fX8_sinking_8, pu_66, if_true])
      (fun m k x hk hk6 _ => by
        have hs := hw.sl k hk6
        have hh : fX9_has (nI k) (ro (th X 0) (enc (X 0))) = some (b2 (decide (X 0 6 k 0 ≠ 0)), ro (th X 0) (enc (X 0))) := q9_has hk6 hs.1
        have ho : fX9_of (nI k) 8 (ro (th X 0) (enc (X 0))) = some (X 0 6 k 1, ro (th X 0) (enc (X 0))) := q9_of8 hk6 _ _ _ _ _
        simp only [fX9_sinking_13, fX9_sinking_52, fX9_sinking_53, fX9_flag, bi_0, bx_0, h0, bi_5, bx_5, h5, pu_leN hk h6, if_true, if_false, hh, ho, Option.bind_some, pu_succ, c10]
        by_cases q1 : X 0 6 k 0 = 0
        · simp [b2_t, b2_f, up_at, up_up, up_id, q1]
        · by_cases q2 : X 0 6 k 1 < X 0 0 0 8
          · have := pu_nle.mpr q2; simp [b2_t, b2_f, up_at, up_up, up_id, q1, q2, this]
          · have := pu_nlt.mp q2; simp [b2_t, b2_f, up_at, up_up, up_id, q1, q2, this])
      (fun m x => by simp only [fX9_sinking_13, bi_0, bx_0, h0, pu_leNN, if_true])
    refine ⟨x, ?_, ?_⟩
    · unfold fX8_sinking; rw [e1]; simp only [Option.bind_some, if_true]; exact k1
    · unfold fX9_sinking; rw [e2]; simp only [Option.bind_some, if_true]
      rw [← hth] at k2; exact k2
theorem sim_newest_ok : sim_newest Inv := by
  intro j X hj h
  have c10 : ¬ (1 : Int32) = 0 := by decide
  refine tell0 h ?_ ?_ ?_
  · intro e; unfold fX8_newest; rw [e]; rfl
  · intro e; unfold fX9_newest; rw [e]; simp only [Option.bind_some, c10, if_false]
  · intro n t Q e1 e2 n1 hw hth ht hQ
    have h6 := hw.hn
    have h0 := row0 (X := th X 0) (Y := X 0) hw.sz
    obtain ⟨x, k1, k2⟩ := loop2 h6 (fun k (b : Option Nat) => if X 0 6 k 0 ≠ 0 ∧ (b = none ∨ ∃ q, b = some q ∧ X 0 6 q 1 < X 0 6 k 1) then some k else b) o6
      (fun m k b => fX8_newest_10 m (oI b) (match b with | none => -1 | some q => X 0 6 q 1) (nI k) X) (fun m k b => fX9_newest_13 m (oI b) (nI k) (ro (th X 0) (enc (X 0)))) oI X (ro (th X 0) (enc (X 0))) none (by simp [b2_t, b2_f, up_at, up_up, up_id, o6])
      (fun k b hk hb => by
        intro q hq
        split at hq
        · injection hq with hq; omega
        · exact hb q hq)
      (fun k a h1 h2 => by rw [if_neg (fun q => q.1 (hw.hi k h1 h2).1)])
      (fun m k b hk hb => by
        have hs := hw.sl k hk
        have hv := hs.2.2.2.2.2.2.1
        have hvm : ¬ X 0 6 k 1 ≤ -1 := by
          obtain ⟨z, _, z2, z3⟩ := hv
          rw [z3]
          intro e
          have h1 : nI z < 0 := Int32.lt_of_le_of_lt e (by decide)
          exact pu_neg z (by omega) h1
        simp only [fX8_newest_10, fX8_newest_55, pu_le6 hk, pu_inT hk (by decide), pu_ix6 hk, pu_succ, if_false, if_true]
        by_cases q1 : X 0 6 k 0 = 0
        · simp [b2_t, b2_f, up_at, up_up, up_id, q1]
        · cases b with
          | none => simp [b2_t, b2_f, up_at, up_up, up_id, q1, hvm, oI]
          | some q =>
            by_cases q2 : X 0 6 k 1 ≤ X 0 6 q 1
            · have := pu_nlt.mpr q2; simp [b2_t, b2_f, up_at, up_up, up_id, q1, q2, this]
            · have := pu_nle.mp q2; simp [b2_t, b2_f, up_at, up_up, up_id, q1, q2, this, oI])
      (fun m b => by simp only [fX8_newest_10, pu_66, if_true])
      (fun m k b hk hk6 hb => by
        have hs := hw.sl k hk6
        have hh : fX9_has (nI k) (ro (th X 0) (enc (X 0))) = some (b2 (decide (X 0 6 k 0 ≠ 0)), ro (th X 0) (enc (X 0))) := q9_has hk6 hs.1
        have ho : ∀ k, k < 6 → fX9_of (nI k) 8 (ro (th X 0) (enc (X 0))) = some (X 0 6 k 1, ro (th X 0) (enc (X 0))) := fun k hk => q9_of8 hk _ _ _ _ _
        simp only [fX9_newest_13, fX9_newest_53, fX9_newest_55, bi_0, bx_0, h0, pu_leN hk h6, if_true, if_false, hh, ho k hk6, Option.bind_some, pu_succ]
        by_cases q1 : X 0 6 k 0 = 0
        · simp [b2_t, b2_f, up_at, up_up, up_id, q1]
        · cases b with
          | none => simp [b2_t, b2_f, up_at, up_up, up_id, q1, oI]
          | some q =>
            have hq := hb q rfl
            by_cases q2 : X 0 6 k 1 ≤ X 0 6 q 1
            · have := pu_nlt.mpr q2; simp [b2_t, b2_f, up_at, up_up, up_id, q1, q2, this, oI, pu_m16 hq, ho q hq]
            · have := pu_nle.mp q2; simp [b2_t, b2_f, up_at, up_up, up_id, q1, q2, this, oI, pu_m16 hq, ho q hq])
      (fun m b => by simp only [fX9_newest_13, bi_0, bx_0, h0, pu_leNN, if_true])
    refine ⟨x, ?_, ?_⟩
    · unfold fX8_newest; rw [e1]; simp only [Option.bind_some, if_true]; exact k1
    · unfold fX9_newest; rw [e2]; simp only [Option.bind_some, if_true]
      rw [← hth] at k2; exact k2
