/-! THE CLASS ASKED: what is found -/
def fNew (Y : pY) (k : Nat) (b : Option Nat) : Option Nat := if Y 6 k 0 ≠ 0 ∧ (b = none ∨ ∃ q, b = some q ∧ Y 6 q 1 < Y 6 k 1) then some k else b
def fSink (Y : pY) (k : Nat) (x : Int32) : Int32 := if Y 6 k 0 ≠ 0 ∧ Y 6 k 1 < Y 0 0 8 then x ||| ((1 : Int32) <<< (nI k &&& 31)) else x
def fTwin (Y : pY) (p k : Nat) (x : Int32) : Int32 := if nI k ≠ nI p ∧ Y 6 p 0 ≠ 0 ∧ Y 6 k 0 ≠ 0 ∧ Y 6 k 1 = Y 6 p 1 then x ||| ((1 : Int32) <<< (nI k &&& 31)) else x
def fMost (Y : pY) (k : Nat) (x : Int32) : Int32 := if sBoot Y k then x + Y 5 k 3 else x
def fWeak (Y : pY) (k : Nat) (b : Option Nat) : Option Nat := if sBoot Y k = true ∧ Y 5 k 4 = 0 ∧ (b = none ∨ ∃ q, b = some q ∧ Y 5 k 3 < Y 5 q 3) then some k else b
def fHigh (Y : pY) (k : Nat) (x : Int32) : Int32 := if sBootF 0 Y k = true then bsMax x (Y 6 k 1) else x
theorem fNew_lt {Y : pY} {N : Nat} : ∀ d k b, k + d = N → (∀ q, b = some q → q < k ∧ ¬ Y 6 q 0 = 0) → ∀ q, itF (fNew Y) d k b = some q → q < N ∧ ¬ Y 6 q 0 = 0 := by
  intro d
  induction d with
  | zero => intro k b hk h q e; obtain rfl : k = N := (by omega); exact h q e
  | succ d ih =>
    intro k b hk h q e
    refine ih (k + 1) _ (by omega) ?_ q e
    intro q hq
    unfold fNew at hq
    split at hq
    · rename_i c
      simp only [Option.some.injEq] at hq
      subst hq
      exact ⟨by omega, c.1⟩
    · have := h q hq; exact ⟨by omega, this.2⟩
theorem fWeak_lt {Y : pY} {N : Nat} : ∀ d k b, k + d = N → (∀ q, b = some q → q < k) → ∀ q, itF (fWeak Y) d k b = some q → q < N := by
  intro d
  induction d with
  | zero => intro k b hk h q e; obtain rfl : k = N := (by omega); exact h q e
  | succ d ih =>
    intro k b hk h q e
    refine ih (k + 1) _ (by omega) ?_ q e
    intro q hq
    unfold fWeak at hq
    split at hq
    · simp only [Option.some.injEq] at hq; omega
    · have := h q hq; omega
theorem q8_newest {Q n t : Nat} {X : bsX} (h : X 13 0 0 7 = 1) (hw : wm Q n t (X 0)) : fX8_newest X = some (0, oI (itF (fNew (X 0)) n 0 none), X) := by
  have h6 := hw.hn
  rw [← itF_6 h6 (fun k a h1 h2 => by unfold fNew; rw [if_neg (fun q => q.1 (hw.hi k h1 h2).1)]) none]
  unfold fX8_newest
  rw [q8_req h]
  simp only [Option.bind_some, if_true]
  refine (pu_loop (N := 6) (fun m k b => fX8_newest_10 m (oI b) (match b with | none => -1 | some q => X 0 6 q 1) (nI k) X) (fNew (X 0)) (fun b => (0, oI b, X)) (fun _ _ => True) ?_ ?_ 6 0 bsF none rfl (by decide) trivial).1
  · intro m k b hk _
    refine ⟨?_, trivial⟩
    have hv := (hw.sl k hk).2.2.2.2.2.2.1
    have hvm : ¬ X 0 6 k 1 ≤ -1 := by
      obtain ⟨z, _, z2, z3⟩ := hv
      rw [z3]
      intro e
      have h1 : nI z < 0 := Int32.lt_of_le_of_lt e (by decide)
      exact pu_neg z (by omega) h1
    simp only [fX8_newest_10, fX8_newest_55, pu_le6 hk, pu_inT hk (show (6 : Nat) < 2147483648 by decide), pu_ix6 hk, pu_succ, if_false, if_true]
    unfold fNew
    by_cases q1 : X 0 6 k 0 = 0
    · simp [q1]
    · cases b with
      | none => simp [q1, hvm, oI]
      | some q =>
        by_cases q2 : X 0 6 k 1 ≤ X 0 6 q 1
        · have := pu_nlt.mpr q2; simp [q1, q2, this]
        · have := pu_nle.mp q2; simp [q1, q2, this, oI]
  · intro m b _
    simp only [fX8_newest_10, pu_66, if_true]
theorem q8_sinking {Q n t : Nat} {X : bsX} (h : X 13 0 0 7 = 1) (hw : wm Q n t (X 0)) : fX8_sinking X = some (0, itF (fSink (X 0)) n 0 0, X) := by
  have h6 := hw.hn
  rw [← itF_6 h6 (fun k a h1 h2 => by unfold fSink; rw [if_neg (fun q => q.1 (hw.hi k h1 h2).1)]) 0]
  unfold fX8_sinking
  rw [q8_req h]
  simp only [Option.bind_some, if_true]
  refine (pu_loop (N := 6) (fun m k x => fX8_sinking_8 m x (nI k) X) (fSink (X 0)) (fun x => (0, x, X)) (fun _ _ => True) ?_ ?_ 6 0 bsF 0 rfl (by decide) trivial).1
  · intro m k x hk _
    refine ⟨?_, trivial⟩
    simp only [fX8_sinking_8, fX8_sinking_54, pu_le6 hk, pu_inT hk (show (6 : Nat) < 2147483648 by decide), pu_ix6 hk, pu_succ, if_false, if_true]
    unfold fSink
    by_cases q1 : X 0 6 k 0 = 0
    · simp [q1]
    · by_cases q2 : X 0 6 k 1 < X 0 0 0 8
      · have := pu_nle.mpr q2; simp [q1, q2, this]
      · have := pu_nlt.mp q2; simp [q1, q2, this]
  · intro m x _
    simp only [fX8_sinking_8, pu_66, if_true]
theorem q8_twins {Q n t p : Nat} {X : bsX} (h : X 13 0 0 7 = 1) (hw : wm Q n t (X 0)) (hp : p < n) : fX8_twins (nI p) X = some (0, itF (fTwin (X 0) p) n 0 0, X) := by
  have h6 := hw.hn
  have hp6 : p < 6 := by omega
  rw [← itF_6 h6 (fun k a h1 h2 => by unfold fTwin; rw [if_neg (fun q => q.2.2.1 (hw.hi k h1 h2).1)]) 0]
  unfold fX8_twins
  rw [q8_slot h hw hp]
  simp only [Option.bind_some, if_true, pu_inT hp6 (show (6 : Nat) < 2147483648 by decide), pu_ix6 hp6]
  refine (pu_loop (N := 6) (fun m k x => fX8_twins_23 m (nI p) p x (nI k) X) (fTwin (X 0) p) (fun x => (0, x, X)) (fun _ _ => True) ?_ ?_ 6 0 bsF 0 rfl (by decide) trivial).1
  · intro m k x hk _
    refine ⟨?_, trivial⟩
    simp only [fX8_twins_23, fX8_twins_85, pu_le6 hk, pu_inT hk (show (6 : Nat) < 2147483648 by decide), pu_ix6 hk, pu_succ, if_false, if_true]
    unfold fTwin
    by_cases q1 : nI k = nI p <;> by_cases q2 : X 0 6 p 0 = 0 <;> by_cases q3 : X 0 6 k 0 = 0 <;> by_cases q4 : X 0 6 k 1 = X 0 6 p 1 <;> simp [q1, q2, q3, q4]
  · intro m x _
    simp only [fX8_twins_23, pu_66, if_true]
theorem q8_most {Q n t : Nat} {X : bsX} (h : X 13 0 0 7 = 1) (hw : wm Q n t (X 0)) : fX8_mostBoots X = some (0, itF (fMost (X 0)) n 0 0, X) := by
  have h6 := hw.hn
  rw [← itF_6 h6 (fun k a h1 h2 => by unfold fMost; rw [show sBoot (X 0) k = false from hw.nb h1 h2]; rfl) 0]
  unfold fX8_mostBoots
  rw [q8_req h]
  simp only [Option.bind_some, if_true]
  refine (pu_loop (N := 6) (fun m k x => fX8_mostBoots_8 m x (nI k) X) (fMost (X 0)) (fun x => (0, x, X)) (fun _ _ => True) ?_ ?_ 6 0 bsF 0 rfl (by decide) trivial).1
  · intro m k x hk _
    refine ⟨?_, trivial⟩
    simp only [fX8_mostBoots_8, fX8_mostBoots_48, pu_le6 hk, pu_inT hk (show (6 : Nat) < 2147483648 by decide), pu_ix6 hk, pu_succ, if_false, if_true, qX3_boot, Option.bind_some]
    unfold fMost
    cases sBoot (X 0) k <;> simp [b2_t, b2_f]
  · intro m x _
    simp only [fX8_mostBoots_8, pu_66, if_true]
theorem q8_weakest {Q n t : Nat} {X : bsX} (h : X 13 0 0 7 = 1) (hw : wm Q n t (X 0)) : fX8_weakest X = some (0, oI (itF (fWeak (X 0)) n 0 none), X) := by
  have h6 := hw.hn
  rw [← itF_6 h6 (fun k a h1 h2 => by unfold fWeak; rw [if_neg (fun q => by have this : sBoot (X 0) k = false := hw.nb h1 h2; rw [this] at q; exact absurd q.1 (by decide))]) none]
  unfold fX8_weakest
  rw [q8_req h]
  simp only [Option.bind_some, if_true]
  refine (pu_loop (N := 6) (fun m k b => fX8_weakest_11 m (oI b) (match b with | none => 8 | some q => X 0 5 q 3) (nI k) X) (fWeak (X 0)) (fun b => (0, oI b, X)) (fun _ _ => True) ?_ ?_ 6 0 bsF none rfl (by decide) trivial).1
  · intro m k b hk _
    refine ⟨?_, trivial⟩
    have hv := (hw.sl k hk).2.2.2.2.2.1
    have hv8 : ¬ 8 ≤ X 0 5 k 3 := by
      obtain ⟨z, _, z2, z3⟩ := hv
      rw [z3]
      intro e
      have := (pu_le 8 z (by omega) (by decide)).mp e
      omega
    simp only [fX8_weakest_11, fX8_weakest_65, pu_le6 hk, pu_inT hk (show (6 : Nat) < 2147483648 by decide), pu_ix6 hk, pu_succ, if_false, if_true, qX3_boot, Option.bind_some]
    unfold fWeak
    cases q0 : sBoot (X 0) k
    · simp [b2_f]
    · by_cases q1 : X 0 5 k 4 = 0
      · cases b with
        | none => simp [b2_t, q1, hv8, oI]
        | some q =>
          by_cases q2 : X 0 5 q 3 ≤ X 0 5 k 3
          · have := pu_nlt.mpr q2; simp [b2_t, q1, q2, this]
          · have := pu_nle.mp q2; simp [b2_t, q1, q2, this, oI]
      · simp [b2_t, q1]
  · intro m b _
    simp only [fX8_weakest_11, pu_66, if_true]
theorem q8_high {Q n t : Nat} {X : bsX} (h : X 13 0 0 7 = 1) (hw : wm Q n t (X 0)) : fX8_highestFloor X = some (0, itF (fHigh (X 0)) n 0 (-1), X) := by
  have h6 := hw.hn
  rw [← itF_6 h6 (fun k a h1 h2 => by unfold fHigh; rw [hw.nb h1 h2]; rfl) (-1)]
  unfold fX8_highestFloor
  rw [q8_req h]
  simp only [Option.bind_some, if_true]
  refine (pu_loop (N := 6) (fun m k x => fX8_highestFloor_8 m x (nI k) X) (fHigh (X 0)) (fun x => (0, x, X)) (fun _ _ => True) ?_ ?_ 6 0 bsF (-1) rfl (by decide) trivial).1
  · intro m k x hk _
    refine ⟨?_, trivial⟩
    simp only [fX8_highestFloor_8, fX8_highestFloor_51, pu_le6 hk, pu_inT hk (show (6 : Nat) < 2147483648 by decide), pu_ix6 hk, pu_succ, if_false, if_true, qX5_boot, Option.bind_some]
    unfold fHigh
    cases q0 : sBootF 0 (X 0) k
    · simp [b2_f]
    · by_cases q2 : X 0 6 k 1 ≤ x
      · have := pu_nlt.mpr q2; simp [b2_t, q2, bsMax, this]
      · have := pu_nle.mp q2; simp [b2_t, q2, bsMax, this]
  · intro m x _
    simp only [fX8_highestFloor_8, pu_66, if_true]
theorem q8_why {Q n t k : Nat} {X : bsX} (h : X 13 0 0 7 = 1) (hw : wm Q n t (X 0)) (hk : k < n) : fX8_whyNot (nI k) X = some (0, sWhy (X 0) k, X) := by
  have h6 := hw.hn
  have hk6 : k < 6 := by omega
  have hob : fX3_obstacle 0 k X = some (sWhy (X 0) k, X) := by
    unfold fX3_obstacle fX3_obstacle_63 sWhy
    by_cases k0 : X 0 6 k 0 = 0 <;> by_cases k4 : X 0 6 k 4 = 0 <;> by_cases k1 : X 0 6 k 1 < X 0 0 0 8 <;> by_cases k2 : X 0 5 k 2 = 0 <;> by_cases k3 : X 0 5 k 4 = 0 <;> by_cases k5 : 0 < X 0 5 k 3
    all_goals first | have g1 := pu_nle.mpr k1 | have g1 := pu_nlt.mp k1
    all_goals first | have g5 := pu_nle.mpr k5 | have g5 := pu_nlt.mp k5
    all_goals simp [k0, k1, k2, k3, k4, k5, g1, g5]
  unfold fX8_whyNot
  rw [q8_slot h hw hk]
  simp only [Option.bind_some, if_true, pu_inT hk6 (show (6 : Nat) < 2147483648 by decide), pu_ix6 hk6, hob]
theorem q8_place {Q n t p : Nat} {X : bsX} (h : X 13 0 0 7 = 1) (hw : wm Q n t (X 0)) (hp : p < n) : fX8_place (nI p) X = some (0, if sBoot (X 0) p = true then sPlace (X 0) p else -1, X) := by
  have h6 := hw.hn
  have hp6 : p < 6 := by omega
  have c10 : ¬ (1 : Int32) = 0 := by decide
  have hL : fX8_place_33 bsF p 0 0 X = some (0, sPlace (X 0) p, X) := by
    refine (pu_loop (N := 6) (fun m k x => fX8_place_33 m p x (nI k) X) (sPlF (X 0) p) (fun x => (0, x, X)) (fun _ _ => True) ?_ ?_ 6 0 bsF 0 rfl (by decide) trivial).1
    · intro m k x hk _
      refine ⟨?_, trivial⟩
      simp only [fX8_place_33, fX8_place_76, pu_le6 hk, pu_inT hk (show (6 : Nat) < 2147483648 by decide), pu_ix6 hk, pu_succ, if_false, if_true, qX3_boot, qX5_ahead 0 k p hk hp6 X (hw.s01 k hk), Option.bind_some, sPlF]
      cases sBoot (X 0) k <;> cases sAhead (X 0) k p <;> simp [b2_t, b2_f]
    · intro m x _
      simp only [fX8_place_33, pu_66, if_true]
  unfold fX8_place
  rw [q8_slot h hw hp]
  simp only [Option.bind_some, if_true, pu_inT hp6 (show (6 : Nat) < 2147483648 by decide), pu_ix6 hp6, qX3_boot]
  cases q : sBoot (X 0) p
  · simp [b2_f]
  · simp only [b2_t, c10, if_false, if_true]; exact hL
theorem q8_floor {Q n t k : Nat} {X : bsX} (h : X 13 0 0 7 = 1) (hw : wm Q n t (X 0)) (hk : k < n) : fX8_floorWith (nI k) X = some (0, if X 0 6 k 0 = 0 then X 0 0 0 8 else sFloorBy (nI k) (X 0), X) := by
  have h6 := hw.hn
  have hk6 : k < 6 := by omega
  unfold fX8_floorWith
  rw [q8_slot h hw hk]
  simp only [Option.bind_some, if_true, pu_inT hk6 (show (6 : Nat) < 2147483648 by decide), pu_ix6 hk6, qX3_floorBy]
  by_cases q : X 0 6 k 0 = 0 <;> simp [q]
theorem q8_hold {Q n t k : Nat} {X : bsX} (h : X 13 0 0 7 = 1) (hw : wm Q n t (X 0)) (hk : k < n) : fX8_mayHold (nI k) X = some (0, b2 (decide (X 0 6 k 0 ≠ 0 ∧ (X 0 6 k 3 = 0 ∨ X 0 6 k 2 < X 0 6 k 3) ∧ (X 0 5 k 4 ≠ 0 ∨ X 0 6 k 2 ≤ X 0 0 0 5))), X) := by
  have h6 := hw.hn
  have hk6 : k < 6 := by omega
  have c10 : ¬ (1 : Int32) = 0 := by decide
  unfold fX8_mayHold fX8_mayHold_38 fX8_mayHold_43 fX8_mayHold_78
  rw [q8_slot h hw hk]
  simp only [Option.bind_some, if_true, pu_inT hk6 (show (6 : Nat) < 2147483648 by decide), pu_ix6 hk6, c10, if_false]
  by_cases q1 : X 0 6 k 0 = 0 <;> by_cases q2 : X 0 6 k 3 = 0 <;> by_cases q3 : X 0 6 k 3 ≤ X 0 6 k 2 <;> by_cases q4 : X 0 5 k 4 = 0 <;> by_cases q5 : X 0 0 0 5 < X 0 6 k 2
  all_goals first | have g3 := pu_nlt.mpr q3 | have g3 := pu_nle.mp q3
  all_goals first | have g5 := pu_nle.mpr q5 | have g5 := pu_nlt.mp q5
  all_goals simp [b2_t, b2_f, q1, q2, q3, q4, q5, g3, g5]
theorem q8_choice {Q n t : Nat} {X : bsX} (h : X 13 0 0 7 = 1) (hw : wm Q n t (X 0)) : fX8_choice X = some (0, oI (sFirstBut (-1) (X 0)), X) := by
  unfold fX8_choice
  rw [q8_req h]
  simp only [Option.bind_some, if_true, (qX3_firstBut 0 (-1) X hw.s01).1]
theorem q8_fallback {Q n t : Nat} {X : bsX} (h : X 13 0 0 7 = 1) (hw : wm Q n t (X 0)) : fX8_fallback X = some (0, if sSt (X 0) = 1 then oI (sFirstBut (X 0 0 0 11) (X 0)) else -1, X) := by
  have h6 := hw.hn
  have hst := hw.st
  have c10 : ¬ (1 : Int32) = 0 := by decide
  obtain ⟨f1, f2⟩ := qX3_firstBut 0 (X 0 0 0 11) X hw.s01
  rcases hw.hrun with ⟨e, er⟩ | ⟨r, hr, e, er, hon, hp⟩
  · have hs1 : ¬ sSt (X 0) = 1 := fun q => by have := hst.2.1.mp q; rw [er] at this; cases this
    have hm : (-1 : Int32) < 0 := by decide
    rw [if_neg hs1]
    unfold fX8_fallback fX3_isRunning
    rw [q8_req h]
    simp [e, hm]
  · have hr6 : r < 6 := by omega
    have hs1 : sSt (X 0) = 1 := hst.2.1.mpr (by rw [er]; rfl)
    rw [if_pos hs1]
    unfold fX8_fallback fX3_isRunning
    rw [q8_req h]
    simp only [Option.bind_some, if_true, e, pu_lt0 hr6, pu_le6 hr6, if_false, c10]
    rw [← e, f1]; rfl
theorem q8_bootsOf {Q n t s T : Nat} {X : bsX} (h : X 13 0 0 7 = 1) (hw : wm Q n t (X 0)) (hs : s < n) (eT : X 0 3 0 4 = nI T) (hT : T < 1000000) : fX8_bootsOf (nI s) X = some (0, nI (sumN (fun r => decide (X 0 10 0 ((T - min T 12 + r) % 12) = nI s)) (min T 12) 0), X) := by
  have h6 := hw.hn
  have hkept := q8_kept eT hT
  have hc : ∀ d k f c, k + d = min T 12 → d < f → fX8_bootsOf_9 f (nI s) (nI c) (nI k) X = some (0, nI (c + sumN (fun r => decide (X 0 10 0 r = nI s)) d k), X) := by
    intro d
    induction d with
    | zero =>
      intro k f c hk hf
      obtain ⟨f, rfl⟩ : ∃ z, f = z + 1 := ⟨f - 1, by omega⟩
      simp only [fX8_bootsOf_9, hkept, Option.bind_some]
      rw [if_pos ((pu_le (min T 12) k (by omega) (by omega)).mpr (by omega))]
      rfl
    | succ d ih =>
      intro k f c hk hf
      obtain ⟨f, rfl⟩ : ∃ z, f = z + 1 := ⟨f - 1, by omega⟩
      simp only [fX8_bootsOf_9, hkept, Option.bind_some]
      rw [if_neg (fun q => by have := (pu_le (min T 12) k (by omega) (by omega)).mp q; omega)]
      simp only [pu_inT (show k < 12 by omega) (show (12 : Nat) < 2147483648 by decide), if_true, pu_ix k (show k < 2147483648 by omega), fX8_bootsOf_42, pu_succ]
      unfold sumN
      by_cases g : X 0 10 0 k = nI s
      · rw [if_pos g, ih (k + 1) f (c + 1) (by omega) (by omega), decide_eq_true g]
        rw [show n2 true = 1 from rfl, Nat.add_assoc]
      · rw [if_neg g, ih (k + 1) f c (by omega) (by omega), decide_eq_false g]
        rw [show n2 false = 0 from rfl, Nat.zero_add]
  have heq : sumN (fun r => decide (X 0 10 0 ((T - min T 12 + r) % 12) = nI s)) (min T 12) 0 = sumN (fun r => decide (X 0 10 0 r = nI s)) (min T 12) 0 := by
    by_cases g : T ≤ 12
    · refine sumN_congr _ _ ?_
      intro i hi
      have : (T - min T 12 + i) % 12 = i := by omega
      rw [this]
    · have h12 : min T 12 = 12 := by omega
      rw [h12]
      have hcong : sumN (fun r => decide (X 0 10 0 ((T - 12 + r) % 12) = nI s)) 12 0 = sumN (fun r => (fun i => decide (X 0 10 0 i = nI s)) (((T - 12) % 12 + r) % 12)) 12 0 := by
        refine sumN_congr _ _ ?_
        intro i hi
        have : (T - 12 + i) % 12 = ((T - 12) % 12 + i) % 12 := by omega
        rw [this]
      rw [hcong]
      exact sumN_rot (fun i => decide (X 0 10 0 i = nI s)) (b := (T - 12) % 12) (by omega)
  rw [heq]
  unfold fX8_bootsOf
  rw [q8_slot h hw hs]
  simp only [Option.bind_some, if_true]
  refine (hc (min T 12) 0 bsF 0 (by omega) (by unfold bsF; omega)).trans ?_
  rw [Nat.zero_add]
theorem q8_spare {Q n t : Nat} {X : bsX} (h : X 13 0 0 7 = 1) (hw : wm Q n t (X 0)) : fX8_spare X = some (0, oI (itF (spF (X 0)) n 0 none), X) := by
  have h6 := hw.hn
  have hsz : X 0 0 0 4 = nI n := hw.sz
  have hs01 := hw.s01
  have c10 : ¬ (1 : Int32) = 0 := by decide
  have cm : (-1 : Int32) < 0 := by decide
  have hc : fX8_spare_8 bsF (oI none) (nI 0) X = some (0, oI (itF (spF (X 0)) n 0 none), X) := by
    refine (pu_loop (N := n) (fun m k b => fX8_spare_8 m (oI b) (nI k) X) (spF (X 0)) (fun b => (0, oI b, X)) (fun k b => ∀ q, b = some q → q < k) ?_ ?_ n 0 bsF none (by omega) (by unfold bsF; omega) (by simp)).1
    · intro m k b hk hP
      have hk6 : k < 6 := by omega
      refine ⟨?_, spF_lt hP⟩
      have st : fX8_spare_8 (m + 1) (oI b) (nI k) X = if nI k = X 0 0 0 11 then fX8_spare_8 m (oI b) (nI (k + 1)) X else if nI k = X 0 2 0 1 then fX8_spare_8 m (oI b) (nI (k + 1)) X else fX8_spare_55 (fX8_spare_8 m) (oI b) (nI k) 1 X := by
        simp only [fX8_spare_8, fX8_spare_54, pu_le6 hk6, if_false, hsz, pu_leN hk h6]
        by_cases q1 : nI k = X 0 0 0 11
        · rw [if_pos q1, if_pos q1]; unfold fX8_spare_55 fX8_spare_91; rw [if_pos rfl, pu_succ]
        · rw [if_neg q1, if_neg q1]
          by_cases q2 : nI k = X 0 2 0 1
          · rw [if_pos q2, if_pos q2]; unfold fX8_spare_55 fX8_spare_91; rw [if_pos rfl, pu_succ]
          · rw [if_neg q2, if_neg q2]
      show fX8_spare_8 (m + 1) (oI b) (nI k) X = fX8_spare_8 m (oI (spF (X 0) k b)) (nI (k + 1)) X
      rw [st]
      unfold spF
      by_cases q1 : nI k = X 0 0 0 11
      · rw [if_pos q1, if_pos (Or.inl q1)]
      · by_cases q2 : nI k = X 0 2 0 1
        · rw [if_neg q1, if_pos q2, if_pos (Or.inr q2)]
        · rw [if_neg q1, if_neg q2, if_neg (fun q => q.elim q1 q2)]
          unfold fX8_spare_55 fX8_spare_89 fX8_spare_91
          rw [if_neg c10]
          cases b with
          | none =>
            simp only [oI, cm, if_true, pu_succ]
          | some q =>
            have hq := hP q rfl
            simp only [oI, pu_neg q (show q < 2147483648 by omega), if_false, pu_inT hk6 (show (6 : Nat) < 2147483648 by decide), pu_inT (show q < 6 by omega) (show (6 : Nat) < 2147483648 by decide), pu_ix6 hk6, pu_ix6 (show q < 6 by omega), if_true, qX8_hurtsLess hk6 (show q < 6 by omega) hs01, Option.bind_some, pu_succ]
            cases sLess (X 0) k q
            · simp [b2_f, oI]
            · simp [b2_t, oI, c10]
    · intro m b _
      simp only [fX8_spare_8]
      by_cases c : (6 : Int32) ≤ nI n
      · rw [if_pos c]
      · rw [if_neg c, hsz, if_pos (pz_nn n)]
  unfold fX8_spare
  rw [q8_req h]
  simp only [Option.bind_some, if_true]
  exact hc
