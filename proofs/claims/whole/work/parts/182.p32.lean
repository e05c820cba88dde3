theorem sim_twins_ok : sim_twins Inv := by
  intro j X a hj h
  have c10 : ¬ (1 : Int32) = 0 := by decide
  refine tell1 (s := a) h ?_ ?_ ?_
  · intro e he q; unfold fX8_twins; rw [q]; simp only [Option.bind_some, he, if_false]
  · intro v q; unfold fX9_twins; rw [q]; simp only [Option.bind_some, c10, if_false]
  · intro p n t Q hs e1 e2 hp hp6 hw hth ht hQ
    subst hs
    have h6 := hw.hn
    have h0 := row0 (X := th X 0) (Y := X 0) hw.sz
    have hh : ∀ k, k < 6 → fX9_has (nI k) (ro (th X 0) (enc (X 0))) = some (b2 (decide (X 0 6 k 0 ≠ 0)), ro (th X 0) (enc (X 0))) := fun k hk => q9_has hk (hw.sl k hk).1
    have ho : ∀ k, k < 6 → fX9_of (nI k) 8 (ro (th X 0) (enc (X 0))) = some (X 0 6 k 1, ro (th X 0) (enc (X 0))) := fun k hk => q9_of8 hk _ _ _ _ _
    obtain ⟨x, k1, k2⟩ := loop2 h6 (fun k (x : Int32) => if nI k ≠ nI p ∧ X 0 6 p 0 ≠ 0 ∧ X 0 6 k 0 ≠ 0 ∧ X 0 6 k 1 = X 0 6 p 1 then x ||| ((1 : Int32) <<< (nI k &&& 31)) else x) (fun _ => True)
      (fun m k x => fX8_twins_23 m (nI p) p x (nI k) X) (fun m k x => fX9_twins_14 m (nI p) x (nI k) (ro (th X 0) (enc (X 0)))) (fun x => x) X (ro (th X 0) (enc (X 0))) 0 trivial (fun _ _ _ _ => trivial)
      (fun k a h1 h2 => by rw [if_neg (fun q => q.2.2.1 (hw.hi k h1 h2).1)])
      (fun m k x hk _ => by
        simp only [fX8_twins_23, fX8_twins_85, pu_le6 hk, pu_inT hk (by decide), pu_ix6 hk, pu_succ, if_false, if_true]
        by_cases q1 : nI k = nI p <;> by_cases q2 : X 0 6 p 0 = 0 <;> by_cases q3 : X 0 6 k 0 = 0 <;> by_cases q4 : X 0 6 k 1 = X 0 6 p 1 <;> simp [b2_t, b2_f, up_at, up_up, up_id, q1, q2, q3, q4])
      (fun m x => by simp only [fX8_twins_23, pu_66, if_true])
      (fun m k x hk hk6 _ => by
        simp only [fX9_twins_14, fX9_twins_67, fX9_twins_68, fX9_flag, bi_0, bx_0, h0, pu_leN hk h6, if_true, if_false, hh k hk6, hh p hp6, ho k hk6, ho p hp6, Option.bind_some, pu_succ, c10]
        by_cases q1 : nI k = nI p <;> by_cases q2 : X 0 6 p 0 = 0 <;> by_cases q3 : X 0 6 k 0 = 0 <;> by_cases q4 : X 0 6 k 1 = X 0 6 p 1 <;> simp [b2_t, b2_f, up_at, up_up, up_id, q1, q2, q3, q4])
      (fun m x => by simp only [fX9_twins_14, bi_0, bx_0, h0, pu_leNN, if_true])
    refine ⟨x, ?_, ?_⟩
    · unfold fX8_twins; rw [e1]; simp only [Option.bind_some, if_true, pu_inT hp6 (by decide), pu_ix6 hp6]; exact k1
    · unfold fX9_twins; rw [e2]; simp only [Option.bind_some, if_true]
      rw [← hth] at k2; exact k2
theorem sAhead_self {Y : pY} {k : Nat} : sAhead Y k k = false := by
  unfold sAhead; simp [b2_t, b2_f, up_at, up_up, up_id]
/-- how many are ahead of slot p -/
def sPlF (Y : pY) (p k : Nat) (x : Int32) : Int32 := if sBoot Y k = true ∧ sAhead Y k p = true then x + 1 else x
def sPlace (Y : pY) (p : Nat) : Int32 := itF (sPlF Y p) 6 0 0
theorem q9_placeOf {n p Q t : Nat} {X : bsX} {Y : pY} (hp6 : p < 6) (hw : wm Q n t Y) : fX9_placeOf (nI p) (ro X (enc Y)) = some (sPlace Y p, ro X (enc Y)) := by
  have c10 : ¬ (1 : Int32) = 0 := by decide
  have h6 := hw.hn
  have h0 := row0 (X := X) (Y := Y) hw.sz
  unfold fX9_placeOf sPlace
  rw [itF_6 h6 (fun k a h1 h2 => by unfold sPlF; rw [if_neg (fun q => by rw [show sBoot Y k = false from hw.nb h1 h2] at q; exact absurd q.1 (by decide))]) 0]
  refine (pu_loop (N := n) (fun m k x => fX9_placeOf_4 m (nI p) x (nI k) (ro X (enc Y))) (sPlF Y p) (fun x => (x, ro X (enc Y))) (fun _ _ => True) ?_ ?_ n 0 bsF 0 (by omega) (by unfold bsF; omega) trivial).1
  · intro m k x hk _
    have hk6 : k < 6 := by omega
    have hs := hw.sl k hk6
    have hc : fX9_canBoot (nI k) (ro X (enc Y)) = some (b2 (sBoot Y k), ro X (enc Y)) := q9_canBoot hk6 hs
    have ha : fX9_isAhead (nI k) (nI p) (ro X (enc Y)) = some (b2 (sAhead Y k p), ro X (enc Y)) := q9_ahead hk6 hp6 hs.2.2.2.1
    refine ⟨?_, trivial⟩
    simp only [fX9_placeOf_4, fX9_placeOf_41, fX9_placeOf_42, fX9_flag, bi_0, bx_0, h0, pu_leN hk h6, if_true, if_false, hc, ha, Option.bind_some, pu_succ, c10, sPlF]
    by_cases q1 : nI k = nI p
    · have e := (pu_eq k p (by omega) (by omega)).mp q1
      subst e
      simp [b2_t, b2_f, up_at, up_up, up_id, sAhead_self]
    · cases sBoot Y k <;> cases sAhead Y k p <;> simp [b2_t, b2_f, up_at, up_up, up_id, q1]
  · intro m x _
    simp only [fX9_placeOf_4, bi_0, bx_0, h0, pu_leNN, if_true]
theorem sim_place_ok : sim_place Inv := by
  intro j X a hj h
  have c10 : ¬ (1 : Int32) = 0 := by decide
  refine tell1 (s := a) h ?_ ?_ ?_
  · intro e he q; unfold fX8_place; rw [q]; simp only [Option.bind_some, he, if_false]
  · intro v q; unfold fX9_place; rw [q]; simp only [Option.bind_some, c10, if_false]
  · intro p n t Q hs e1 e2 hp hp6 hw hth ht hQ
    subst hs
    have hc : fX9_canBoot (nI p) (ro (th X 0) (enc (X 0))) = some (b2 (sBoot (X 0) p), ro (th X 0) (enc (X 0))) := q9_canBoot hp6 (hw.sl p hp6)
    have hpl := q9_placeOf (X := th X 0) hp6 hw
    rw [← hth] at hc hpl
    have hL : fX8_place_33 bsF p 0 0 X = some (0, sPlace (X 0) p, X) := by
      refine (pu_loop (N := 6) (fun m k x => fX8_place_33 m p x (nI k) X) (sPlF (X 0) p) (fun x => (0, x, X)) (fun _ _ => True) ?_ ?_ 6 0 bsF 0 rfl (by decide) trivial).1
      · intro m k x hk _
        refine ⟨?_, trivial⟩
        simp only [fX8_place_33, fX8_place_76, pu_le6 hk, pu_inT hk (by decide), pu_ix6 hk, pu_succ, if_false, if_true, qX3_boot, qX5_ahead 0 k p hk hp6 X (hw.s01 k hk), Option.bind_some, sPlF]
        cases sBoot (X 0) k <;> cases sAhead (X 0) k p <;> simp [b2_t, b2_f, up_at, up_up, up_id]
      · intro m x _
        simp only [fX8_place_33, pu_66, if_true]
    refine ⟨if sBoot (X 0) p = true then sPlace (X 0) p else -1, ?_, ?_⟩
    · unfold fX8_place; rw [e1]
      simp only [Option.bind_some, if_true, pu_inT hp6 (by decide), pu_ix6 hp6, qX3_boot]
      cases q : sBoot (X 0) p
      · simp [b2_t, b2_f, up_at, up_up, up_id]
      · simp only [b2_t, c10, if_false, if_true]; exact hL
    · unfold fX9_place; rw [e2]
      simp only [Option.bind_some, if_true, hc]
      cases q : sBoot (X 0) p
      · simp [b2_t, b2_f, up_at, up_up, up_id]
      · simp only [b2_t, c10, if_false, if_true, hpl, Option.bind_some]
