/-! CALLS that only tell -/
theorem sim_parseError_ok : sim_parseError Inv := by
  intro j X hj h
  have hp := h.2.2.2.2.2.2.2.1
  obtain ⟨f, f1, f2, f3, f4, f5, f6⟩ := hp
  refine ⟨(X 13 1 0 8, X), (X 14 0 0 8, th X 0), ?_, ?_, f4, ((quiet.refl X).thr 0).inv h⟩
  · unfold fX8_parseError; rfl
  · unfold fX9_parseError
    show some (th X 0 14 0 0 8, th X 0) = _
    have : th X 0 14 0 0 8 = X 14 0 0 8 := by unfold th bsWr; simp [b2_t, b2_f, up_at, up_up, up_id]
    rw [this]
theorem sim_errorPosition_ok : sim_errorPosition Inv := by
  intro j X hj h
  have hp := h.2.2.2.2.2.2.2.1
  obtain ⟨f, f1, f2, f3, f4, f5, f6⟩ := hp
  refine ⟨(X 13 1 0 9, X), (X 14 0 0 9, th X 0), ?_, ?_, f5, ((quiet.refl X).thr 0).inv h⟩
  · unfold fX8_errorPosition; rfl
  · unfold fX9_errorPosition
    show some (th X 0 14 0 0 9, th X 0) = _
    have : th X 0 14 0 0 9 = X 14 0 0 9 := by unfold th bsWr; simp [b2_t, b2_f, up_at, up_up, up_id]
    rw [this]
theorem sim_buffered_ok : sim_buffered Inv := by
  intro j X hj h
  have hp := h.2.2.2.2.2.2.2.1
  obtain ⟨f, f1, f2, f3, f4, f5, f6⟩ := hp
  refine ⟨(X 13 1 0 3, X), (X 14 0 0 7, th X 0), ?_, ?_, f2.trans f3.symm, ((quiet.refl X).thr 0).inv h⟩
  · unfold fX8_buffered; rfl
  · unfold fX9_buffered
    show some (th X 0 14 0 0 7, th X 0) = _
    have : th X 0 14 0 0 7 = X 14 0 0 7 := by unfold th bsWr; simp [b2_t, b2_f, up_at, up_up, up_id]
    rw [this]
theorem sim_undoable_ok : sim_undoable Inv := by
  intro j X hj h
  obtain ⟨np, ck, u1, u2, u3, u4, u5, u6⟩ := h.2.2.2.2.1
  refine ⟨(X 13 0 0 9, X), (X 14 0 0 4, th X 0), ?_, ?_, u4.trans u5.symm, ((quiet.refl X).thr 0).inv h⟩
  · unfold fX8_undoable; rfl
  · unfold fX9_undoable
    show some (th X 0 14 0 0 4, th X 0) = _
    have : th X 0 14 0 0 4 = X 14 0 0 4 := by unfold th bsWr; simp [b2_t, b2_f, up_at, up_up, up_id]
    rw [this]
/-- a call without arguments that only tells -/
theorem tell0 {f : bsX → Option bsXr} {g : bsX → Option (Int32 × bsX)} {J : Nat} {X : bsX} (h : Inv J X)
    (f0 : fX8_requireLoaded X = some (1, 0, X) → f X = some (1, 0, X)) (g0 : fX9_notLoaded X = some (1, th X 1) → g X = some (0, th X 1))
    (hfg : ∀ (n t Q : Nat), fX8_requireLoaded X = some (0, 0, X) → fX9_notLoaded X = some (0, th X 0) → 1 ≤ n → wm Q n t (X 0) → th X 0 = ro (th X 0) (enc (X 0)) → t ≤ 9999 → Q ≤ 2 * t + J →
      ∃ a : Int32, f X = some (0, a, X) ∧ g X = some (a, th X 0)) :
    ∃ (r : bsXr) (q : Int32 × bsX), f X = some r ∧ (r.1 = 0 ∨ r.1 = 1) ∧ g r.2.2 = some q ∧ q.2 14 0 0 0 = (if r.1 = 1 then (1 : Int32) else (0 : Int32)) ∧ (r.1 = 0 → r.2.1 = q.1) ∧ Inv (J + 1) q.2 := by
  have n10 : ¬ (1 : Nat) = 0 := by decide
  rcases h.req with ⟨e, e1, e2⟩ | ⟨e, e1, e2, n, t, Q, n1, hw, hR, ht, hQ⟩
  · exact ⟨(1, 0, X), (0, th X 1), f0 e1, Or.inr rfl, g0 e2, th_rd X 1, fun q => absurd (show (1 : Nat) = 0 from q) n10, ((quiet.refl X).thr 1).inv h⟩
  · obtain ⟨a, k1, k2⟩ := hfg n t Q e1 e2 n1 hw (th_ro X 0 hR) ht hQ
    exact ⟨(0, a, X), (a, th X 0), k1, Or.inl rfl, k2, th_rd X 0, fun _ => rfl, ((quiet.refl X).thr 0).inv h⟩
/-- a call with a slot that only tells -/
theorem tell1 {f : bsX → Option bsXr} {g : bsX → Option (Int32 × bsX)} {J : Nat} {X : bsX} {s : Int32} (h : Inv J X)
    (f0 : ∀ e : Nat, e ≠ 0 → fX8_requireSlot s X = some (e, 0, X) → f X = some (e, 0, X)) (g0 : ∀ v : Int32, fX9_noSlot s X = some (1, th X v) → g X = some (0, th X v))
    (hfg : ∀ (k n t Q : Nat), s = nI k → fX8_requireSlot s X = some (0, 0, X) → fX9_noSlot s X = some (0, th X 0) → k < n → k < 6 → wm Q n t (X 0) → th X 0 = ro (th X 0) (enc (X 0)) → t ≤ 9999 → Q ≤ 2 * t + J →
      ∃ a : Int32, f X = some (0, a, X) ∧ g X = some (a, th X 0)) :
    ∃ (r : bsXr) (q : Int32 × bsX), f X = some r ∧ (r.1 = 0 ∨ r.1 = 1 ∨ r.1 = 2) ∧ g r.2.2 = some q ∧ q.2 14 0 0 0 = (if r.1 = 1 then (1 : Int32) else (if r.1 = 2 then (2 : Int32) else (0 : Int32))) ∧ (r.1 = 0 → r.2.1 = q.1) ∧ Inv (J + 1) q.2 := by
  have n10 : ¬ (1 : Nat) = 0 := by decide
  have n20 : ¬ (2 : Nat) = 0 := by decide
  rcases h.slot s with ⟨e1, e2⟩ | ⟨e1, e2⟩ | ⟨k, n, t, Q, e1, e2, hk, hkn, hk6, hw, hR, ht, hQ⟩
  · exact ⟨(1, 0, X), (0, th X 1), f0 1 n10 e1, Or.inr (Or.inl rfl), g0 1 e2, th_rd X 1, fun q => absurd (show (1 : Nat) = 0 from q) n10, ((quiet.refl X).thr 1).inv h⟩
  · exact ⟨(2, 0, X), (0, th X 2), f0 2 n20 e1, Or.inr (Or.inr rfl), g0 2 e2, th_rd X 2, fun q => absurd (show (2 : Nat) = 0 from q) n20, ((quiet.refl X).thr 2).inv h⟩
  · obtain ⟨a, k1, k2⟩ := hfg k n t Q hk e1 e2 hkn hk6 hw (th_ro X 0 hR) ht hQ
    exact ⟨(0, a, X), (a, th X 0), k1, Or.inl rfl, k2, th_rd X 0, fun _ => rfl, ((quiet.refl X).thr 0).inv h⟩
