/-! WHAT COMES: settled, ahead -/
def sSet (Y : pY) : Bool :=
  if Y 2 0 1 < 0 then (match sRun Y with | none => true | some r => !(Y 0 0 12 < Y 6 r 3) && !(Y 0 0 12 < Y 6 r 2) && !(Y 0 0 12 < Y 0 0 5)) else false
theorem qX3_set {g Q n t : Nat} {X : bsX} (h : wm Q n t (X g)) : fX3_isSettled g X = some (b2 (sSet (X g)), X) := by
  have h6 := h.hn
  have c10 : (1 : Int32) ≠ 0 := by decide
  unfold fX3_isSettled fX2_isOn sSet
  by_cases h1 : X g 2 0 1 < 0
  · simp only [h1, if_true, Option.bind_some]
    rcases h.hrun with ⟨e, er⟩ | ⟨r, hr, e, er, _⟩
    · have hm : (-1 : Int32) < 0 := by decide
      simp [b2_t, b2_f, up_at, up_up, up_id, e, er, hm]
    · have hr6 : r < 6 := by omega
      simp only [e, er, pu_lt0 hr6, pu_lt6 hr6, if_false, if_true, pu_inT hr6 (by decide), pu_ix6 hr6]
      by_cases a1 : X g 0 0 12 < X g 6 r 3 <;> by_cases a2 : X g 0 0 12 < X g 6 r 2 <;> by_cases a3 : X g 0 0 12 < X g 0 0 5 <;> simp [b2_t, b2_f, up_at, up_up, up_id, a1, a2, a3]
  · simp only [h1, if_false, Option.bind_some, c10]
    simp [b2_t, b2_f, up_at, up_up, up_id]
/-- d ticks, or fewer where it is settled before -/
def sSettle : Nat → pY → pY
  | 0, Y => Y
  | d + 1, Y => if sSet Y then Y else sSettle d (sTick Y)
theorem qX3_settleL {g : Nat} {m : Nat} (hm : m < 1000) : ∀ (d k f Q n t : Nat) (X : bsX) (Y : pY), k + d = m → d < f → Q + 2 * d < 900000 → wm Q n t Y →
    fX3_settle_2 g f (nI m) (nI k) (up X g Y) = some (up X g (sSettle d Y)) ∧ ∃ Q' t', Q' ≤ Q + 2 * d ∧ t ≤ t' ∧ t' ≤ t + d ∧ Q' + 2 * t ≤ Q + 2 * t' ∧ wm Q' n t' (sSettle d Y) := by
  intro d
  induction d with
  | zero =>
    intro k f Q n t X Y hk hf hQ h
    obtain ⟨f, rfl⟩ : ∃ z, f = z + 1 := ⟨f - 1, by omega⟩
    refine ⟨?_, Q, t, by omega, by omega, by omega, by omega, h⟩
    simp only [fX3_settle_2, sSettle]
    rw [if_pos ((pu_le m k (by omega) (by omega)).mpr (by omega))]
  | succ d ih =>
    intro k f Q n t X Y hk hf hQ h
    obtain ⟨f, rfl⟩ : ∃ z, f = z + 1 := ⟨f - 1, by omega⟩
    simp only [fX3_settle_2, sSettle]
    rw [if_neg (fun q => by have := (pu_le m k (by omega) (by omega)).mp q; omega), qX3_set (Q := Q) (n := n) (t := t) (by simpa [b2_t, b2_f, up_at, up_up, up_id] using h)]
    simp only [Option.bind_some, up_at]
    cases hs : sSet Y with
    | true =>
      refine ⟨by simp [b2_t, b2_f, up_at, up_up, up_id], Q, t, by omega, by omega, by omega, by omega, by simpa [b2_t, b2_f, up_at, up_up, up_id] using h⟩
    | false =>
      obtain ⟨e, hw⟩ := qX3_tick (g := g) (Q := Q) (n := n) (t := t) (X := up X g Y) (by omega) (by simpa [b2_t, b2_f, up_at, up_up, up_id] using h)
      rw [up_at] at hw
      simp only [b2_f, if_true, e, Option.bind_some, up_up, up_at, pu_succ, Bool.false_eq_true, if_false]
      obtain ⟨e2, Q', t', a1, a2, a3, a4, a5⟩ := ih (k + 1) f (Q + 2) n (t + 1) X (sTick Y) (by omega) (by omega) (by omega) hw
      exact ⟨e2, Q', t', by omega, by omega, by omega, by omega, a5⟩
theorem qX3_settle {g m Q n t : Nat} {X : bsX} (hm : m < 1000) (hQ : Q < 800000) (h : wm Q n t (X g)) :
    fX3_settle g (nI m) X = some (up X g (sSettle m (X g))) ∧ ∃ Q' t', Q' ≤ Q + 2 * m ∧ t ≤ t' ∧ t' ≤ t + m ∧ Q' + 2 * t ≤ Q + 2 * t' ∧ wm Q' n t' (sSettle m (X g)) := by
  have := qX3_settleL (g := g) hm m 0 bsF Q n t X (X g) (by omega) (by unfold bsF; omega) (by omega) h
  rw [up_id] at this
  exact this
/-- behind how many ticks f holds first, at most d of them; none where it is settled before -/
def sWhen (f : pY → Bool) : Nat → Nat → pY → Int32 × pY
  | 0, _, Y => (-1, Y)
  | d + 1, k, Y => if f Y then (nI k, Y) else if sSet Y then (-1, Y) else sWhen f d (k + 1) (sTick Y)
