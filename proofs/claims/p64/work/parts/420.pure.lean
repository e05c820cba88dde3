/-! finds: spare -/
def argm (fr : Nat → Prop) (v : Nat → Nat) (a n : Nat) (b : Option Nat) : Prop := (b = none → ∀ j, a ≤ j → j < n → ¬ fr j) ∧ ∀ q, b = some q → a ≤ q ∧ q < n ∧ fr q ∧ ∀ j, a ≤ j → j < n → fr j → v q ≤ v j ∧ (j < q → v q < v j)
theorem argm_one {fr : Nat → Prop} {v : Nat → Nat} {a n : Nat} {b b' : Option Nat} (h : argm fr v a n b) (h' : argm fr v a n b') : b = b' := by
  cases b with
  | none =>
    cases b' with
    | none => rfl
    | some q =>
      obtain ⟨x1, x2, x3, _⟩ := h'.2 q rfl
      exact absurd x3 (h.1 rfl q x1 x2)
  | some q =>
    obtain ⟨x1, x2, x3, x4⟩ := h.2 q rfl
    cases b' with
    | none => exact absurd x3 (h'.1 rfl q x1 x2)
    | some z =>
      obtain ⟨y1, y2, y3, y4⟩ := h'.2 z rfl
      have a1 := x4 z y1 y2 y3
      have a2 := y4 q x1 x2 x3
      have : q = z := by
        rcases Nat.lt_trichotomy q z with c | c | c
        · have := a2.2 c; omega
        · exact c
        · have := a1.2 c; omega
      rw [this]
def hvN (Y : pY) (k : Nat) : Nat := if Y 6 k 0 = 0 then 0 else if sBoot Y k = true then 2 + sW Y k else 1
def hvI (Y : pY) (k : Nat) : Int32 := if Y 6 k 0 = 0 then -2 else if sBoot Y k = true then nI (sW Y k) else -1
def hvL (Y : pY) (b : Option Nat) : Int32 := match b with | none => 0 | some q => hvI Y q
theorem hv_le {Q n t k q : Nat} {Y : pY} (hw : wm Q n t Y) (hk : k < 6) (hq : q < 6) : hvI Y k ≤ hvI Y q ↔ hvN Y k ≤ hvN Y q := by
  have l1 := sW_lt (Q := Q) hw hk
  have l2 := sW_lt (Q := Q) hw hq
  have m2 : ∀ m, m < 40000 → ((-2 : Int32) ≤ nI m) = True := fun m hm => eq_true (by rw [Int32.le_iff_toInt_le, pu_toInt m (by omega), show (-2 : Int32).toInt = -2 by decide]; omega)
  have m1 : ∀ m, m < 40000 → ((-1 : Int32) ≤ nI m) = True := fun m hm => eq_true (by rw [Int32.le_iff_toInt_le, pu_toInt m (by omega), show (-1 : Int32).toInt = -1 by decide]; omega)
  have p2 : ∀ m, m < 40000 → (nI m ≤ (-2 : Int32)) = False := fun m hm => eq_false (by rw [Int32.le_iff_toInt_le, pu_toInt m (by omega), show (-2 : Int32).toInt = -2 by decide]; omega)
  have p1 : ∀ m, m < 40000 → (nI m ≤ (-1 : Int32)) = False := fun m hm => eq_false (by rw [Int32.le_iff_toInt_le, pu_toInt m (by omega), show (-1 : Int32).toInt = -1 by decide]; omega)
  have e1 : ((-2 : Int32) ≤ -2) = True := eq_true (by decide)
  have e2 : ((-2 : Int32) ≤ -1) = True := eq_true (by decide)
  have e3 : ((-1 : Int32) ≤ -2) = False := eq_false (by decide)
  have e4 : ((-1 : Int32) ≤ -1) = True := eq_true (by decide)
  unfold hvI hvN
  by_cases a1 : Y 6 k 0 = 0
  · by_cases b1 : Y 6 q 0 = 0
    · simp only [a1, b1, if_true, e1]; simp
    · by_cases b2 : sBoot Y q = true
      · simp only [a1, b1, b2, if_true, if_false, m2 _ l2]; exact ⟨fun _ => by omega, fun _ => trivial⟩
      · simp only [a1, b1, b2, if_true, if_false, e2]; simp
  · by_cases a2 : sBoot Y k = true
    · by_cases b1 : Y 6 q 0 = 0
      · simp only [a1, a2, b1, if_true, if_false, p2 _ l1, false_iff]; omega
      · by_cases b2 : sBoot Y q = true
        · simp only [a1, a2, b1, b2, if_true, if_false]
          rw [pu_le _ _ (by omega) (by omega)]; omega
        · simp only [a1, a2, b1, b2, if_true, if_false, Bool.false_eq_true, p1 _ l1]
          exact ⟨False.elim, fun z => by omega⟩
    · by_cases b1 : Y 6 q 0 = 0
      · simp only [a1, a2, b1, if_true, if_false, e3]; simp
      · by_cases b2 : sBoot Y q = true
        · simp only [a1, a2, b1, b2, if_true, if_false, Bool.false_eq_true, m1 _ l2]; exact ⟨fun _ => by omega, fun _ => trivial⟩
        · simp only [a1, a2, b1, b2, if_false, e4]; simp
theorem sLess_v {Q n t k q : Nat} {Y : pY} (hw : wm Q n t Y) (hk : k < 6) (hq : q < 6) : sLess Y k q = true ↔ hvN Y k < hvN Y q := by
  have ha := sW_ah (Q := Q) hw hq hk
  unfold sLess sHarm hvN
  have d1 : ¬ (0 : Int32) = 1 := by decide
  have d2 : ¬ (0 : Int32) = 2 := by decide
  have d3 : ¬ (1 : Int32) = 2 := by decide
  have d4 : ¬ (1 : Int32) = 0 := by decide
  have d5 : ¬ (2 : Int32) = 0 := by decide
  have d6 : ¬ (2 : Int32) = 1 := by decide
  have l1 : (0 : Int32) < 1 := by decide
  have l2 : (0 : Int32) < 2 := by decide
  have l3 : (1 : Int32) < 2 := by decide
  have l4 : ¬ (1 : Int32) < 0 := by decide
  have l5 : ¬ (2 : Int32) < 0 := by decide
  have l6 : ¬ (2 : Int32) < 1 := by decide
  by_cases a1 : Y 6 k 0 = 0
  · by_cases b1 : Y 6 q 0 = 0
    · simp [a1, b1]
    · by_cases b2 : sBoot Y q = true
      · simp [a1, b1, b2] <;> omega
      · simp [a1, b1, b2] <;> omega
  · by_cases a2 : sBoot Y k = true
    · by_cases b1 : Y 6 q 0 = 0
      · simp [a1, a2, b1]
      · by_cases b2 : sBoot Y q = true
        · simp only [a1, a2, b1, b2, if_true, if_false]
          simp only [decide_true, Bool.true_and]
          rw [← ha]; omega
        · simp [a1, a2, b1, b2] <;> omega
    · by_cases b1 : Y 6 q 0 = 0
      · simp [a1, a2, b1]
      · by_cases b2 : sBoot Y q = true
        · simp [a1, a2, b1, b2] <;> omega
        · simp [a1, a2, b1, b2]
def frS (Y : pY) (k : Nat) : Prop := ¬ (nI k = Y 0 0 11 ∨ nI k = Y 2 0 1)
theorem sp_up {Q n t : Nat} {Y : pY} (hw : wm Q n t Y) : argm (frS Y) (hvN Y) 0 n (itF (spF Y) n 0 none) := by
  have h6 := hw.hn
  have key := itF_two (σ := Option Nat) (τ := Unit) (f := spF Y) (g := fun _ u => u) (N := n) (fun k b _ => argm (frS Y) (hvN Y) 0 k b) ?_ n 0 none () (by omega) ⟨fun _ j _ h => by omega, fun q e => by cases e⟩
  · exact key
  · intro k b _ hk h
    unfold spF
    by_cases c : nI k = Y 0 0 11 ∨ nI k = Y 2 0 1
    · rw [if_pos c]
      refine ⟨fun e j h1 h2 => ?_, fun q e => ?_⟩
      · by_cases ej : j = k
        · subst ej; exact fun z => z c
        · exact h.1 e j h1 (by omega)
      · obtain ⟨x1, x2, x3, x4⟩ := h.2 q e
        refine ⟨x1, by omega, x3, fun j h1 h2 h3 => ?_⟩
        have : j ≠ k := fun ej => by subst ej; exact h3 c
        exact x4 j h1 (by omega) h3
    · rw [if_neg c]
      cases b with
      | none =>
        refine ⟨fun e => by simp at e, fun q e => ?_⟩
        simp only [Option.some.injEq] at e
        subst e
        refine ⟨Nat.zero_le _, by omega, c, fun j h1 h2 h3 => ?_⟩
        by_cases ej : j = k
        · subst ej; exact ⟨Nat.le_refl _, fun z => by omega⟩
        · exact absurd h3 (h.1 rfl j h1 (by omega))
      | some z =>
        obtain ⟨x1, x2, x3, x4⟩ := h.2 z rfl
        try dsimp only
        have hl := sLess_v (Q := Q) hw (show k < 6 by omega) (show z < 6 by omega)
        by_cases c2 : sLess Y k z = true
        · rw [if_pos c2]
          have c3 := hl.mp c2
          refine ⟨fun e => by simp at e, fun q e => ?_⟩
          simp only [Option.some.injEq] at e
          subst e
          refine ⟨Nat.zero_le _, by omega, c, fun j h1 h2 h3 => ?_⟩
          by_cases ej : j = k
          · subst ej; exact ⟨Nat.le_refl _, fun z => by omega⟩
          · have := (x4 j h1 (by omega) h3).1
            exact ⟨by omega, fun _ => by omega⟩
        · rw [if_neg c2]
          have c3 : ¬ hvN Y k < hvN Y z := fun w => c2 (hl.mpr w)
          refine ⟨fun e => by simp at e, fun q e => ?_⟩
          simp only [Option.some.injEq] at e
          subst e
          refine ⟨Nat.zero_le _, by omega, x3, fun j h1 h2 h3 => ?_⟩
          by_cases ej : j = k
          · subst ej; exact ⟨by omega, fun w => by omega⟩
          · exact x4 j h1 (by omega) h3
theorem hq_spare {Q n t : Nat} {X : bsX} {Y Z : pY} (hw : wm Q n t Y) (h : rl n Y Z) (hs : rs Y Z) (n1 : 1 ≤ n) : hL_spare X Z = some (oI (itF (spF Y) n 0 none), X, Z) := by
  have h6 := hw.hn
  have hl := h.pn h6
  have d1 := h.d.1
  unfold hL_spare
  rw [hl, show nI n - (1 : Int32) = nI (n - 1) from pu_sub n 1 n1]
  have key : ∀ (k m : Nat) (b : Option Nat), k ≤ n → k < m → argm (frS Y) (hvN Y) k n b → ∃ b', argm (frS Y) (hvN Y) 0 n b' ∧ hL_spare_12 m (oI b) (hvL Y b) (nI k - 1) X Z = some (oI b', X, Z) := by
    intro k
    induction k with
    | zero =>
      intro m b hk hm ha
      obtain ⟨m, rfl⟩ : ∃ q, m = q + 1 := ⟨m - 1, by omega⟩
      exact ⟨b, ha, by rw [hL_spare_12, if_pos (by decide)]⟩
    | succ k ih =>
      intro m b hk hm ha
      obtain ⟨m, rfl⟩ : ∃ q, m = q + 1 := ⟨m - 1, by omega⟩
      have hkn : k < n := by omega
      have hs' := hw.sl k (by omega)
      have ek : nI (k + 1) - (1 : Int32) = nI k := by rw [show (1 : Int32) = nI 1 from rfl, pu_sub _ _ (by omega)]; rfl
      have ek1 : nI k + (-1 : Int32) = nI k - 1 := by rw [Int32.sub_eq_add_neg]
      rw [ek, hL_spare_12, if_neg (pu_neg k (by omega)), hs.1, d1]
      have skip : ¬ frS Y k → argm (frS Y) (hvN Y) k n b := by
        intro hf
        refine ⟨fun e j h1 h2 => ?_, fun q e => ?_⟩
        · by_cases ej : j = k
          · subst ej; exact hf
          · exact ha.1 e j (by omega) h2
        · obtain ⟨x1, x2, x3, x4⟩ := ha.2 q e
          refine ⟨by omega, x2, x3, fun j h1 h2 h3 => ?_⟩
          have : j ≠ k := fun ej => by subst ej; exact hf h3
          exact x4 j (by omega) h2 h3
      unfold hL_spare_89
      rw [ek1]
      by_cases c1 : nI k = Y 0 0 11
      · rw [if_pos c1]
        exact ih m b (by omega) (by omega) (skip (fun z => z (Or.inl c1)))
      · rw [if_neg c1]
        by_cases c2 : nI k = Y 2 0 1
        · rw [if_pos c2]
          exact ih m b (by omega) (by omega) (skip (fun z => z (Or.inr c2)))
        · rw [if_neg c2, hl, if_pos (pz_in hkn h6), pu_ix k (by omega), hq_emp h hkn hs'.2.2.2.2.2.2.1]
          simp only [Option.bind_some]
          have hfr : frS Y k := fun z => z.elim c1 c2
          -- with the harm of slot k
          have fin : ∀ y : Int32, y = hvI Y k → ∃ b', argm (frS Y) (hvN Y) 0 n b' ∧ hL_spare_69 (hL_spare_12 m) (oI b) (hvL Y b) (nI k) y X Z = some (oI b', X, Z) := by
            intro y hy
            unfold hL_spare_69 hL_spare_84 hL_spare_89
            rw [ek1]
            cases b with
            | none =>
              rw [if_pos (show oI none < 0 by decide), hy]
              refine ih m (some k) (by omega) (by omega) ⟨fun e => by simp at e, fun q e => ?_⟩
              simp only [Option.some.injEq] at e
              subst e
              refine ⟨Nat.le_refl _, hkn, hfr, fun j h1 h2 h3 => ?_⟩
              by_cases ej : j = k
              · subst ej; exact ⟨Nat.le_refl _, fun z => by omega⟩
              · exact absurd h3 (ha.1 rfl j (by omega) h2)
            | some z =>
              obtain ⟨x1, x2, x3, x4⟩ := ha.2 z rfl
              have hle := hv_le (Q := Q) hw (show k < 6 by omega) (show z < 6 by omega)
              rw [if_neg (show ¬ oI (some z) < 0 from pu_neg z (by omega)), hy, show hvL Y (some z) = hvI Y z from rfl]
              by_cases c : hvI Y k ≤ hvI Y z
              · rw [if_pos c]
                have c3 := hle.mp c
                refine ih m (some k) (by omega) (by omega) ⟨fun e => by simp at e, fun q e => ?_⟩
                simp only [Option.some.injEq] at e
                subst e
                refine ⟨Nat.le_refl _, hkn, hfr, fun j h1 h2 h3 => ?_⟩
                by_cases ej : j = k
                · subst ej; exact ⟨Nat.le_refl _, fun z => by omega⟩
                · have := (x4 j (by omega) h2 h3).1
                  exact ⟨by omega, fun w => by omega⟩
              · rw [if_neg c]
                have c3 : ¬ hvN Y k ≤ hvN Y z := fun w => c (hle.mpr w)
                refine ih m (some z) (by omega) (by omega) ⟨fun e => by simp at e, fun q e => ?_⟩
                simp only [Option.some.injEq] at e
                subst e
                refine ⟨by omega, x2, x3, fun j h1 h2 h3 => ?_⟩
                by_cases ej : j = k
                · subst ej; exact ⟨by omega, fun w => by omega⟩
                · exact x4 j (by omega) h2 h3
          by_cases e : Y 6 k 0 = 0
          · rw [decide_eq_true e, b2_t, if_neg (by decide)]
            exact fin (-2) (by unfold hvI; rw [if_pos e])
          · rw [decide_eq_false e, b2_f, if_pos rfl, hq_why hw h hkn]
            simp only [Option.bind_some]
            have hbt := hq_boot0 (Q := Q) hw (show k < 6 by omega)
            by_cases c3 : sWhy Y k = 0
            · rw [if_pos c3, hq_worth hw h hkn e]
              simp only [Option.bind_some]
              exact fin _ (by unfold hvI; rw [if_neg e, if_pos (hbt.mp c3)])
            · rw [if_neg c3]
              exact fin (-1) (by unfold hvI; rw [if_neg e, if_neg (fun z => c3 (hbt.mpr z))])
  obtain ⟨b', h1, h2⟩ := key n 8 none (Nat.le_refl _) (by omega) ⟨fun _ j h1 h2 => by omega, fun q e => by cases e⟩
  rw [argm_one (sp_up hw) h1]
  rw [show nI (n - 1) = nI n - 1 from (pu_sub n 1 n1).symm]
  exact h2
