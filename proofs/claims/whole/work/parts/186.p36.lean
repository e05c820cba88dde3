/-! THE COUNT OF BOOTS never falls; calmIn, newerIn -/
theorem tot_try {Y : pY} {k : Nat} : (sTry Y k).2 3 0 4 = Y 3 0 4 := by
  unfold sTry sTry1
  by_cases h1 : Y 6 k 5 = 0 <;> by_cases h2 : Y 5 k 4 = 0 <;> simp [b2_t, b2_f, up_at, up_up, up_id, h1, h2, wr_rd]
theorem tot_bootL : ∀ (d : Nat) (gv : Int32) (Y : pY), (sBootL d gv Y).2 3 0 4 = Y 3 0 4 := by
  intro d
  induction d with
  | zero => intro gv Y; rfl
  | succ d ih =>
    intro gv Y
    unfold sBootL
    cases sFirstBut (-1) Y with
    | none => rfl
    | some q =>
      dsimp only
      split
      · show wr (sTry Y q).2 0 0 11 (nI q) 3 0 4 = Y 3 0 4
        rw [wr_rd, if_neg (by decide)]; exact tot_try
      · rw [ih]; exact tot_try
theorem tot_boots {c : Int32} {Y : pY} : (sBoots c Y).2 3 0 4 = Y 3 0 4 + 1 := by
  have h := tot_bootL 6 0 (sBoot0 Y)
  have h0 : sBoot0 Y 3 0 4 = Y 3 0 4 := by simp [b2_t, b2_f, up_at, up_up, up_id, sBoot0, wr_rd]
  rw [sBoots_2]
  generalize sBootL 6 0 (sBoot0 Y) = r at *
  unfold sAdd
  simp [b2_t, b2_f, up_at, up_up, up_id, wr_rd, h, h0]
theorem tot_older {k : Nat} {Y : pY} : (sOlder k Y).2 3 0 4 = Y 3 0 4 := by
  unfold sOlder
  dsimp only
  split
  · unfold sCrash; dsimp only; split <;> simp [b2_t, b2_f, up_at, up_up, up_id, wr_rd]
  · split
    · unfold sSucc sSucc1; split <;> simp [b2_t, b2_f, up_at, up_up, up_id, wr_rd]
    · split <;> simp [b2_t, b2_f, up_at, up_up, up_id, wr_rd]
theorem tot_take {z : Nat} {Y : pY} : sTake z Y 3 0 4 = Y 3 0 4 := by
  unfold sTake
  rw [sStop_rd (by decide) (by decide)]
  simp [b2_t, b2_f, up_at, up_up, up_id, wr_rd, sImg]
  rw [sRoom_else (by omega)]
theorem tot_tick2 {Y : pY} : sTick2 Y 3 0 4 = Y 3 0 4 ∨ sTick2 Y 3 0 4 = Y 3 0 4 + 1 := by
  unfold sTick2
  split
  · left; rfl
  · split
    · left; rfl
    · dsimp only
      split
      · left; simp [b2_t, b2_f, up_at, up_up, up_id, wr_rd]
      · split
        · right; rw [tot_boots, wr_rd, if_neg (by decide), tot_take, wr_rd, if_neg (by decide)]
        · left; rw [wr_rd, if_neg (by decide), tot_take, wr_rd, if_neg (by decide)]
theorem tot_tickR {Y : pY} : sTickR Y 3 0 4 = Y 3 0 4 ∨ sTickR Y 3 0 4 = Y 3 0 4 + 1 := by
  unfold sTickR
  cases sRun Y with
  | none => left; rfl
  | some r =>
    dsimp only
    split
    · left; exact tot_older
    · right; rw [tot_boots, tot_older]
theorem tot_tick {Q n t : Nat} {Y : pY} (hQ : Q < 1000000) (h : wm Q n t Y) : (sTick Y 3 0 4 ≤ Y 3 0 4) ↔ sTick Y 3 0 4 = Y 3 0 4 := by
  obtain ⟨q, _, q2, q3⟩ := h.tot
  have h1 : sTick1 Y 3 0 4 = Y 3 0 4 := sTick1_sim Y 3 0 4 (by decide) (by decide)
  have key : sTick Y 3 0 4 = nI q ∨ sTick Y 3 0 4 = nI (q + 1) ∨ sTick Y 3 0 4 = nI (q + 2) := by
    unfold sTick
    have a1 : nI q + 1 = nI (q + 1) := pu_succ q
    have a2 : nI (q + 1) + 1 = nI (q + 2) := pu_succ (q + 1)
    rcases tot_tick2 (Y := sTickR (sTick1 Y)) with e | e <;> rcases tot_tickR (Y := sTick1 Y) with f | f <;> rw [e, f, h1, q3]
    · left; rfl
    · right; left; exact a1
    · right; left; exact a1
    · right; right; rw [a1, a2]
  rw [q3]
  rcases key with e | e | e <;> rw [e]
  · exact ⟨fun _ => rfl, fun _ => Int32.le_refl _⟩
  · rw [pu_le _ _ (by omega) (by omega), pu_eq _ _ (by omega) (by omega)]; omega
  · rw [pu_le _ _ (by omega) (by omega), pu_eq _ _ (by omega) (by omega)]; omega
theorem qX8_calm {X : bsX} {n : Nat} : ∀ (d k f Q t : Nat) (x : Int32) (Y : pY), k + d = 301 → d < f → Q + 2 * d < 900000 → wm Q n t Y → ∃ Z, fX8_calmIn_19 f x (nI k) (up X 1 Y) = some (0, sCalm d k x Y, up X 1 Z) := by
  intro d
  induction d with
  | zero =>
    intro k f Q t x Y hk hf hQ h
    obtain ⟨f, rfl⟩ : ∃ z, f = z + 1 := ⟨f - 1, by omega⟩
    obtain rfl : k = 301 := by omega
    refine ⟨Y, ?_⟩
    simp only [fX8_calmIn_19, sCalm]
    rw [if_pos (by decide)]
  | succ d ih =>
    intro k f Q t x Y hk hf hQ h
    obtain ⟨f, rfl⟩ : ∃ z, f = z + 1 := ⟨f - 1, by omega⟩
    obtain ⟨e, hw⟩ := qX3_tick (g := 1) (Q := Q) (n := n) (t := t) (X := up X 1 Y) (by omega) (by rw [up_at]; exact h)
    rw [up_at] at e hw
    simp only [fX8_calmIn_19, fX8_calmIn_70, sCalm]
    rw [if_neg (fun q => by have := (pu_lt 300 k (by omega) (by omega)).mp q; omega), qX3_set (Q := Q) (n := n) (t := t) (by rw [up_at]; exact h)]
    simp only [Option.bind_some, up_at]
    cases hs : sSet Y with
    | true => exact ⟨Y, by simp [b2_t, b2_f, up_at, up_up, up_id]⟩
    | false =>
      simp only [b2_f, if_true, e, Option.bind_some, up_up, up_at, pu_succ, Bool.false_eq_true, if_false]
      by_cases q : sTick Y 3 0 4 = Y 3 0 4
      · rw [if_pos q, if_pos q]
        exact ih (k + 1) f (Q + 2) (t + 1) x (sTick Y) (by omega) (by omega) (by omega) hw
      · rw [if_neg q, if_neg q]
        exact ih (k + 1) f (Q + 2) (t + 1) (nI k) (sTick Y) (by omega) (by omega) (by omega) hw
theorem q9_calm {X : bsX} {n : Nat} : ∀ (d k f Q t : Nat) (x : Int32) (Y : pY), k + d = 301 → d < f → Q + 2 * d < 900000 → wm Q n t Y → ∃ Z, fX9_calmNow_4 f x (nI k) (ro X (enc Y)) = some (rCalm d k x Y, ro X (enc Z)) := by
  intro d
  induction d with
  | zero =>
    intro k f Q t x Y hk hf hQ h
    obtain ⟨f, rfl⟩ : ∃ z, f = z + 1 := ⟨f - 1, by omega⟩
    obtain rfl : k = 301 := by omega
    refine ⟨Y, ?_⟩
    simp only [fX9_calmNow_4, rCalm]
    rw [if_pos (by decide)]
  | succ d ih =>
    intro k f Q t x Y hk hf hQ h
    obtain ⟨f, rfl⟩ : ∃ z, f = z + 1 := ⟨f - 1, by omega⟩
    have h1 := (qX3_tick (g := 0) (X := fun _ => Y) (by omega) h).2
    have r12 : ∀ W : pY, ro X (enc W) 14 1 0 12 = W 3 0 4 := by intro W; rw [ro_rd]; rfl
    simp only [fX9_calmNow_4, fX9_calmNow_39, rCalm]
    rw [if_neg (fun q => by have := (pu_lt 300 k (by omega) (by omega)).mp q; omega)]
    simp only [bi_12, bx_12, if_true, q9_tick (Q := Q) (X := X) (by omega) h, Option.bind_some, r12, pu_succ]
    have hm := tot_tick (by omega) h
    by_cases q : sTick Y 3 0 4 = Y 3 0 4
    · rw [if_pos (hm.mpr q), if_pos q]
      exact ih (k + 1) f (Q + 2) (t + 1) x (sTick Y) (by omega) (by omega) (by omega) h1
    · rw [if_neg (fun z => q (hm.mp z)), if_neg q]
      exact ih (k + 1) f (Q + 2) (t + 1) (nI k) (sTick Y) (by omega) (by omega) (by omega) h1
theorem sim_calmIn_ok : sim_calmIn Inv := by
  intro j X hj h
  have c10 : ¬ (1 : Int32) = 0 := by decide
  refine try0 (by omega) h ?_ ?_ ?_
  · intro e; unfold fX8_calmIn; rw [e]; rfl
  · intro e; unfold fX9_calmIn; rw [e]; simp only [Option.bind_some, c10, if_false]
  · intro n t Q Y e1 c1 hw hR ha hQ ht e2
    obtain ⟨Z, k1⟩ := qX8_calm (X := X) 300 1 bsF Q t 0 Y (by omega) (by unfold bsF; omega) (by omega) hw
    obtain ⟨W, k2⟩ := q9_calm (X := ar (th (up X 1 Z) 0) 2 (stK ((th (up X 1 Z) 0) 14 2 0) (enc Y) 10)) 300 1 bsF Q t 0 Y (by omega) (by unfold bsF; omega) (by omega) hw
    have k3 : fX9_calmNow_4 bsF (0 : Int32) (1 : Int32) (lk (th (up X 1 Z) 0) Y) = some (rCalm 300 1 0 Y, ro (ar (th (up X 1 Z) 0) 2 (stK ((th (up X 1 Z) 0) 14 2 0) (enc Y) 10)) (enc W)) := k2
    have k4 : fX8_calmIn_19 bsF (0 : Int32) (1 : Int32) (up X 1 Y) = some (0, sCalm 300 1 0 Y, up X 1 Z) := k1
    refine ⟨sCalm 300 1 0 Y, Z, ?_, ?_⟩
    · unfold fX8_calmIn
      rw [e1]
      simp only [Option.bind_some, if_true, c1]
      exact k4
    · unfold fX9_calmIn fX9_calmNow
      rw [e2]
      simp only [Option.bind_some, if_true, lay_lk (wt hR)]
      rw [k3]
      simp only [Option.bind_some]
      rw [back_lk (enc_160 W), rCalm_eq 300 1 Q t 0 Y (by omega) (by omega) hw]
      rfl
theorem qX3_runVer {g Q n t : Nat} {X : bsX} (h : wm Q n t (X g)) : fX3_runningVersion g X = some (sVer (X g), X) := by
  have h6 := h.hn
  unfold fX3_runningVersion sVer
  rcases h.hrun with ⟨e, er⟩ | ⟨r, hr, e, er, _⟩
  · have hm : (-1 : Int32) < 0 := by decide
    simp [b2_t, b2_f, up_at, up_up, up_id, e, er, hm]
  · have hr6 : r < 6 := by omega
    simp [b2_t, b2_f, up_at, up_up, up_id, e, er, pu_lt0 hr6, pu_le6 hr6, pu_inT hr6, pu_ix6 hr6]
theorem qX8_newer {X : bsX} {v : Int32} {n : Nat} : ∀ (d k f Q t : Nat) (Y : pY), k + d = 301 → d < f → Q + 2 * d < 900000 → wm Q n t Y → ∃ Z, fX8_newerIn_37 f v (nI k) (up X 1 Y) = some (0, sNew v d k Y, up X 1 Z) := by
  intro d
  induction d with
  | zero =>
    intro k f Q t Y hk hf hQ h
    obtain ⟨f, rfl⟩ : ∃ z, f = z + 1 := ⟨f - 1, by omega⟩
    obtain rfl : k = 301 := by omega
    refine ⟨Y, ?_⟩
    simp only [fX8_newerIn_37, sNew]
    rw [if_pos (by decide)]
  | succ d ih =>
    intro k f Q t Y hk hf hQ h
    obtain ⟨f, rfl⟩ : ∃ z, f = z + 1 := ⟨f - 1, by omega⟩
    obtain ⟨e, hw⟩ := qX3_tick (g := 1) (Q := Q) (n := n) (t := t) (X := up X 1 Y) (by omega) (by rw [up_at]; exact h)
    rw [up_at] at e hw
    have hv := qX3_runVer (g := 1) (Q := Q + 2) (n := n) (t := t + 1) (X := up X 1 (sTick Y)) (by rw [up_at]; exact hw)
    rw [up_at] at hv
    simp only [fX8_newerIn_37, sNew]
    rw [if_neg (fun q => by have := (pu_lt 300 k (by omega) (by omega)).mp q; omega), qX3_set (Q := Q) (n := n) (t := t) (by rw [up_at]; exact h)]
    simp only [Option.bind_some, up_at]
    cases hs : sSet Y with
    | true => exact ⟨Y, by simp [b2_t, b2_f, up_at, up_up, up_id]⟩
    | false =>
      simp only [b2_f, if_true, e, Option.bind_some, up_up, hv, pu_succ, Bool.false_eq_true, if_false]
      by_cases q : sVer (sTick Y) ≤ v
      · rw [if_pos q, if_neg (pu_nlt.mpr q)]
        exact ih (k + 1) f (Q + 2) (t + 1) (sTick Y) (by omega) (by omega) (by omega) hw
      · rw [if_neg q, if_pos (pu_nle.mp q)]
        exact ⟨_, rfl⟩
