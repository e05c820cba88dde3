/-! THE REFERENCE'S LOOKS AHEAD -/
theorem q9_ticksAllL {X : bsX} {m n : Nat} (hm : m < 1000) : ∀ (d k f Q t : Nat) (Y : pY), k + d = m → d < f → Q + 2 * d < 1000000 → wm Q n t Y → fX9_ticksAll_2 f (nI m) (nI k) (ro X (enc Y)) = some (ro X (enc (sTicks d Y))) := by
  intro d
  induction d with
  | zero =>
    intro k f Q t Y hk hf hQ h
    obtain ⟨f, rfl⟩ : ∃ z, f = z + 1 := ⟨f - 1, by omega⟩
    simp only [fX9_ticksAll_2, sTicks]
    rw [if_pos ((pu_le m k (by omega) (by omega)).mpr (by omega))]
  | succ d ih =>
    intro k f Q t Y hk hf hQ h
    obtain ⟨f, rfl⟩ : ∃ z, f = z + 1 := ⟨f - 1, by omega⟩
    have h1 := (qX3_tick (g := 0) (X := fun _ => Y) (by omega) h).2
    simp only [fX9_ticksAll_2, sTicks]
    rw [if_neg (fun q => by have := (pu_le m k (by omega) (by omega)).mp q; omega), q9_tick (Q := Q) (by omega) h]
    simp only [Option.bind_some, pu_succ]
    exact ih (k + 1) f (Q + 2) (t + 1) (sTick Y) (by omega) (by omega) (by omega) h1
theorem q9_ticksAll {X : bsX} {m n Q t : Nat} {Y : pY} (hm : m < 1000) (hQ : Q < 900000) (h : wm Q n t Y) : fX9_ticksAll (nI m) (ro X (enc Y)) = some (ro X (enc (sTicks m Y))) :=
  q9_ticksAllL hm m 0 bsF Q t Y (by omega) (by unfold bsF; omega) (by omega) h
theorem q9_toResc {X : bsX} {n : Nat} : ∀ (d k f Q t : Nat) (Y : pY), k + d = 301 → d < f → Q + 2 * d < 1000000 → wm Q n t Y → ∃ Z, fX9_rescueNow_2 f (nI k) (ro X (enc Y)) = some (rWhen sResc d k Y, ro X (enc Z)) := by
  intro d
  induction d with
  | zero =>
    intro k f Q t Y hk hf hQ h
    obtain ⟨f, rfl⟩ : ∃ z, f = z + 1 := ⟨f - 1, by omega⟩
    obtain rfl : k = 301 := by omega
    refine ⟨Y, ?_⟩
    simp only [fX9_rescueNow_2, rWhen]
    rw [if_pos (by decide)]
  | succ d ih =>
    intro k f Q t Y hk hf hQ h
    obtain ⟨f, rfl⟩ : ∃ z, f = z + 1 := ⟨f - 1, by omega⟩
    have h1 := (qX3_tick (g := 0) (X := fun _ => Y) (by omega) h).2
    have hr : ro X (enc Y) 14 1 0 6 = sSt Y := by rw [ro_rd]; rfl
    simp only [fX9_rescueNow_2, rWhen, bi_6, bx_6, if_true, hr]
    rw [if_neg (fun q => by have := (pu_lt 300 k (by omega) (by omega)).mp q; omega)]
    by_cases h2 : sResc Y = true
    · rw [if_pos (h.st.1.mpr h2), if_pos h2]; exact ⟨Y, rfl⟩
    · rw [if_neg (fun q => h2 (h.st.1.mp q)), if_neg h2, q9_tick (Q := Q) (by omega) h]
      simp only [Option.bind_some, pu_succ]
      exact ih (k + 1) f (Q + 2) (t + 1) (sTick Y) (by omega) (by omega) (by omega) h1
theorem q9_toGood {X : bsX} {n j : Nat} (hj : j < 6) : ∀ (d k f Q t : Nat) (Y : pY), k + d = 301 → d < f → Q + 2 * d < 1000000 → wm Q n t Y → ∃ Z, fX9_goodNow_2 f (nI j) (nI k) (ro X (enc Y)) = some (rWhen (fun Z => Z 5 j 4 ≠ 0) d k Y, ro X (enc Z)) := by
  intro d
  induction d with
  | zero =>
    intro k f Q t Y hk hf hQ h
    obtain ⟨f, rfl⟩ : ∃ z, f = z + 1 := ⟨f - 1, by omega⟩
    obtain rfl : k = 301 := by omega
    refine ⟨Y, ?_⟩
    simp only [fX9_goodNow_2, rWhen]
    rw [if_pos (by decide)]
  | succ d ih =>
    intro k f Q t Y hk hf hQ h
    obtain ⟨f, rfl⟩ : ∃ z, f = z + 1 := ⟨f - 1, by omega⟩
    have h1 := (qX3_tick (g := 0) (X := fun _ => Y) (by omega) h).2
    have hg : fX9_isGood (nI j) (ro X (enc Y)) = some (b2 (decide (Y 5 j 4 ≠ 0)), ro X (enc Y)) := q9_good hj (h.sl j hj).2.2.2.1
    simp only [fX9_goodNow_2, rWhen, hg, Option.bind_some]
    rw [if_neg (fun q => by have := (pu_lt 300 k (by omega) (by omega)).mp q; omega)]
    by_cases h2 : Y 5 j 4 = 0
    · have e : decide (Y 5 j 4 ≠ 0) = false := by simp [b2_t, b2_f, up_at, up_up, up_id, h2]
      simp only [e, b2_f, if_true, Bool.false_eq_true, if_false, q9_tick (Q := Q) (by omega) h, Option.bind_some, pu_succ]
      exact ih (k + 1) f (Q + 2) (t + 1) (sTick Y) (by omega) (by omega) (by omega) h1
    · have e : decide (Y 5 j 4 ≠ 0) = true := by simp [b2_t, b2_f, up_at, up_up, up_id, h2]
      have c10 : ¬ (1 : Int32) = 0 := by decide
      simp only [e, b2_t, c10, if_true, if_false]; exact ⟨Y, rfl⟩
/-- the last tick of d behind which the count of boots had grown -/
def rCalm : Nat → Nat → Int32 → pY → Int32
  | 0, _, x, _ => x
  | d + 1, k, x, Y => rCalm d (k + 1) (if sTick Y 3 0 4 = Y 3 0 4 then x else nI k) (sTick Y)
def sCalm : Nat → Nat → Int32 → pY → Int32
  | 0, _, x, _ => x
  | d + 1, k, x, Y => if sSet Y then x else sCalm d (k + 1) (if sTick Y 3 0 4 = Y 3 0 4 then x else nI k) (sTick Y)
theorem rCalm_no {n : Nat} : ∀ (d k Q t : Nat) (x : Int32) (Y : pY), Q + 2 * d < 1000000 → t + d < 1000000 → wm Q n t Y → sSet Y = true → rCalm d k x Y = x := by
  intro d
  induction d with
  | zero => intro k Q t x Y _ _ _ _; rfl
  | succ d ih =>
    intro k Q t x Y hQ ht h hs
    have h1 := (qX3_tick (g := 0) (X := fun _ => Y) (by omega) h).2
    have h2 := settled_tick h (by omega) hs
    unfold rCalm
    rw [if_pos (h2.1 3 0 4 (by decide) (by decide))]
    exact ih (k + 1) (Q + 2) (t + 1) x (sTick Y) (by omega) (by omega) h1 h2.2
theorem rCalm_eq {n : Nat} : ∀ (d k Q t : Nat) (x : Int32) (Y : pY), Q + 2 * d < 1000000 → t + d < 1000000 → wm Q n t Y → rCalm d k x Y = sCalm d k x Y := by
  intro d
  induction d with
  | zero => intro k Q t x Y _ _ _; rfl
  | succ d ih =>
    intro k Q t x Y hQ ht h
    have h1 := (qX3_tick (g := 0) (X := fun _ => Y) (by omega) h).2
    unfold sCalm
    by_cases hs : sSet Y = true
    · rw [if_pos hs]; exact rCalm_no (d + 1) k Q t x Y hQ ht h hs
    · rw [if_neg hs]; unfold rCalm
      exact ih (k + 1) (Q + 2) (t + 1) _ (sTick Y) (by omega) (by omega) h1
def sVer (Y : pY) : Int32 := match sRun Y with | none => -1 | some r => Y 6 r 1
/-- the first tick of d behind which a newer version than v runs -/
def rNew (v : Int32) : Nat → Nat → pY → Int32
  | 0, _, _ => -1
  | d + 1, k, Y => if v < sVer (sTick Y) then nI k else rNew v d (k + 1) (sTick Y)
def sNew (v : Int32) : Nat → Nat → pY → Int32
  | 0, _, _ => -1
  | d + 1, k, Y => if sSet Y then -1 else if v < sVer (sTick Y) then nI k else sNew v d (k + 1) (sTick Y)
theorem sim.ver {Y Z : pY} (h : sim Y Z) : sVer Y = sVer Z := by
  have e : sRun Y = sRun Z := by unfold sRun; rw [h 0 0 11 (by decide) (by decide)]
  unfold sVer; rw [e]
  cases sRun Z with
  | none => rfl
  | some r => exact h 6 r 1 (by omega) (by omega)
theorem rNew_no {v : Int32} {n : Nat} : ∀ (d k Q t : Nat) (Y : pY), Q + 2 * d < 1000000 → t + d < 1000000 → wm Q n t Y → sSet Y = true → ¬ v < sVer Y → rNew v d k Y = -1 := by
  intro d
  induction d with
  | zero => intro k Q t Y _ _ _ _ _; rfl
  | succ d ih =>
    intro k Q t Y hQ ht h hs hv
    have h1 := (qX3_tick (g := 0) (X := fun _ => Y) (by omega) h).2
    have h2 := settled_tick h (by omega) hs
    have hv2 : ¬ v < sVer (sTick Y) := by rw [h2.1.ver]; exact hv
    unfold rNew
    rw [if_neg hv2]
    exact ih (k + 1) (Q + 2) (t + 1) (sTick Y) (by omega) (by omega) h1 h2.2 hv2
theorem rNew_eq {v : Int32} {n : Nat} : ∀ (d k Q t : Nat) (Y : pY), Q + 2 * d < 1000000 → t + d < 1000000 → wm Q n t Y → ¬ v < sVer Y → rNew v d k Y = sNew v d k Y := by
  intro d
  induction d with
  | zero => intro k Q t Y _ _ _ _; rfl
  | succ d ih =>
    intro k Q t Y hQ ht h hv
    have h1 := (qX3_tick (g := 0) (X := fun _ => Y) (by omega) h).2
    unfold sNew
    by_cases hs : sSet Y = true
    · rw [if_pos hs]; exact rNew_no (d + 1) k Q t Y hQ ht h hs hv
    · rw [if_neg hs]; unfold rNew
      by_cases h3 : v < sVer (sTick Y)
      · rw [if_pos h3, if_pos h3]
      · rw [if_neg h3, if_neg h3]
        exact ih (k + 1) (Q + 2) (t + 1) (sTick Y) (by omega) (by omega) h1 h3
theorem q9_newer {X : bsX} {v : Int32} {n : Nat} (hv : rng v 0 99) : ∀ (d k f Q t : Nat) (Y : pY), k + d = 301 → d < f → Q + 2 * d < 1000000 → wm Q n t Y → ∃ Z, fX9_newerNow_2 f v (nI k) (ro X (enc Y)) = some (rNew v d k Y, ro X (enc Z)) := by
  have hvm : ¬ v < (-1 : Int32) := by
    obtain ⟨m, _, m2, rfl⟩ := hv
    intro e
    have h1 : nI m < 0 := Int32.lt_trans e (by decide)
    exact pu_neg m (by omega) h1
  intro d
  induction d with
  | zero =>
    intro k f Q t Y hk hf hQ h
    obtain ⟨f, rfl⟩ : ∃ z, f = z + 1 := ⟨f - 1, by omega⟩
    obtain rfl : k = 301 := by omega
    refine ⟨Y, ?_⟩
    simp only [fX9_newerNow_2, rNew]
    rw [if_pos (by decide)]
  | succ d ih =>
    intro k f Q t Y hk hf hQ h
    obtain ⟨f, rfl⟩ : ∃ z, f = z + 1 := ⟨f - 1, by omega⟩
    have h1 := (qX3_tick (g := 0) (X := fun _ => Y) (by omega) h).2
    have hst := h1.st
    have h6 := h.hn
    simp only [fX9_newerNow_2, fX9_newerNow_43, rNew]
    rw [if_neg (fun q => by have := (pu_lt 300 k (by omega) (by omega)).mp q; omega), q9_tick (Q := Q) (by omega) h]
    have hr6 : ro X (enc (sTick Y)) 14 1 0 6 = sSt (sTick Y) := by rw [ro_rd]; rfl
    have hr7 : ro X (enc (sTick Y)) 14 1 0 7 = sTick Y 0 0 11 := by rw [ro_rd]; rfl
    simp only [Option.bind_some, bi_6, bx_6, bi_7, bx_7, if_true, hr6, hr7, pu_succ]
    obtain ⟨Z, hZ⟩ := ih (k + 1) f (Q + 2) (t + 1) (sTick Y) (by omega) (by omega) (by omega) h1
    rcases h1.hrun with ⟨e, er⟩ | ⟨r, hr, e, er, hon, hp⟩
    · have hs1 : ¬ sSt (sTick Y) = 1 := fun q => by have := hst.2.1.mp q; rw [er] at this; cases this
      have hv0 : sVer (sTick Y) = -1 := by unfold sVer; rw [er]
      rw [if_neg hs1, hv0, if_neg hvm]
      exact ⟨Z, hZ⟩
    · have hr66 : r < 6 := by omega
      have hs1 : sSt (sTick Y) = 1 := hst.2.1.mpr (by rw [er]; rfl)
      have hv0 : sVer (sTick Y) = sTick Y 6 r 1 := by unfold sVer; rw [er]
      have ho : fX9_of (nI r) 8 (ro X (enc (sTick Y))) = some (sTick Y 6 r 1, ro X (enc (sTick Y))) := q9_of8 hr66 _ _ _ _ _
      rw [if_pos hs1, e, ho, hv0]
      simp only [Option.bind_some]
      by_cases h3 : sTick Y 6 r 1 ≤ v
      · rw [if_pos h3, if_neg (pu_nlt.mpr h3)]; exact ⟨Z, hZ⟩
      · rw [if_neg h3, if_pos (pu_nle.mp h3)]; exact ⟨_, rfl⟩
