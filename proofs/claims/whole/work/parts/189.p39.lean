/-- the stores behind a keep -/
def kpS (S R : Nat → Int32) (ck : Nat) : Nat → Int32 := if ck = 8 then stK (shS S 1120) R 7 else stK S R ck
def stR (S : Nat → Int32) (k : Nat) : Nat → Int32 := fun d => if d < 160 then S (160 * k + d) else 0
theorem stRow_R (X : bsX) (k : Nat) : stRow X k = stR (X 14 2 0) k := rfl
theorem stK_same {S R : Nat → Int32} {k : Nat} (hR : r160 R) : stR (stK S R k) k = R := by
  funext d
  unfold stR stK cpR
  by_cases e : d < 160
  · rw [if_pos e, if_pos (by omega)]
    have : 0 + (160 * k + d - 160 * k) = d := by omega
    rw [this]
  · rw [if_neg e]; exact (hR d (by omega)).symm
theorem stK_other {S R : Nat → Int32} {k i : Nat} (h : i ≠ k) : stR (stK S R k) i = stR S i := by
  funext d
  unfold stR stK cpR
  by_cases e : d < 160
  · rw [if_pos e, if_pos e, if_neg (by omega)]
  · rw [if_neg e, if_neg e]
theorem shS_lo {S : Nat → Int32} {i : Nat} (h : i < 7) : stR (shS S 1120) i = stR S (i + 1) := by
  funext d
  unfold stR shS
  by_cases e : d < 160
  · rw [if_pos e, if_pos e, if_pos (by omega)]
    congr 1; omega
  · rw [if_neg e, if_neg e]
theorem shS_hi {S : Nat → Int32} {i : Nat} (h : 7 ≤ i) : stR (shS S 1120) i = stR S i := by
  funext d
  unfold stR shS
  by_cases e : d < 160
  · rw [if_pos e, if_pos e, if_neg (by omega)]
  · rw [if_neg e, if_neg e]
theorem kpS_old {S R : Nat → Int32} {ck i : Nat} (hc : ck ≤ 8) (h : i + 1 < min (ck + 1) 8) : stR (kpS S R ck) i = if ck = 8 then stR S (i + 1) else stR S i := by
  unfold kpS
  by_cases e : ck = 8
  · rw [if_pos e, if_pos e, stK_other (by omega), shS_lo (by omega)]
  · rw [if_neg e, if_neg e, stK_other (by omega)]
theorem kpS_new {S R : Nat → Int32} {ck : Nat} (hc : ck ≤ 8) (hR : r160 R) : stR (kpS S R ck) (min (ck + 1) 8 - 1) = R := by
  unfold kpS
  by_cases e : ck = 8
  · have : min (ck + 1) 8 - 1 = 7 := by omega
    rw [if_pos e, this, stK_same hR]
  · have : min (ck + 1) 8 - 1 = ck := by omega
    rw [if_neg e, this, stK_same hR]
theorem kpS_saved {S R : Nat → Int32} {ck i : Nat} (hc : ck ≤ 8) (hi : 8 ≤ i) : stR (kpS S R ck) i = stR S i := by
  unfold kpS
  by_cases e : ck = 8
  · rw [if_pos e, stK_other (by omega), shS_hi (by omega)]
  · rw [if_neg e, stK_other (by omega)]
theorem q9_keepsAll {X : bsX} {ck : Nat} (hc : ck ≤ 8) (h : X 14 0 0 4 = nI ck) : fX9_keepsAll X = some (bsWr (ar X 2 (kpS (X 14 2 0) (X 14 1 0) ck)) 14 0 0 4 (nI (min (ck + 1) 8))) := by
  unfold fX9_keepsAll kpS
  rw [h]
  by_cases e : ck = 8
  · subst e
    have e2 : nI 8 = (8 : Int32) := rfl
    rw [if_pos e2, q9_shiftS h]
    have h7 : bsWr (ar X 2 (shS (X 14 2 0) 1120)) 14 0 0 4 (nI 7) 14 0 0 4 = nI 7 := by simp [b2_t, b2_f, up_at, up_up, up_id, bsWr]
    have hs2 : bsWr (ar X 2 (shS (X 14 2 0) 1120)) 14 0 0 4 (nI 7) 14 2 0 = shS (X 14 2 0) 1120 := by
      funext d; unfold bsWr; rw [if_neg (by omega), ar_rd]
    have hs1 : bsWr (ar X 2 (shS (X 14 2 0) 1120)) 14 0 0 4 (nI 7) 14 1 0 = X 14 1 0 := by
      funext d; unfold bsWr; rw [if_neg (by omega), ar_ne _ _ _ (by decide)]
    rw [q9_keeps50 (by decide) h7, hs2, hs1]
    congr 1
    funext a b c d
    unfold bsWr
    simp only [ar_val]
    by_cases q : a = 14 ∧ b = 0 ∧ c = 0 ∧ d = 4
    · rw [if_pos q, if_pos q]; rfl
    · rw [if_neg q, if_neg q]
      by_cases q2 : a = 14 ∧ b = 2 ∧ c = 0
      · obtain ⟨rfl, rfl, rfl⟩ := q2; simp [b2_t, b2_f, up_at, up_up, up_id]
      · simp [b2_t, b2_f, up_at, up_up, up_id, q, q2]
  · have e2 : ¬ nI ck = (8 : Int32) := fun z => e ((pu_eq ck 8 (by omega) (by omega)).mp z)
    have e3 : min (ck + 1) 8 = ck + 1 := by omega
    rw [if_neg e2, if_neg e, q9_keeps50 (by omega) h, e3]
/-- the ring behind a keep and a change -/
theorem keep_U {J : Nat} {X Z : bsX} {np ck : Nat} {Yk : pY} (h1 : np < 8) (h2 : ck ≤ 8) (hold : ∀ i, i < ck → Mach J (X (2 + (np + 8 - ck + i) % 8)) (stRow X i)) (hm : Mach J Yk (X 14 1 0)) (hR : r160 (X 14 1 0))
    (z1 : Z 13 0 0 8 = nI ((np + 1) % 8)) (z2 : Z 13 0 0 9 = nI (min (ck + 1) 8)) (z3 : Z 14 0 0 4 = nI (min (ck + 1) 8)) (z4 : Z 14 2 0 = kpS (X 14 2 0) (X 14 1 0) ck) (z5 : Z (2 + np) = Yk) (z6 : ∀ g, 2 ≤ g → g < 10 → g ≠ 2 + np → Z g = X g) : InvU (J + 1) Z := by
  refine ⟨(np + 1) % 8, min (ck + 1) 8, by omega, by omega, z1, z2, z3, ?_⟩
  intro i hi
  rw [stRow_R, z4]
  by_cases e : i = min (ck + 1) 8 - 1
  · subst e
    rw [kpS_new h2 hR]
    have : 2 + ((np + 1) % 8 + 8 - min (ck + 1) 8 + (min (ck + 1) 8 - 1)) % 8 = 2 + np := by omega
    rw [this, z5]
    exact hm.up
  · rw [kpS_old h2 (by omega)]
    by_cases e8 : ck = 8
    · subst e8
      rw [if_pos rfl]
      have a1 : ((np + 1) % 8 + 8 - min (8 + 1) 8 + i) % 8 = (np + 8 - 8 + (i + 1)) % 8 := by omega
      rw [a1, z6 _ (by omega) (by omega) (by omega)]
      exact (hold (i + 1) (by omega)).up
    · rw [if_neg e8]
      have a1 : ((np + 1) % 8 + 8 - min (ck + 1) 8 + i) % 8 = (np + 8 - ck + i) % 8 := by omega
      rw [a1, z6 _ (by omega) (by omega) (by omega)]
      exact (hold i (by omega)).up
