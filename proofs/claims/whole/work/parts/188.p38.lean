/-! THE RING OF CHANGES: what is kept before a change -/
theorem pu_mod8 (n : Nat) (h : n < 2147483648) : nI n - nI n / (8 : Int32) * (8 : Int32) = nI (n % 8) := by
  rw [show (8 : Int32) = nI 8 from rfl, pu_div n 8 h (by decide) (by decide), pu_mul, pu_sub _ _ (Nat.div_mul_le_self n 8)]
  congr 1; omega
theorem pu_min8 {z : Nat} (hz : z < 2147483648) : bsMin (nI z) 8 = nI (min z 8) := by
  have e : ((8 : Int32) < nI z) ↔ 8 < z := pu_lt 8 z hz (by decide)
  unfold bsMin
  by_cases h : 8 < z
  · have : min z 8 = 8 := by omega
    simp only [e.mpr h, if_true, this]; rfl
  · have h2 : ¬ (8 : Int32) < nI z := fun x => h (e.mp x)
    have : min z 8 = z := by omega
    simp only [h2, if_false, this]
/-- the class's two counters -/
def c13 (X : bsX) (np ck : Nat) : bsX := bsWr (bsWr X 13 0 0 8 (nI np)) 13 0 0 9 (nI ck)
theorem qX8_remember {X : bsX} {np ck n t Q : Nat} (h1 : np < 8) (h2 : ck ≤ 8) (h3 : X 13 0 0 8 = nI np) (h4 : X 13 0 0 9 = nI ck) (hw : wm Q n t (X 0)) :
    fX8_remember X = some (c13 (up X (2 + np) (sCopy (X 0) (X (2 + np)))) ((np + 1) % 8) (min (ck + 1) 8)) := by
  have e8 : ¬ (8 : Int32) ≤ nI np := fun q => by have := (pu_le 8 np (by omega) (by decide)).mp q; omega
  have hc := qX3_copy (g := 2 + np) (g2 := 0) (X := X) (by omega) hw
  have u13 : ∀ Y : pY, up X (2 + np) Y 13 = X 13 := fun Y => up_ne _ _ (by omega)
  have w9 : ∀ (Z : bsX) v, bsWr Z 13 0 0 8 v 13 0 0 9 = Z 13 0 0 9 := by intro Z v; simp [b2_t, b2_f, up_at, up_up, up_id, bsWr]
  unfold fX8_remember fX8_remember_32
  rw [h3, if_neg (pu_neg np (by omega)), if_neg e8, if_pos ((pu_in np 8 (by omega)).mpr h1), pu_ix np (by omega), hc]
  simp only [Option.bind_some, w9, u13, h3, h4, pu_succ]
  rw [pu_mod8 (np + 1) (by omega), pu_min8 (by omega)]
  rfl
/-- the reference's rows moved down by one -/
def shS (S : Nat → Int32) (m : Nat) : Nat → Int32 := fun d => if d < m then S (d + 160) else S d
theorem q9_shiftS {X : bsX} (h8 : X 14 0 0 4 = nI 8) : fX9_keepsAll_11 bsF (0 : Int32) X = fX9_keepsAll_50 (bsWr (ar X 2 (shS (X 14 2 0) 1120)) 14 0 0 4 (nI 7)) := by
  have key : ∀ d k m, k + d = 1120 → d < m → fX9_keepsAll_11 m (nI k) (ar X 2 (shS (X 14 2 0) k)) = fX9_keepsAll_50 (bsWr (ar X 2 (shS (X 14 2 0) 1120)) 14 0 0 4 (nI 7)) := by
    intro d
    induction d with
    | zero =>
      intro k m hk hm
      obtain ⟨m, rfl⟩ : ∃ z, m = z + 1 := ⟨m - 1, by omega⟩
      obtain rfl : k = 1120 := by omega
      have e : ((1120 : Int32) ≤ nI 1120) = True := eq_true (by decide)
      have e2 : ar X 2 (shS (X 14 2 0) 1120) 14 0 0 4 = nI 8 := by rw [ar_ne _ _ _ (by decide)]; exact h8
      have e3 : nI 8 - 1 = nI 7 := by decide
      simp only [fX9_keepsAll_11, e, if_true, e2, e3]
    | succ d ih =>
      intro k m hk hm
      obtain ⟨m, rfl⟩ : ∃ z, m = z + 1 := ⟨m - 1, by omega⟩
      have e : ((1120 : Int32) ≤ nI k) = False := eq_false (by rw [show (1120 : Int32) = nI 1120 from rfl, pu_le _ _ (by omega) (by omega)]; omega)
      have e4 : nI k + (160 : Int32) = nI (k + 160) := pu_add k 160
      have e5 : pt (shS (X 14 2 0) k) k (shS (X 14 2 0) k (k + 160)) = shS (X 14 2 0) (k + 1) := by
        funext d'
        unfold pt shS
        by_cases q : d' = k
        · subst q; rw [if_pos rfl, if_neg (by omega), if_pos (by omega)]
        · rw [if_neg q]
          by_cases q2 : d' < k
          · rw [if_pos q2, if_pos (by omega)]
          · rw [if_neg q2, if_neg (by omega)]
      simp only [fX9_keepsAll_11, e, if_false, e4, pu_inT (show k + 160 < 1760 by omega) (by decide), pu_inT (show k < 1760 by omega) (by decide), if_true, pu_ix k (by omega), pu_ix (k + 160) (by omega), ar_rd, ar_wr, pu_succ, e5]
      exact ih (k + 1) m (by omega) (by omega)
  have := key 1120 0 bsF (by omega) (by unfold bsF; omega)
  have e : shS (X 14 2 0) 0 = X 14 2 0 := by funext d; unfold shS; rw [if_neg (by omega)]
  rw [e, ar_id] at this
  exact this
theorem q9_keeps50 {X : bsX} {ck : Nat} (hc : ck < 8) (h : X 14 0 0 4 = nI ck) : fX9_keepsAll_50 X = some (bsWr (ar X 2 (stK (X 14 2 0) (X 14 1 0) ck)) 14 0 0 4 (nI (ck + 1))) := by
  have e : (160 : Int32) * ((0 : Int32) + nI ck) = nI (160 * ck) := by
    rw [show (0 : Int32) = nI 0 from rfl, show (160 : Int32) = nI 160 from rfl, pu_add, pu_mul, Nat.zero_add]
  have e2 : ∀ R, ar X 2 R 14 0 0 4 = nI ck := by intro R; rw [ar_ne _ _ _ (by decide)]; exact h
  unfold fX9_keepsAll_50
  rw [h, e, show (0 : Int32) = nI 0 from rfl, q9_toSt (by omega)]
  simp only [Option.bind_some, e2, pu_succ]
