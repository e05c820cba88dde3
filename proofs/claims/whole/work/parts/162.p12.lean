/-! THE REFERENCE'S ROW of a machine -/
def eS (Y : pY) (k w : Nat) : Int32 :=
  match w with
  | 0 => Y 6 k 0
  | 1 => Y 5 k 2
  | 2 => Y 5 k 3
  | 3 => Y 5 k 4
  | 4 => Y 5 k 5
  | 5 => Y 5 k 6
  | 6 => Y 5 k 7
  | 7 => Y 5 k 8
  | 8 => Y 6 k 1
  | 9 => Y 6 k 2
  | 10 => Y 6 k 3
  | 11 => Y 6 k 4
  | 12 => Y 6 k 5
  | _ => 0
def eN (Y : pY) (i : Nat) : Int32 :=
  match i with
  | 0 => Y 0 0 4
  | 1 => Y 0 0 9
  | 2 => Y 0 0 5
  | 3 => Y 0 0 6
  | 4 => Y 0 0 7
  | 5 => Y 0 0 8
  | 12 => Y 3 0 4
  | 13 => Y 4 0 0
  | 14 => Y 4 0 1
  | 15 => Y 4 0 2
  | 16 => Y 4 0 3
  | 17 => Y 4 0 4
  | 18 => Y 4 0 5
  | 19 => Y 4 0 6
  | 20 => Y 2 0 1
  | 21 => if Y 2 0 1 = -1 then -1 else Y 2 0 2
  | 22 => if Y 2 0 1 = -1 then -1 else Y 6 6 1
  | 23 => if Y 2 0 1 = -1 then -1 else Y 6 6 2
  | 24 => if Y 2 0 1 = -1 then -1 else Y 6 6 3
  | 25 => if Y 2 0 1 = -1 then -1 else Y 6 6 4
  | 26 => if Y 2 0 1 = -1 then -1 else Y 6 6 5
  | 27 => if Y 2 0 1 = -1 then -1 else Y 2 0 3
  | 28 => bsMin (Y 3 0 4) 12
  | _ => 0
def eL (Y : pY) (r c : Nat) : Int32 := if r < min (bsIx (Y 3 0 4)) 12 then Y (7 + c) 0 ((bsIx (Y 3 0 4) - min (bsIx (Y 3 0 4)) 12 + r) % 12) else 0
/-- the row of Y, with what stands at 6, 7, 8: state, what runs, age -/
def row (Y : pY) (a b c : Int32) : Nat → Int32 := fun i => if i = 6 then a else if i = 7 then b else if i = 8 then c else if i < 29 then eN Y i else if i < 77 then eL Y ((i - 29) / 4) ((i - 29) % 4) else if 80 ≤ i ∧ i < 158 then eS Y ((i - 80) / 13) ((i - 80) % 13) else 0
def ro (X : bsX) (R : Nat → Int32) : bsX := fun a b c d => if a = 14 ∧ b = 1 ∧ c = 0 then R d else X a b c d
def pt (R : Nat → Int32) (i : Nat) (v : Int32) : Nat → Int32 := fun d => if d = i then v else R d
theorem ro_wr (X : bsX) (R : Nat → Int32) (i : Nat) (v : Int32) : bsWr (ro X R) 14 1 0 i v = ro X (pt R i v) := by
  funext a b c d; unfold bsWr ro pt
  by_cases h : a = 14 ∧ b = 1 ∧ c = 0
  · obtain ⟨rfl, rfl, rfl⟩ := h; simp [b2_t, b2_f, up_at, up_up, up_id]
  · have h2 : ¬ (a = 14 ∧ b = 1 ∧ c = 0 ∧ d = i) := fun q => h ⟨q.1, q.2.1, q.2.2.1⟩
    simp only [h, h2, if_false]
theorem ro_rd (X : bsX) (R : Nat → Int32) (i : Nat) : ro X R 14 1 0 i = R i := by simp [b2_t, b2_f, up_at, up_up, up_id, ro]
theorem ro_ro (X : bsX) (R S : Nat → Int32) : ro (ro X R) S = ro X S := by
  funext a b c d; unfold ro; split <;> rfl
theorem ro_id (X : bsX) : ro X (X 14 1 0) = X := by
  funext a b c d; unfold ro
  split
  · rename_i h; obtain ⟨rfl, rfl, rfl⟩ := h; rfl
  · rfl
theorem eS_wr {Y : pY} {K k i : Nat} {v : Int32} (h : K ≠ 5 ∧ K ≠ 6) (k2 w : Nat) : eS (wr Y K k i v) k2 w = eS Y k2 w := by
  obtain ⟨h1, h2⟩ := h
  unfold eS; split <;> simp [b2_t, b2_f, up_at, up_up, up_id, wr_rd, h1.symm, h2.symm]
theorem eS_wr6 {Y : pY} {i : Nat} {v : Int32} {k2 : Nat} (h : k2 < 6) (w : Nat) : eS (wr Y 6 6 i v) k2 w = eS Y k2 w := by
  have : k2 ≠ 6 := by omega
  unfold eS; split <;> simp [b2_t, b2_f, up_at, up_up, up_id, wr_rd, this]
theorem eL_wr {Y : pY} {K k i : Nat} {v : Int32} (h : K ≤ 6) (h3 : K ≠ 3) (r c : Nat) : eL (wr Y K k i v) r c = eL Y r c := by
  have h1 : ∀ a b d, wr Y K k i v (7 + a) b d = Y (7 + a) b d := by
    intro a b d; rw [wr_rd, if_neg (by omega)]
  have h2 : wr Y K k i v 3 0 4 = Y 3 0 4 := by rw [wr_rd, if_neg (by omega)]
  unfold eL; rw [h2, h1]
theorem eN_wrS {Y : pY} {K k i : Nat} {v : Int32} (h : K = 5 ∨ K = 6) (hk : k < 6) (m : Nat) : eN (wr Y K k i v) m = eN Y m := by
  have h1 : k ≠ 6 := by omega
  rcases h with rfl | rfl <;> unfold eN <;> split <;> simp [b2_t, b2_f, up_at, up_up, up_id, wr_rd, h1.symm]
theorem rw_in {k w : Nat} (hk : k < 6) (hw : w < 13) : (bsIn (nI (80 + 13 * k + w)) 160) = True := pu_inT (by omega) (by decide)
theorem rw_at {k w : Nat} (hk : k < 6) (hw : w < 13) {Y : pY} {a b c : Int32} : row Y a b c (80 + 13 * k + w) = eS Y k w := by
  unfold row
  rw [if_neg (by omega), if_neg (by omega), if_neg (by omega), if_neg (by omega), if_neg (by omega), if_pos (by omega)]
  have h1 : (80 + 13 * k + w - 80) / 13 = k := by omega
  have h2 : (80 + 13 * k + w - 80) % 13 = w := by omega
  rw [h1, h2]
theorem rw_adr (k w : Nat) : ((80 : Int32) + ((13 : Int32) * nI k)) + nI w = nI (80 + 13 * k + w) := by
  rw [show (80 : Int32) = nI 80 from rfl, show (13 : Int32) = nI 13 from rfl, pu_mul, pu_add, pu_add]
theorem q9_of {k w : Nat} (hk : k < 6) (hw : w < 13) (X : bsX) (Y : pY) (a b c : Int32) : fX9_of (nI k) (nI w) (ro X (row Y a b c)) = some (eS Y k w, ro X (row Y a b c)) := by
  unfold fX9_of
  rw [rw_adr, pu_ix _ (by omega), ro_rd, rw_at hk hw]
  simp only [rw_in hk hw, if_true]
theorem rw_put {k w : Nat} {K i : Nat} (hk : k < 6) (hw : w < 13) {Y : pY} {a b c v : Int32} (hK : K = 5 ∨ K = 6) (hS : ∀ k2 w2, k2 < 6 → w2 < 13 → eS (wr Y K k i v) k2 w2 = if k2 = k ∧ w2 = w then v else eS Y k2 w2) : pt (row Y a b c) (80 + 13 * k + w) v = row (wr Y K k i v) a b c := by
  funext d
  unfold pt
  by_cases e : d = 80 + 13 * k + w
  · rw [if_pos e, e, rw_at hk hw, hS k w hk hw]; simp [b2_t, b2_f, up_at, up_up, up_id]
  · rw [if_neg e]
    unfold row
    by_cases h6 : d = 6
    · simp [b2_t, b2_f, up_at, up_up, up_id, h6]
    · by_cases h7 : d = 7
      · simp [b2_t, b2_f, up_at, up_up, up_id, h7]
      · by_cases h8 : d = 8
        · simp [b2_t, b2_f, up_at, up_up, up_id, h8]
        · rw [if_neg h6, if_neg h7, if_neg h8, if_neg h6, if_neg h7, if_neg h8]
          by_cases h29 : d < 29
          · rw [if_pos h29, if_pos h29, eN_wrS hK hk]
          · rw [if_neg h29, if_neg h29]
            by_cases h77 : d < 77
            · rw [if_pos h77, if_pos h77, eL_wr (by omega) (by omega)]
            · rw [if_neg h77, if_neg h77]
              by_cases h80 : 80 ≤ d ∧ d < 158
              · rw [if_pos h80, if_pos h80, hS _ _ (by omega) (by omega), if_neg (by omega)]
              · rw [if_neg h80, if_neg h80]
theorem q9_pu {k w : Nat} (hk : k < 6) (hw : w < 13) (X : bsX) (R : Nat → Int32) (v : Int32) : fX9_puts (nI k) (nI w) v (ro X R) = some (ro X (pt R (80 + 13 * k + w) v)) := by
  unfold fX9_puts
  rw [rw_adr, pu_ix _ (by omega), ro_wr]
  simp only [rw_in hk hw, if_true]
theorem eS_cases {P : Nat → Prop} (h0 : P 0) (h1 : P 1) (h2 : P 2) (h3 : P 3) (h4 : P 4) (h5 : P 5) (h6 : P 6) (h7 : P 7) (h8 : P 8) (h9 : P 9) (h10 : P 10) (h11 : P 11) (h12 : P 12) : ∀ w, w < 13 → P w := by
  intro w hw
  have : w = 0 ∨ w = 1 ∨ w = 2 ∨ w = 3 ∨ w = 4 ∨ w = 5 ∨ w = 6 ∨ w = 7 ∨ w = 8 ∨ w = 9 ∨ w = 10 ∨ w = 11 ∨ w = 12 := by omega
  rcases this with rfl | rfl | rfl | rfl | rfl | rfl | rfl | rfl | rfl | rfl | rfl | rfl | rfl <;> assumption
theorem q9_of0 {k : Nat} (hk : k < 6) (X : bsX) (Y : pY) (a b c : Int32) : fX9_of (nI k) (0 : Int32) (ro X (row Y a b c)) = some (Y 6 k 0, ro X (row Y a b c)) := q9_of (w := 0) hk (by decide) X Y a b c
theorem q9_pu0 {k : Nat} (hk : k < 6) (X : bsX) (Y : pY) (a b c v : Int32) : fX9_puts (nI k) (0 : Int32) v (ro X (row Y a b c)) = some (ro X (row (wr Y 6 k 0 v) a b c)) := by
  have h := q9_pu (w := 0) hk (by decide) X (row Y a b c) v
  rw [rw_put (K := 6) (i := 0) hk (by decide) (by decide) (by
    intro k2 w2 _ hw2
    revert w2
    refine eS_cases ?_ ?_ ?_ ?_ ?_ ?_ ?_ ?_ ?_ ?_ ?_ ?_ ?_ <;> simp [b2_t, b2_f, up_at, up_up, up_id, eS, wr_rd])] at h
  exact h
theorem q9_of1 {k : Nat} (hk : k < 6) (X : bsX) (Y : pY) (a b c : Int32) : fX9_of (nI k) (1 : Int32) (ro X (row Y a b c)) = some (Y 5 k 2, ro X (row Y a b c)) := q9_of (w := 1) hk (by decide) X Y a b c
theorem q9_pu1 {k : Nat} (hk : k < 6) (X : bsX) (Y : pY) (a b c v : Int32) : fX9_puts (nI k) (1 : Int32) v (ro X (row Y a b c)) = some (ro X (row (wr Y 5 k 2 v) a b c)) := by
  have h := q9_pu (w := 1) hk (by decide) X (row Y a b c) v
  rw [rw_put (K := 5) (i := 2) hk (by decide) (by decide) (by
    intro k2 w2 _ hw2
    revert w2
    refine eS_cases ?_ ?_ ?_ ?_ ?_ ?_ ?_ ?_ ?_ ?_ ?_ ?_ ?_ <;> simp [b2_t, b2_f, up_at, up_up, up_id, eS, wr_rd])] at h
  exact h
theorem q9_of2 {k : Nat} (hk : k < 6) (X : bsX) (Y : pY) (a b c : Int32) : fX9_of (nI k) (2 : Int32) (ro X (row Y a b c)) = some (Y 5 k 3, ro X (row Y a b c)) := q9_of (w := 2) hk (by decide) X Y a b c
theorem q9_pu2 {k : Nat} (hk : k < 6) (X : bsX) (Y : pY) (a b c v : Int32) : fX9_puts (nI k) (2 : Int32) v (ro X (row Y a b c)) = some (ro X (row (wr Y 5 k 3 v) a b c)) := by
  have h := q9_pu (w := 2) hk (by decide) X (row Y a b c) v
  rw [rw_put (K := 5) (i := 3) hk (by decide) (by decide) (by
    intro k2 w2 _ hw2
    revert w2
    refine eS_cases ?_ ?_ ?_ ?_ ?_ ?_ ?_ ?_ ?_ ?_ ?_ ?_ ?_ <;> simp [b2_t, b2_f, up_at, up_up, up_id, eS, wr_rd])] at h
  exact h
theorem q9_of3 {k : Nat} (hk : k < 6) (X : bsX) (Y : pY) (a b c : Int32) : fX9_of (nI k) (3 : Int32) (ro X (row Y a b c)) = some (Y 5 k 4, ro X (row Y a b c)) := q9_of (w := 3) hk (by decide) X Y a b c
theorem q9_pu3 {k : Nat} (hk : k < 6) (X : bsX) (Y : pY) (a b c v : Int32) : fX9_puts (nI k) (3 : Int32) v (ro X (row Y a b c)) = some (ro X (row (wr Y 5 k 4 v) a b c)) := by
  have h := q9_pu (w := 3) hk (by decide) X (row Y a b c) v
  rw [rw_put (K := 5) (i := 4) hk (by decide) (by decide) (by
    intro k2 w2 _ hw2
    revert w2
    refine eS_cases ?_ ?_ ?_ ?_ ?_ ?_ ?_ ?_ ?_ ?_ ?_ ?_ ?_ <;> simp [b2_t, b2_f, up_at, up_up, up_id, eS, wr_rd])] at h
  exact h
theorem q9_of4 {k : Nat} (hk : k < 6) (X : bsX) (Y : pY) (a b c : Int32) : fX9_of (nI k) (4 : Int32) (ro X (row Y a b c)) = some (Y 5 k 5, ro X (row Y a b c)) := q9_of (w := 4) hk (by decide) X Y a b c
theorem q9_pu4 {k : Nat} (hk : k < 6) (X : bsX) (Y : pY) (a b c v : Int32) : fX9_puts (nI k) (4 : Int32) v (ro X (row Y a b c)) = some (ro X (row (wr Y 5 k 5 v) a b c)) := by
  have h := q9_pu (w := 4) hk (by decide) X (row Y a b c) v
  rw [rw_put (K := 5) (i := 5) hk (by decide) (by decide) (by
    intro k2 w2 _ hw2
    revert w2
    refine eS_cases ?_ ?_ ?_ ?_ ?_ ?_ ?_ ?_ ?_ ?_ ?_ ?_ ?_ <;> simp [b2_t, b2_f, up_at, up_up, up_id, eS, wr_rd])] at h
  exact h
theorem q9_of5 {k : Nat} (hk : k < 6) (X : bsX) (Y : pY) (a b c : Int32) : fX9_of (nI k) (5 : Int32) (ro X (row Y a b c)) = some (Y 5 k 6, ro X (row Y a b c)) := q9_of (w := 5) hk (by decide) X Y a b c
theorem q9_pu5 {k : Nat} (hk : k < 6) (X : bsX) (Y : pY) (a b c v : Int32) : fX9_puts (nI k) (5 : Int32) v (ro X (row Y a b c)) = some (ro X (row (wr Y 5 k 6 v) a b c)) := by
  have h := q9_pu (w := 5) hk (by decide) X (row Y a b c) v
  rw [rw_put (K := 5) (i := 6) hk (by decide) (by decide) (by
    intro k2 w2 _ hw2
    revert w2
    refine eS_cases ?_ ?_ ?_ ?_ ?_ ?_ ?_ ?_ ?_ ?_ ?_ ?_ ?_ <;> simp [b2_t, b2_f, up_at, up_up, up_id, eS, wr_rd])] at h
  exact h
theorem q9_of6 {k : Nat} (hk : k < 6) (X : bsX) (Y : pY) (a b c : Int32) : fX9_of (nI k) (6 : Int32) (ro X (row Y a b c)) = some (Y 5 k 7, ro X (row Y a b c)) := q9_of (w := 6) hk (by decide) X Y a b c
theorem q9_pu6 {k : Nat} (hk : k < 6) (X : bsX) (Y : pY) (a b c v : Int32) : fX9_puts (nI k) (6 : Int32) v (ro X (row Y a b c)) = some (ro X (row (wr Y 5 k 7 v) a b c)) := by
  have h := q9_pu (w := 6) hk (by decide) X (row Y a b c) v
  rw [rw_put (K := 5) (i := 7) hk (by decide) (by decide) (by
    intro k2 w2 _ hw2
    revert w2
    refine eS_cases ?_ ?_ ?_ ?_ ?_ ?_ ?_ ?_ ?_ ?_ ?_ ?_ ?_ <;> simp [b2_t, b2_f, up_at, up_up, up_id, eS, wr_rd])] at h
  exact h
theorem q9_of7 {k : Nat} (hk : k < 6) (X : bsX) (Y : pY) (a b c : Int32) : fX9_of (nI k) (7 : Int32) (ro X (row Y a b c)) = some (Y 5 k 8, ro X (row Y a b c)) := q9_of (w := 7) hk (by decide) X Y a b c
theorem q9_pu7 {k : Nat} (hk : k < 6) (X : bsX) (Y : pY) (a b c v : Int32) : fX9_puts (nI k) (7 : Int32) v (ro X (row Y a b c)) = some (ro X (row (wr Y 5 k 8 v) a b c)) := by
  have h := q9_pu (w := 7) hk (by decide) X (row Y a b c) v
  rw [rw_put (K := 5) (i := 8) hk (by decide) (by decide) (by
    intro k2 w2 _ hw2
    revert w2
    refine eS_cases ?_ ?_ ?_ ?_ ?_ ?_ ?_ ?_ ?_ ?_ ?_ ?_ ?_ <;> simp [b2_t, b2_f, up_at, up_up, up_id, eS, wr_rd])] at h
  exact h
theorem q9_of8 {k : Nat} (hk : k < 6) (X : bsX) (Y : pY) (a b c : Int32) : fX9_of (nI k) (8 : Int32) (ro X (row Y a b c)) = some (Y 6 k 1, ro X (row Y a b c)) := q9_of (w := 8) hk (by decide) X Y a b c
theorem q9_pu8 {k : Nat} (hk : k < 6) (X : bsX) (Y : pY) (a b c v : Int32) : fX9_puts (nI k) (8 : Int32) v (ro X (row Y a b c)) = some (ro X (row (wr Y 6 k 1 v) a b c)) := by
  have h := q9_pu (w := 8) hk (by decide) X (row Y a b c) v
  rw [rw_put (K := 6) (i := 1) hk (by decide) (by decide) (by
    intro k2 w2 _ hw2
    revert w2
    refine eS_cases ?_ ?_ ?_ ?_ ?_ ?_ ?_ ?_ ?_ ?_ ?_ ?_ ?_ <;> simp [b2_t, b2_f, up_at, up_up, up_id, eS, wr_rd])] at h
  exact h
theorem q9_of9 {k : Nat} (hk : k < 6) (X : bsX) (Y : pY) (a b c : Int32) : fX9_of (nI k) (9 : Int32) (ro X (row Y a b c)) = some (Y 6 k 2, ro X (row Y a b c)) := q9_of (w := 9) hk (by decide) X Y a b c
theorem q9_pu9 {k : Nat} (hk : k < 6) (X : bsX) (Y : pY) (a b c v : Int32) : fX9_puts (nI k) (9 : Int32) v (ro X (row Y a b c)) = some (ro X (row (wr Y 6 k 2 v) a b c)) := by
  have h := q9_pu (w := 9) hk (by decide) X (row Y a b c) v
  rw [rw_put (K := 6) (i := 2) hk (by decide) (by decide) (by
    intro k2 w2 _ hw2
    revert w2
    refine eS_cases ?_ ?_ ?_ ?_ ?_ ?_ ?_ ?_ ?_ ?_ ?_ ?_ ?_ <;> simp [b2_t, b2_f, up_at, up_up, up_id, eS, wr_rd])] at h
  exact h
theorem q9_of10 {k : Nat} (hk : k < 6) (X : bsX) (Y : pY) (a b c : Int32) : fX9_of (nI k) (10 : Int32) (ro X (row Y a b c)) = some (Y 6 k 3, ro X (row Y a b c)) := q9_of (w := 10) hk (by decide) X Y a b c
theorem q9_pu10 {k : Nat} (hk : k < 6) (X : bsX) (Y : pY) (a b c v : Int32) : fX9_puts (nI k) (10 : Int32) v (ro X (row Y a b c)) = some (ro X (row (wr Y 6 k 3 v) a b c)) := by
  have h := q9_pu (w := 10) hk (by decide) X (row Y a b c) v
  rw [rw_put (K := 6) (i := 3) hk (by decide) (by decide) (by
    intro k2 w2 _ hw2
    revert w2
    refine eS_cases ?_ ?_ ?_ ?_ ?_ ?_ ?_ ?_ ?_ ?_ ?_ ?_ ?_ <;> simp [b2_t, b2_f, up_at, up_up, up_id, eS, wr_rd])] at h
  exact h
theorem q9_of11 {k : Nat} (hk : k < 6) (X : bsX) (Y : pY) (a b c : Int32) : fX9_of (nI k) (11 : Int32) (ro X (row Y a b c)) = some (Y 6 k 4, ro X (row Y a b c)) := q9_of (w := 11) hk (by decide) X Y a b c
theorem q9_pu11 {k : Nat} (hk : k < 6) (X : bsX) (Y : pY) (a b c v : Int32) : fX9_puts (nI k) (11 : Int32) v (ro X (row Y a b c)) = some (ro X (row (wr Y 6 k 4 v) a b c)) := by
  have h := q9_pu (w := 11) hk (by decide) X (row Y a b c) v
  rw [rw_put (K := 6) (i := 4) hk (by decide) (by decide) (by
    intro k2 w2 _ hw2
    revert w2
    refine eS_cases ?_ ?_ ?_ ?_ ?_ ?_ ?_ ?_ ?_ ?_ ?_ ?_ ?_ <;> simp [b2_t, b2_f, up_at, up_up, up_id, eS, wr_rd])] at h
  exact h
theorem q9_of12 {k : Nat} (hk : k < 6) (X : bsX) (Y : pY) (a b c : Int32) : fX9_of (nI k) (12 : Int32) (ro X (row Y a b c)) = some (Y 6 k 5, ro X (row Y a b c)) := q9_of (w := 12) hk (by decide) X Y a b c
theorem q9_pu12 {k : Nat} (hk : k < 6) (X : bsX) (Y : pY) (a b c v : Int32) : fX9_puts (nI k) (12 : Int32) v (ro X (row Y a b c)) = some (ro X (row (wr Y 6 k 5 v) a b c)) := by
  have h := q9_pu (w := 12) hk (by decide) X (row Y a b c) v
  rw [rw_put (K := 6) (i := 5) hk (by decide) (by decide) (by
    intro k2 w2 _ hw2
    revert w2
    refine eS_cases ?_ ?_ ?_ ?_ ?_ ?_ ?_ ?_ ?_ ?_ ?_ ?_ ?_ <;> simp [b2_t, b2_f, up_at, up_up, up_id, eS, wr_rd])] at h
  exact h
theorem bi_0 : (bsIn (0 : Int32) 160) = True := eq_true (by decide)
theorem bx_0 : bsIx (0 : Int32) = 0 := by decide
theorem bi_1 : (bsIn (1 : Int32) 160) = True := eq_true (by decide)
theorem bx_1 : bsIx (1 : Int32) = 1 := by decide
theorem bi_2 : (bsIn (2 : Int32) 160) = True := eq_true (by decide)
theorem bx_2 : bsIx (2 : Int32) = 2 := by decide
theorem bi_3 : (bsIn (3 : Int32) 160) = True := eq_true (by decide)
theorem bx_3 : bsIx (3 : Int32) = 3 := by decide
theorem bi_4 : (bsIn (4 : Int32) 160) = True := eq_true (by decide)
theorem bx_4 : bsIx (4 : Int32) = 4 := by decide
theorem bi_5 : (bsIn (5 : Int32) 160) = True := eq_true (by decide)
theorem bx_5 : bsIx (5 : Int32) = 5 := by decide
theorem bi_6 : (bsIn (6 : Int32) 160) = True := eq_true (by decide)
theorem bx_6 : bsIx (6 : Int32) = 6 := by decide
theorem bi_7 : (bsIn (7 : Int32) 160) = True := eq_true (by decide)
theorem bx_7 : bsIx (7 : Int32) = 7 := by decide
theorem bi_8 : (bsIn (8 : Int32) 160) = True := eq_true (by decide)
theorem bx_8 : bsIx (8 : Int32) = 8 := by decide
theorem bi_9 : (bsIn (9 : Int32) 160) = True := eq_true (by decide)
theorem bx_9 : bsIx (9 : Int32) = 9 := by decide
theorem bi_10 : (bsIn (10 : Int32) 160) = True := eq_true (by decide)
theorem bx_10 : bsIx (10 : Int32) = 10 := by decide
theorem bi_11 : (bsIn (11 : Int32) 160) = True := eq_true (by decide)
theorem bx_11 : bsIx (11 : Int32) = 11 := by decide
theorem bi_12 : (bsIn (12 : Int32) 160) = True := eq_true (by decide)
theorem bx_12 : bsIx (12 : Int32) = 12 := by decide
theorem bi_13 : (bsIn (13 : Int32) 160) = True := eq_true (by decide)
theorem bx_13 : bsIx (13 : Int32) = 13 := by decide
theorem bi_14 : (bsIn (14 : Int32) 160) = True := eq_true (by decide)
theorem bx_14 : bsIx (14 : Int32) = 14 := by decide
theorem bi_15 : (bsIn (15 : Int32) 160) = True := eq_true (by decide)
theorem bx_15 : bsIx (15 : Int32) = 15 := by decide
theorem bi_16 : (bsIn (16 : Int32) 160) = True := eq_true (by decide)
theorem bx_16 : bsIx (16 : Int32) = 16 := by decide
theorem bi_17 : (bsIn (17 : Int32) 160) = True := eq_true (by decide)
theorem bx_17 : bsIx (17 : Int32) = 17 := by decide
theorem bi_18 : (bsIn (18 : Int32) 160) = True := eq_true (by decide)
theorem bx_18 : bsIx (18 : Int32) = 18 := by decide
theorem bi_19 : (bsIn (19 : Int32) 160) = True := eq_true (by decide)
theorem bx_19 : bsIx (19 : Int32) = 19 := by decide
theorem bi_20 : (bsIn (20 : Int32) 160) = True := eq_true (by decide)
theorem bx_20 : bsIx (20 : Int32) = 20 := by decide
theorem bi_21 : (bsIn (21 : Int32) 160) = True := eq_true (by decide)
theorem bx_21 : bsIx (21 : Int32) = 21 := by decide
theorem bi_22 : (bsIn (22 : Int32) 160) = True := eq_true (by decide)
theorem bx_22 : bsIx (22 : Int32) = 22 := by decide
theorem bi_23 : (bsIn (23 : Int32) 160) = True := eq_true (by decide)
theorem bx_23 : bsIx (23 : Int32) = 23 := by decide
theorem bi_24 : (bsIn (24 : Int32) 160) = True := eq_true (by decide)
theorem bx_24 : bsIx (24 : Int32) = 24 := by decide
theorem bi_25 : (bsIn (25 : Int32) 160) = True := eq_true (by decide)
theorem bx_25 : bsIx (25 : Int32) = 25 := by decide
theorem bi_26 : (bsIn (26 : Int32) 160) = True := eq_true (by decide)
theorem bx_26 : bsIx (26 : Int32) = 26 := by decide
theorem bi_27 : (bsIn (27 : Int32) 160) = True := eq_true (by decide)
theorem bx_27 : bsIx (27 : Int32) = 27 := by decide
theorem bi_28 : (bsIn (28 : Int32) 160) = True := eq_true (by decide)
theorem bx_28 : bsIx (28 : Int32) = 28 := by decide
theorem rw_rd0 (X : bsX) (Y : pY) (a b c : Int32) : ro X (row Y a b c) 14 1 0 0 = Y 0 0 4 := by rw [ro_rd]; rfl
theorem rw_rd1 (X : bsX) (Y : pY) (a b c : Int32) : ro X (row Y a b c) 14 1 0 1 = Y 0 0 9 := by rw [ro_rd]; rfl
theorem rw_rd2 (X : bsX) (Y : pY) (a b c : Int32) : ro X (row Y a b c) 14 1 0 2 = Y 0 0 5 := by rw [ro_rd]; rfl
theorem rw_rd3 (X : bsX) (Y : pY) (a b c : Int32) : ro X (row Y a b c) 14 1 0 3 = Y 0 0 6 := by rw [ro_rd]; rfl
theorem rw_rd4 (X : bsX) (Y : pY) (a b c : Int32) : ro X (row Y a b c) 14 1 0 4 = Y 0 0 7 := by rw [ro_rd]; rfl
theorem rw_rd5 (X : bsX) (Y : pY) (a b c : Int32) : ro X (row Y a b c) 14 1 0 5 = Y 0 0 8 := by rw [ro_rd]; rfl
theorem rw_rd6 (X : bsX) (Y : pY) (a b c : Int32) : ro X (row Y a b c) 14 1 0 6 = a := by rw [ro_rd]; rfl
theorem rw_rd7 (X : bsX) (Y : pY) (a b c : Int32) : ro X (row Y a b c) 14 1 0 7 = b := by rw [ro_rd]; rfl
theorem rw_rd8 (X : bsX) (Y : pY) (a b c : Int32) : ro X (row Y a b c) 14 1 0 8 = c := by rw [ro_rd]; rfl
theorem rw_rd12 (X : bsX) (Y : pY) (a b c : Int32) : ro X (row Y a b c) 14 1 0 12 = Y 3 0 4 := by rw [ro_rd]; rfl
theorem rw_rd13 (X : bsX) (Y : pY) (a b c : Int32) : ro X (row Y a b c) 14 1 0 13 = Y 4 0 0 := by rw [ro_rd]; rfl
theorem rw_rd14 (X : bsX) (Y : pY) (a b c : Int32) : ro X (row Y a b c) 14 1 0 14 = Y 4 0 1 := by rw [ro_rd]; rfl
theorem rw_rd15 (X : bsX) (Y : pY) (a b c : Int32) : ro X (row Y a b c) 14 1 0 15 = Y 4 0 2 := by rw [ro_rd]; rfl
theorem rw_rd16 (X : bsX) (Y : pY) (a b c : Int32) : ro X (row Y a b c) 14 1 0 16 = Y 4 0 3 := by rw [ro_rd]; rfl
theorem rw_rd17 (X : bsX) (Y : pY) (a b c : Int32) : ro X (row Y a b c) 14 1 0 17 = Y 4 0 4 := by rw [ro_rd]; rfl
theorem rw_rd18 (X : bsX) (Y : pY) (a b c : Int32) : ro X (row Y a b c) 14 1 0 18 = Y 4 0 5 := by rw [ro_rd]; rfl
theorem rw_rd19 (X : bsX) (Y : pY) (a b c : Int32) : ro X (row Y a b c) 14 1 0 19 = Y 4 0 6 := by rw [ro_rd]; rfl
theorem rw_rd20 (X : bsX) (Y : pY) (a b c : Int32) : ro X (row Y a b c) 14 1 0 20 = Y 2 0 1 := by rw [ro_rd]; rfl
theorem rw_rd21 (X : bsX) (Y : pY) (a b c : Int32) : ro X (row Y a b c) 14 1 0 21 = (if Y 2 0 1 = -1 then -1 else Y 2 0 2) := by rw [ro_rd]; rfl
theorem rw_rd22 (X : bsX) (Y : pY) (a b c : Int32) : ro X (row Y a b c) 14 1 0 22 = (if Y 2 0 1 = -1 then -1 else Y 6 6 1) := by rw [ro_rd]; rfl
theorem rw_rd23 (X : bsX) (Y : pY) (a b c : Int32) : ro X (row Y a b c) 14 1 0 23 = (if Y 2 0 1 = -1 then -1 else Y 6 6 2) := by rw [ro_rd]; rfl
theorem rw_rd24 (X : bsX) (Y : pY) (a b c : Int32) : ro X (row Y a b c) 14 1 0 24 = (if Y 2 0 1 = -1 then -1 else Y 6 6 3) := by rw [ro_rd]; rfl
theorem rw_rd25 (X : bsX) (Y : pY) (a b c : Int32) : ro X (row Y a b c) 14 1 0 25 = (if Y 2 0 1 = -1 then -1 else Y 6 6 4) := by rw [ro_rd]; rfl
theorem rw_rd26 (X : bsX) (Y : pY) (a b c : Int32) : ro X (row Y a b c) 14 1 0 26 = (if Y 2 0 1 = -1 then -1 else Y 6 6 5) := by rw [ro_rd]; rfl
theorem rw_rd27 (X : bsX) (Y : pY) (a b c : Int32) : ro X (row Y a b c) 14 1 0 27 = (if Y 2 0 1 = -1 then -1 else Y 2 0 3) := by rw [ro_rd]; rfl
theorem rw_rd28 (X : bsX) (Y : pY) (a b c : Int32) : ro X (row Y a b c) 14 1 0 28 = bsMin (Y 3 0 4) 12 := by rw [ro_rd]; rfl
theorem rw_num {Y : pY} {a b c v : Int32} {m K i : Nat} (hm : m < 29) (hm2 : m ≠ 6 ∧ m ≠ 7 ∧ m ≠ 8) (hK : K = 0 ∨ K = 4) (h : ∀ d, eN (wr Y K 0 i v) d = if d = m then v else eN Y d) : pt (row Y a b c) m v = row (wr Y K 0 i v) a b c := by
  funext d
  unfold pt row
  rw [h d]
  by_cases e : d = m
  · subst e; simp [b2_t, b2_f, up_at, up_up, up_id, hm, hm2]
  · simp only [e, if_false]
    rw [eL_wr (by omega) (by omega), eS_wr (by omega)]
theorem eN_cases {P : Nat → Prop} (hb : ∀ m, 29 ≤ m → P m) (h0 : P 0) (h1 : P 1) (h2 : P 2) (h3 : P 3) (h4 : P 4) (h5 : P 5) (h6 : P 6) (h7 : P 7) (h8 : P 8) (h9 : P 9) (h10 : P 10) (h11 : P 11) (h12 : P 12) (h13 : P 13) (h14 : P 14) (h15 : P 15) (h16 : P 16) (h17 : P 17) (h18 : P 18) (h19 : P 19) (h20 : P 20) (h21 : P 21) (h22 : P 22) (h23 : P 23) (h24 : P 24) (h25 : P 25) (h26 : P 26) (h27 : P 27) (h28 : P 28) : ∀ w, P w := by
  intro w
  by_cases h : 29 ≤ w
  · exact hb w h
  · have : w = 0 ∨ w = 1 ∨ w = 2 ∨ w = 3 ∨ w = 4 ∨ w = 5 ∨ w = 6 ∨ w = 7 ∨ w = 8 ∨ w = 9 ∨ w = 10 ∨ w = 11 ∨ w = 12 ∨ w = 13 ∨ w = 14 ∨ w = 15 ∨ w = 16 ∨ w = 17 ∨ w = 18 ∨ w = 19 ∨ w = 20 ∨ w = 21 ∨ w = 22 ∨ w = 23 ∨ w = 24 ∨ w = 25 ∨ w = 26 ∨ w = 27 ∨ w = 28 := by omega
    rcases this with rfl | rfl | rfl | rfl | rfl | rfl | rfl | rfl | rfl | rfl | rfl | rfl | rfl | rfl | rfl | rfl | rfl | rfl | rfl | rfl | rfl | rfl | rfl | rfl | rfl | rfl | rfl | rfl | rfl <;> assumption
theorem eN_big {Y : pY} {m : Nat} (h : 29 ≤ m) : eN Y m = 0 := by
  unfold eN; split <;> first | omega | rfl
theorem rw_wr1 (X : bsX) (Y : pY) (a b c v : Int32) : bsWr (ro X (row Y a b c)) 14 1 0 1 v = ro X (row (wr Y 0 0 9 v) a b c) := by
  rw [ro_wr, rw_num (K := 0) (i := 9) (by decide) (by decide) (by decide)]
  refine eN_cases (fun m hm => by rw [eN_big hm, eN_big hm, if_neg (by omega)]) ?_ ?_ ?_ ?_ ?_ ?_ ?_ ?_ ?_ ?_ ?_ ?_ ?_ ?_ ?_ ?_ ?_ ?_ ?_ ?_ ?_ ?_ ?_ ?_ ?_ ?_ ?_ ?_ ?_ <;> simp [b2_t, b2_f, up_at, up_up, up_id, eN, wr_rd]
theorem rw_wr2 (X : bsX) (Y : pY) (a b c v : Int32) : bsWr (ro X (row Y a b c)) 14 1 0 2 v = ro X (row (wr Y 0 0 5 v) a b c) := by
  rw [ro_wr, rw_num (K := 0) (i := 5) (by decide) (by decide) (by decide)]
  refine eN_cases (fun m hm => by rw [eN_big hm, eN_big hm, if_neg (by omega)]) ?_ ?_ ?_ ?_ ?_ ?_ ?_ ?_ ?_ ?_ ?_ ?_ ?_ ?_ ?_ ?_ ?_ ?_ ?_ ?_ ?_ ?_ ?_ ?_ ?_ ?_ ?_ ?_ ?_ <;> simp [b2_t, b2_f, up_at, up_up, up_id, eN, wr_rd]
theorem rw_wr3 (X : bsX) (Y : pY) (a b c v : Int32) : bsWr (ro X (row Y a b c)) 14 1 0 3 v = ro X (row (wr Y 0 0 6 v) a b c) := by
  rw [ro_wr, rw_num (K := 0) (i := 6) (by decide) (by decide) (by decide)]
  refine eN_cases (fun m hm => by rw [eN_big hm, eN_big hm, if_neg (by omega)]) ?_ ?_ ?_ ?_ ?_ ?_ ?_ ?_ ?_ ?_ ?_ ?_ ?_ ?_ ?_ ?_ ?_ ?_ ?_ ?_ ?_ ?_ ?_ ?_ ?_ ?_ ?_ ?_ ?_ <;> simp [b2_t, b2_f, up_at, up_up, up_id, eN, wr_rd]
theorem rw_wr4 (X : bsX) (Y : pY) (a b c v : Int32) : bsWr (ro X (row Y a b c)) 14 1 0 4 v = ro X (row (wr Y 0 0 7 v) a b c) := by
  rw [ro_wr, rw_num (K := 0) (i := 7) (by decide) (by decide) (by decide)]
  refine eN_cases (fun m hm => by rw [eN_big hm, eN_big hm, if_neg (by omega)]) ?_ ?_ ?_ ?_ ?_ ?_ ?_ ?_ ?_ ?_ ?_ ?_ ?_ ?_ ?_ ?_ ?_ ?_ ?_ ?_ ?_ ?_ ?_ ?_ ?_ ?_ ?_ ?_ ?_ <;> simp [b2_t, b2_f, up_at, up_up, up_id, eN, wr_rd]
theorem rw_wr5 (X : bsX) (Y : pY) (a b c v : Int32) : bsWr (ro X (row Y a b c)) 14 1 0 5 v = ro X (row (wr Y 0 0 8 v) a b c) := by
  rw [ro_wr, rw_num (K := 0) (i := 8) (by decide) (by decide) (by decide)]
  refine eN_cases (fun m hm => by rw [eN_big hm, eN_big hm, if_neg (by omega)]) ?_ ?_ ?_ ?_ ?_ ?_ ?_ ?_ ?_ ?_ ?_ ?_ ?_ ?_ ?_ ?_ ?_ ?_ ?_ ?_ ?_ ?_ ?_ ?_ ?_ ?_ ?_ ?_ ?_ <;> simp [b2_t, b2_f, up_at, up_up, up_id, eN, wr_rd]
theorem rw_wr13 (X : bsX) (Y : pY) (a b c v : Int32) : bsWr (ro X (row Y a b c)) 14 1 0 13 v = ro X (row (wr Y 4 0 0 v) a b c) := by
  rw [ro_wr, rw_num (K := 4) (i := 0) (by decide) (by decide) (by decide)]
  refine eN_cases (fun m hm => by rw [eN_big hm, eN_big hm, if_neg (by omega)]) ?_ ?_ ?_ ?_ ?_ ?_ ?_ ?_ ?_ ?_ ?_ ?_ ?_ ?_ ?_ ?_ ?_ ?_ ?_ ?_ ?_ ?_ ?_ ?_ ?_ ?_ ?_ ?_ ?_ <;> simp [b2_t, b2_f, up_at, up_up, up_id, eN, wr_rd]
theorem rw_wr14 (X : bsX) (Y : pY) (a b c v : Int32) : bsWr (ro X (row Y a b c)) 14 1 0 14 v = ro X (row (wr Y 4 0 1 v) a b c) := by
  rw [ro_wr, rw_num (K := 4) (i := 1) (by decide) (by decide) (by decide)]
  refine eN_cases (fun m hm => by rw [eN_big hm, eN_big hm, if_neg (by omega)]) ?_ ?_ ?_ ?_ ?_ ?_ ?_ ?_ ?_ ?_ ?_ ?_ ?_ ?_ ?_ ?_ ?_ ?_ ?_ ?_ ?_ ?_ ?_ ?_ ?_ ?_ ?_ ?_ ?_ <;> simp [b2_t, b2_f, up_at, up_up, up_id, eN, wr_rd]
theorem rw_wr15 (X : bsX) (Y : pY) (a b c v : Int32) : bsWr (ro X (row Y a b c)) 14 1 0 15 v = ro X (row (wr Y 4 0 2 v) a b c) := by
  rw [ro_wr, rw_num (K := 4) (i := 2) (by decide) (by decide) (by decide)]
  refine eN_cases (fun m hm => by rw [eN_big hm, eN_big hm, if_neg (by omega)]) ?_ ?_ ?_ ?_ ?_ ?_ ?_ ?_ ?_ ?_ ?_ ?_ ?_ ?_ ?_ ?_ ?_ ?_ ?_ ?_ ?_ ?_ ?_ ?_ ?_ ?_ ?_ ?_ ?_ <;> simp [b2_t, b2_f, up_at, up_up, up_id, eN, wr_rd]
theorem rw_wr16 (X : bsX) (Y : pY) (a b c v : Int32) : bsWr (ro X (row Y a b c)) 14 1 0 16 v = ro X (row (wr Y 4 0 3 v) a b c) := by
  rw [ro_wr, rw_num (K := 4) (i := 3) (by decide) (by decide) (by decide)]
  refine eN_cases (fun m hm => by rw [eN_big hm, eN_big hm, if_neg (by omega)]) ?_ ?_ ?_ ?_ ?_ ?_ ?_ ?_ ?_ ?_ ?_ ?_ ?_ ?_ ?_ ?_ ?_ ?_ ?_ ?_ ?_ ?_ ?_ ?_ ?_ ?_ ?_ ?_ ?_ <;> simp [b2_t, b2_f, up_at, up_up, up_id, eN, wr_rd]
theorem rw_wr17 (X : bsX) (Y : pY) (a b c v : Int32) : bsWr (ro X (row Y a b c)) 14 1 0 17 v = ro X (row (wr Y 4 0 4 v) a b c) := by
  rw [ro_wr, rw_num (K := 4) (i := 4) (by decide) (by decide) (by decide)]
  refine eN_cases (fun m hm => by rw [eN_big hm, eN_big hm, if_neg (by omega)]) ?_ ?_ ?_ ?_ ?_ ?_ ?_ ?_ ?_ ?_ ?_ ?_ ?_ ?_ ?_ ?_ ?_ ?_ ?_ ?_ ?_ ?_ ?_ ?_ ?_ ?_ ?_ ?_ ?_ <;> simp [b2_t, b2_f, up_at, up_up, up_id, eN, wr_rd]
theorem rw_wr18 (X : bsX) (Y : pY) (a b c v : Int32) : bsWr (ro X (row Y a b c)) 14 1 0 18 v = ro X (row (wr Y 4 0 5 v) a b c) := by
  rw [ro_wr, rw_num (K := 4) (i := 5) (by decide) (by decide) (by decide)]
  refine eN_cases (fun m hm => by rw [eN_big hm, eN_big hm, if_neg (by omega)]) ?_ ?_ ?_ ?_ ?_ ?_ ?_ ?_ ?_ ?_ ?_ ?_ ?_ ?_ ?_ ?_ ?_ ?_ ?_ ?_ ?_ ?_ ?_ ?_ ?_ ?_ ?_ ?_ ?_ <;> simp [b2_t, b2_f, up_at, up_up, up_id, eN, wr_rd]
theorem rw_wr19 (X : bsX) (Y : pY) (a b c v : Int32) : bsWr (ro X (row Y a b c)) 14 1 0 19 v = ro X (row (wr Y 4 0 6 v) a b c) := by
  rw [ro_wr, rw_num (K := 4) (i := 6) (by decide) (by decide) (by decide)]
  refine eN_cases (fun m hm => by rw [eN_big hm, eN_big hm, if_neg (by omega)]) ?_ ?_ ?_ ?_ ?_ ?_ ?_ ?_ ?_ ?_ ?_ ?_ ?_ ?_ ?_ ?_ ?_ ?_ ?_ ?_ ?_ ?_ ?_ ?_ ?_ ?_ ?_ ?_ ?_ <;> simp [b2_t, b2_f, up_at, up_up, up_id, eN, wr_rd]
theorem rw_wr6 (X : bsX) (Y : pY) (a b c v : Int32) : bsWr (ro X (row Y a b c)) 14 1 0 6 v = ro X (row Y v b c) := by
  rw [ro_wr]; congr 1; funext d; unfold pt row; by_cases h6 : d = 6 <;> simp [b2_t, b2_f, up_at, up_up, up_id, h6]
theorem rw_wr7 (X : bsX) (Y : pY) (a b c v : Int32) : bsWr (ro X (row Y a b c)) 14 1 0 7 v = ro X (row Y a v c) := by
  rw [ro_wr]; congr 1; funext d; unfold pt row; by_cases h6 : d = 6 <;> by_cases h7 : d = 7 <;> simp [b2_t, b2_f, up_at, up_up, up_id, h6, h7]
  all_goals omega
theorem rw_wr8 (X : bsX) (Y : pY) (a b c v : Int32) : bsWr (ro X (row Y a b c)) 14 1 0 8 v = ro X (row Y a b v) := by
  rw [ro_wr]; congr 1; funext d; unfold pt row; by_cases h6 : d = 6 <;> by_cases h7 : d = 7 <;> by_cases h8 : d = 8 <;> simp [b2_t, b2_f, up_at, up_up, up_id, h6, h7, h8]
  all_goals omega
