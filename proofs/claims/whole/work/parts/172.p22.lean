/-! COPIES OF ROWS; what is laid aside and back -/
def ar (X : bsX) (K : Nat) (R : Nat → Int32) : bsX := fun a b c d => if a = 14 ∧ b = K ∧ c = 0 then R d else X a b c d
theorem ar_wr (X : bsX) (K : Nat) (R : Nat → Int32) (i : Nat) (v : Int32) : bsWr (ar X K R) 14 K 0 i v = ar X K (pt R i v) := by
  funext a b c d; unfold bsWr ar pt
  by_cases h : a = 14 ∧ b = K ∧ c = 0
  · obtain ⟨rfl, rfl, rfl⟩ := h; simp [b2_t, b2_f, up_at, up_up, up_id]
  · have h2 : ¬ (a = 14 ∧ b = K ∧ c = 0 ∧ d = i) := fun q => h ⟨q.1, q.2.1, q.2.2.1⟩
    simp only [h, h2, if_false]
theorem ar_rd (X : bsX) (K : Nat) (R : Nat → Int32) (i : Nat) : ar X K R 14 K 0 i = R i := by simp [b2_t, b2_f, up_at, up_up, up_id, ar]
theorem ar_ne (X : bsX) {K L : Nat} (R : Nat → Int32) (i : Nat) (h : L ≠ K) : ar X K R 14 L 0 i = X 14 L 0 i := by simp [b2_t, b2_f, up_at, up_up, up_id, ar, h]
theorem ar_id (X : bsX) (K : Nat) : ar X K (X 14 K 0) = X := by
  funext a b c d; unfold ar; split
  · rename_i h; obtain ⟨rfl, rfl, rfl⟩ := h; rfl
  · rfl
theorem ar_ar (X : bsX) (K : Nat) (R S : Nat → Int32) : ar (ar X K R) K S = ar X K S := by
  funext a b c d; unfold ar; split <;> rfl
theorem ro_ar (X : bsX) (R : Nat → Int32) : ro X R = ar X 1 R := rfl
theorem ar_comm (X : bsX) {K L : Nat} (h : K ≠ L) (R S : Nat → Int32) : ar (ar X K R) L S = ar (ar X L S) K R := by
  funext a b c d; unfold ar
  by_cases h1 : b = K
  · subst h1; simp [b2_t, b2_f, up_at, up_up, up_id, h]
  · simp [b2_t, b2_f, up_at, up_up, up_id, h1]
def cpR (S R : Nat → Int32) (fr to m : Nat) : Nat → Int32 := fun d => if to ≤ d ∧ d < to + m then S (fr + (d - to)) else R d
theorem q9_copies {X : bsX} {Ka na Kb nb fr to : Nat} (hne : Ka ≠ Kb) (ha : fr + 160 ≤ na) (hb : to + 160 ≤ nb) (hA : na < 2000) (hB : nb < 2000) : fX9_copies Ka na Kb nb (nI fr) (nI to) X = some (ar X Kb (cpR (X 14 Ka 0) (X 14 Kb 0) fr to 160)) := by
  have key : ∀ d k f, k + d = 160 → d < f → fX9_copies_3 Ka na Kb nb f (nI fr) (nI to) (nI k) (ar X Kb (cpR (X 14 Ka 0) (X 14 Kb 0) fr to k)) = some (ar X Kb (cpR (X 14 Ka 0) (X 14 Kb 0) fr to 160)) := by
    intro d
    induction d with
    | zero =>
      intro k f hk hf
      obtain ⟨f, rfl⟩ : ∃ z, f = z + 1 := ⟨f - 1, by omega⟩
      obtain rfl : k = 160 := by omega
      simp only [fX9_copies_3]
      rw [if_pos (by decide)]
    | succ d ih =>
      intro k f hk hf
      obtain ⟨f, rfl⟩ : ∃ z, f = z + 1 := ⟨f - 1, by omega⟩
      have e : ((160 : Int32) ≤ nI k) = False := eq_false (by rw [show (160 : Int32) = nI 160 from rfl, pu_le _ _ (by omega) (by omega)]; omega)
      have e2 : pt (cpR (X 14 Ka 0) (X 14 Kb 0) fr to k) (to + k) (X 14 Ka 0 (fr + k)) = cpR (X 14 Ka 0) (X 14 Kb 0) fr to (k + 1) := by
        funext x
        unfold pt cpR
        by_cases q : x = to + k
        · subst q
          rw [if_pos rfl, if_pos (by omega)]
          congr 1; omega
        · rw [if_neg q]
          by_cases q2 : to ≤ x ∧ x < to + k
          · rw [if_pos q2, if_pos (by omega)]
          · rw [if_neg q2, if_neg (by omega)]
      simp only [fX9_copies_3, e, if_false, pu_add, pu_inT (show fr + k < na by omega) (by omega), pu_inT (show to + k < nb by omega) (by omega), if_true, pu_ix (fr + k) (by omega), pu_ix (to + k) (by omega), ar_ne _ _ _ hne, ar_wr, pu_succ, e2]
      exact ih (k + 1) f (by omega) (by omega)
  have := key 160 0 bsF (by omega) (by unfold bsF; omega)
  have e : cpR (X 14 Ka 0) (X 14 Kb 0) fr to 0 = X 14 Kb 0 := by
    funext x; unfold cpR; rw [if_neg (by omega)]
  rw [e, ar_id] at this
  exact this
/-- a row of 160 -/
def r160 (R : Nat → Int32) : Prop := ∀ d, 160 ≤ d → R d = 0
theorem enc_160 (Y : pY) : r160 (enc Y) := by
  intro d h
  unfold enc row
  rw [if_neg (by omega), if_neg (by omega), if_neg (by omega), if_neg (by omega), if_neg (by omega), if_neg (by omega)]
/-- the stores with row k set to R -/
def stK (S R : Nat → Int32) (k : Nat) : Nat → Int32 := cpR R S 0 (160 * k) 160
theorem q9_toSt {X : bsX} {k : Nat} (hk : k < 11) : fX9_copies 1 160 2 1760 (nI 0) (nI (160 * k)) X = some (ar X 2 (stK (X 14 2 0) (X 14 1 0) k)) := by
  rw [q9_copies (by decide) (by omega) (by omega) (by omega) (by omega)]; rfl
theorem q9_fromSt {X : bsX} {k : Nat} {R : Nat → Int32} (hk : k < 11) (hX : r160 (X 14 1 0)) (hR : r160 R) (h : ∀ d, d < 160 → X 14 2 0 (160 * k + d) = R d) : fX9_copies 2 1760 1 160 (nI (160 * k)) (nI 0) X = some (ro X R) := by
  rw [q9_copies (by decide) (by omega) (by omega) (by omega) (by omega), ro_ar]
  congr 2
  funext d
  unfold cpR
  by_cases e : d < 160
  · rw [if_pos (by omega)]
    have : 160 * k + (d - 0) = 160 * k + d := by omega
    rw [this, h d e]
  · rw [if_neg (by omega), hX d (by omega), hR d (by omega)]
theorem q9_lays {X : bsX} : fX9_laysAside X = some (ar X 2 (stK (X 14 2 0) (X 14 1 0) 10)) := by
  unfold fX9_laysAside
  rw [show (0 : Int32) = nI 0 from rfl, show (1600 : Int32) = nI (160 * 10) from rfl, q9_toSt (by decide)]
  rfl
theorem q9_back {X : bsX} {R S : Nat → Int32} {v : Int32} (hR : r160 R) (hS : r160 S) : fX9_back v (ro (ar X 2 (stK (X 14 2 0) R 10)) S) = some (v, ro (ar X 2 (stK (X 14 2 0) R 10)) R) := by
  unfold fX9_back
  rw [show (0 : Int32) = nI 0 from rfl, show (1600 : Int32) = nI (160 * 10) from rfl]
  rw [q9_fromSt (R := R) (by decide) (by intro d hd; rw [ro_rd]; exact hS d hd) hR (by
    intro d hd
    rw [ro_ar, ar_ne _ _ _ (by decide), ar_rd]
    unfold stK cpR
    rw [if_pos (by omega)]
    have e : 0 + (160 * 10 + d - 160 * 10) = d := by omega
    rw [e])]
  rw [ro_ro]; rfl
/-! THE REFERENCE'S REFUSALS -/
def th (X : bsX) (v : Int32) : bsX := bsWr X 14 0 0 0 v
theorem q9_notLoaded {X : bsX} (h : is01 (X 14 0 0 1)) : fX9_notLoaded X = some (if X 14 0 0 1 = 0 then (1, th X 1) else (0, th X 0)) := by
  have e0 : ∀ v, bsWr X 14 0 0 0 v 14 0 0 1 = X 14 0 0 1 := by intro v; simp [b2_t, b2_f, up_at, up_up, up_id, bsWr]
  have e1 : ∀ v, bsWr X 14 0 0 0 v 14 0 0 0 = v := by intro v; simp [b2_t, b2_f, up_at, up_up, up_id, bsWr]
  have e2 : bsWr (bsWr X 14 0 0 0 0) 14 0 0 0 1 = bsWr X 14 0 0 0 1 := by
    funext a b c d; unfold bsWr; split <;> rfl
  unfold fX9_notLoaded fX9_notLoaded_18 fX9_refuse fX9_refuse_16 th
  rcases h with e | e <;> simp [b2_t, b2_f, up_at, up_up, up_id, e0, e1, e2, e]
theorem pu_cmp (a b : Int32) : (bsLc a.toInt64 b.toInt64 < 0 ↔ a < b) ∧ (0 < bsLc a.toInt64 b.toInt64 ↔ b < a) := by
  have h1 : a.toInt64 > b.toInt64 ↔ b < a := by
    rw [gt_iff_lt, Int64.lt_iff_toInt_lt, Int32.lt_iff_toInt_lt, Int32.toInt_toInt64, Int32.toInt_toInt64]
  have h2 : a.toInt64 = b.toInt64 ↔ a = b := by
    constructor
    · intro e; have := congrArg Int64.toInt e; rw [Int32.toInt_toInt64, Int32.toInt_toInt64] at this; exact Int32.toInt_inj.mp this
    · intro e; rw [e]
  unfold bsLc lg_cmp
  by_cases g1 : b < a
  · rw [if_pos (h1.mpr g1)]
    refine ⟨⟨fun q => absurd q (by decide), fun q => (Int32.lt_irrefl (Int32.lt_trans q g1)).elim⟩, ⟨fun _ => g1, fun _ => by decide⟩⟩
  · rw [if_neg (fun q => g1 (h1.mp q))]
    by_cases g2 : a = b
    · rw [if_pos (h2.mpr g2)]
      subst g2
      exact ⟨⟨fun q => absurd q (by decide), fun q => (Int32.lt_irrefl q).elim⟩, ⟨fun q => absurd q (by decide), fun q => (Int32.lt_irrefl q).elim⟩⟩
    · rw [if_neg (fun q => g2 (h2.mp q))]
      have g3 : a < b := by
        rcases Int32.lt_or_eq_of_le (Int32.not_lt.mp g1) with q | q
        · exact q
        · exact absurd q g2
      exact ⟨⟨fun _ => g3, fun _ => by decide⟩, ⟨fun q => absurd q (by decide), fun q => absurd q g1⟩⟩
theorem q9_in {X : bsX} (v a b : Int32) : fX9_in v.toInt64 a.toInt64 b.toInt64 X = some (b2 (a ≤ v ∧ v ≤ b), X) := by
  have h1 := pu_cmp v a
  have h2 := pu_cmp v b
  unfold fX9_in
  by_cases e1 : v < a
  · have : ¬ a ≤ v := pu_nle.mpr e1
    rw [if_pos (h1.1.mpr e1)]; simp [b2_t, b2_f, up_at, up_up, up_id, this]
  · have g1 : a ≤ v := pu_nlt.mp e1
    rw [if_neg (fun q => e1 (h1.1.mp q))]
    by_cases e2 : b < v
    · have : ¬ v ≤ b := pu_nle.mpr e2
      rw [if_pos (h2.2.mpr e2)]; simp [b2_t, b2_f, up_at, up_up, up_id, this]
    · have g2 : v ≤ b := pu_nlt.mp e2
      rw [if_neg (fun q => e2 (h2.2.mp q))]; simp [b2_t, b2_f, up_at, up_up, up_id, g1, g2]
