/-! WRITING SLOTS -/
def dgV (v : Int32) : List Int32 := dig (bsIx v)
theorem dgV_n {n : Nat} (h : n < 2147483648) : dgV (nI n) = dig n := by unfold dgV; rw [pu_ix n h]
def wSlot (Y : pY) (k : Nat) : List Int32 := if Y 6 k 0 = 0 then [45] else ((((((dgV (Y 6 k 1) ++ [58]) ++ dgV (Y 5 k 2)) ++ [47]) ++ dgV (Y 5 k 3)) ++ (if Y 5 k 4 = 0 then [] else [33])) ++ (if nI k = Y 0 0 11 then [42] else []))
theorem b45 : vp_nar .byte (45 : Int32).toInt8.toInt32 = 45 := by8_small 45 (by decide)
theorem b58 : vp_nar .byte (58 : Int32).toInt8.toInt32 = 58 := by8_small 58 (by decide)
theorem b47 : vp_nar .byte (47 : Int32).toInt8.toInt32 = 47 := by8_small 47 (by decide)
theorem b33 : vp_nar .byte (33 : Int32).toInt8.toInt32 = 33 := by8_small 33 (by decide)
theorem b42 : vp_nar .byte (42 : Int32).toInt8.toInt32 = 42 := by8_small 42 (by decide)
theorem b32 : vp_nar .byte (32 : Int32).toInt8.toInt32 = 32 := by8_small 32 (by decide)
theorem b114 : vp_nar .byte (114 : Int32).toInt8.toInt32 = 114 := by8_small 114 (by decide)
theorem wSlot_len {Y : pY} {k : Nat} (hs : wS Y k) : (wSlot Y k).length ≤ 19 := by
  obtain ⟨v, _, v1, v2⟩ := hs.2.2.2.2.2.2.1
  obtain ⟨p, _, p1, p2⟩ := hs.2.2.2.2.1
  obtain ⟨r, _, r1, r2⟩ := hs.2.2.2.2.2.1
  have d1 := dig_len v
  have d2 := dig_len p
  have d3 := dig_len r
  unfold wSlot
  rw [v2, p2, r2, dgV_n (by omega), dgV_n (by omega), dgV_n (by omega)]
  by_cases h0 : Y 6 k 0 = 0
  · rw [if_pos h0]; decide
  · rw [if_neg h0]
    by_cases h1 : Y 5 k 4 = 0
    · rw [if_pos h1]
      by_cases h2 : nI k = Y 0 0 11
      · rw [if_pos h2]; simp only [List.length_append, List.length_cons, List.length_nil]; omega
      · rw [if_neg h2]; simp only [List.length_append, List.length_cons, List.length_nil]; omega
    · rw [if_neg h1]
      by_cases h2 : nI k = Y 0 0 11
      · rw [if_pos h2]; simp only [List.length_append, List.length_cons, List.length_nil]; omega
      · rw [if_neg h2]; simp only [List.length_append, List.length_cons, List.length_nil]; omega
theorem slot_c {X : bsX} {k : Nat} {L : List Int32} (hs : wS (X 0) k) (hL : L.length + 20 ≤ 400) : fX8_writeSlot k (txC X L) = some (txC X (L ++ wSlot (X 0) k)) := by
  obtain ⟨v, _, v1, v2⟩ := hs.2.2.2.2.2.2.1
  obtain ⟨p, _, p1, p2⟩ := hs.2.2.2.2.1
  obtain ⟨r, _, r1, r2⟩ := hs.2.2.2.2.2.1
  have d1 := dig_len v
  have d2 := dig_len p
  have d3 := dig_len r
  have g0 : ∀ M, txC X M 0 = X 0 := fun M => txC_g _ _ (by decide)
  unfold fX8_writeSlot wSlot
  by_cases h0 : X 0 6 k 0 = 0
  · rw [g0, if_pos h0, if_pos h0, put_ok b45 (by omega), Option.bind_some]
  · rw [g0, if_neg h0, if_neg h0, v2, num_ok (by omega) (by omega), Option.bind_some, put_ok b58 (by simp only [List.length_append, List.length_cons, List.length_nil]; omega), Option.bind_some, g0, p2, num_ok (by omega) (by simp only [List.length_append, List.length_cons, List.length_nil]; omega), Option.bind_some, put_ok b47 (by simp only [List.length_append, List.length_cons, List.length_nil]; omega), Option.bind_some, g0, r2, num_ok (by omega) (by simp only [List.length_append, List.length_cons, List.length_nil]; omega), Option.bind_some, g0, dgV_n (by omega), dgV_n (by omega), dgV_n (by omega)]
    unfold fX8_writeSlot_90
    by_cases h1 : X 0 5 k 4 = 0
    · rw [if_pos h1, if_pos h1, g0]
      by_cases h2 : nI k = X 0 0 0 11
      · rw [if_pos h2, if_pos h2, put_ok b42 (by simp only [List.length_append, List.length_cons, List.length_nil]; omega), Option.bind_some]
        simp only [List.append_assoc, List.append_nil, List.nil_append]
      · rw [if_neg h2, if_neg h2]
        simp only [List.append_assoc, List.append_nil]
    · rw [if_neg h1, if_neg h1, put_ok b33 (by simp only [List.length_append, List.length_cons, List.length_nil]; omega), Option.bind_some, g0]
      by_cases h2 : nI k = X 0 0 0 11
      · rw [if_pos h2, if_pos h2, put_ok b42 (by simp only [List.length_append, List.length_cons, List.length_nil]; omega), Option.bind_some]
        simp only [List.append_assoc]
      · rw [if_neg h2, if_neg h2]
        simp only [List.append_assoc, List.append_nil]
theorem txro {W : bsX} {Y : pY} {M : List Int32} (h : W 14 1 0 = enc Y) : txR W M = ro (txR W M) (enc Y) := by
  have : txR W M 14 1 0 = enc Y := by rw [txR_1]; exact h
  rw [← this, ro_id]
theorem run_on {n t Q k : Nat} {Y : pY} (hw : wm Q n t Y) (hk : k < 6) : (sSt Y = 1 ∧ Y 0 0 11 = nI k) ↔ nI k = Y 0 0 11 := by
  have c10 : ¬ (1 : Int32) = 0 := by decide
  constructor
  · exact fun q => q.2.symm
  · intro q
    refine ⟨?_, q.symm⟩
    have hk1 : ¬ nI k = -1 := pu_m1 k (by omega)
    rcases hw.run with e | ⟨r, _, _, e3, _⟩
    · exact absurd (q.trans e) hk1
    · unfold sSt; rw [e3, ← q, if_neg c10, if_neg hk1]
theorem slot_r {W : bsX} {Y : pY} {n t Q k : Nat} {L : List Int32} (hw : wm Q n t Y) (hW : W 14 1 0 = enc Y) (hk : k < 6) (hL : L.length + 20 ≤ 400) : fX9_saysSlot (nI k) (txR W L) = some (txR W (L ++ wSlot Y k)) := by
  have hs := hw.sl k hk
  have c10 : ¬ (1 : Int32) = 0 := by decide
  obtain ⟨v, _, v1, v2⟩ := hs.2.2.2.2.2.2.1
  obtain ⟨p, _, p1, p2⟩ := hs.2.2.2.2.1
  obtain ⟨r, _, r1, r2⟩ := hs.2.2.2.2.2.1
  have d1 := dig_len v
  have d2 := dig_len p
  have d3 := dig_len r
  have hh : ∀ M, fX9_has (nI k) (txR W M) = some (b2 (decide (Y 6 k 0 ≠ 0)), txR W M) := by
    intro M
    have : fX9_has (nI k) (ro (txR W M) (enc Y)) = some (b2 (decide (Y 6 k 0 ≠ 0)), ro (txR W M) (enc Y)) := q9_has hk hs.1
    rw [← txro hW] at this; exact this
  have h8 : ∀ M, fX9_of (nI k) (8 : Int32) (txR W M) = some (nI v, txR W M) := by
    intro M
    have : fX9_of (nI k) (8 : Int32) (ro (txR W M) (enc Y)) = some (Y 6 k 1, ro (txR W M) (enc Y)) := q9_of8 hk _ _ _ _ _
    rw [← txro hW, v2] at this; exact this
  have h1' : ∀ M, fX9_of (nI k) (1 : Int32) (txR W M) = some (nI p, txR W M) := by
    intro M
    have : fX9_of (nI k) (1 : Int32) (ro (txR W M) (enc Y)) = some (Y 5 k 2, ro (txR W M) (enc Y)) := q9_of1 hk _ _ _ _ _
    rw [← txro hW, p2] at this; exact this
  have h2' : ∀ M, fX9_of (nI k) (2 : Int32) (txR W M) = some (nI r, txR W M) := by
    intro M
    have : fX9_of (nI k) (2 : Int32) (ro (txR W M) (enc Y)) = some (Y 5 k 3, ro (txR W M) (enc Y)) := q9_of2 hk _ _ _ _ _
    rw [← txro hW, r2] at this; exact this
  have hg : ∀ M, fX9_isGood (nI k) (txR W M) = some (b2 (decide (Y 5 k 4 ≠ 0)), txR W M) := by
    intro M
    have : fX9_isGood (nI k) (ro (txR W M) (enc Y)) = some (b2 (decide (Y 5 k 4 ≠ 0)), ro (txR W M) (enc Y)) := q9_good hk hs.2.2.2.1
    rw [← txro hW] at this; exact this
  have ho : ∀ M, fX9_isOn (nI k) (txR W M) = some (b2 (decide (sSt Y = 1 ∧ Y 0 0 11 = nI k)), txR W M) := by
    intro M
    have : fX9_isOn (nI k) (ro (txR W M) (enc Y)) = some (b2 (decide (sSt Y = 1 ∧ Y 0 0 11 = nI k)), ro (txR W M) (enc Y)) := q9_isOn
    rw [← txro hW] at this; exact this
  have hru := run_on hw hk
  have fin : ∀ M : List Int32, M.length < 400 → fX9_saysSlot_72 (nI k) (txR W M) = some (txR W (M ++ (if nI k = Y 0 0 11 then [42] else []))) := by
    intro M hM
    unfold fX9_saysSlot_72
    rw [ho, Option.bind_some]
    by_cases h2 : nI k = Y 0 0 11
    · rw [decide_eq_true (hru.mpr h2), if_pos h2, b2_t, if_neg c10, says_ok hM, Option.bind_some]
    · rw [decide_eq_false (fun q => h2 (hru.mp q)), if_neg h2, b2_f, if_pos rfl, List.append_nil]
  unfold fX9_saysSlot wSlot
  rw [hh, Option.bind_some]
  by_cases h0 : Y 6 k 0 = 0
  · rw [decide_eq_false (fun q => q h0), b2_f, if_pos rfl, if_pos h0, says_ok (by omega), Option.bind_some]
  · rw [decide_eq_true (show Y 6 k 0 ≠ 0 from h0), b2_t, if_neg c10, if_neg h0, h8, Option.bind_some, sayNum_ok (by omega) (by omega), Option.bind_some, says_ok (by simp only [List.length_append, List.length_cons, List.length_nil]; omega), Option.bind_some, h1', Option.bind_some, sayNum_ok (by omega) (by simp only [List.length_append, List.length_cons, List.length_nil]; omega), Option.bind_some, says_ok (by simp only [List.length_append, List.length_cons, List.length_nil]; omega), Option.bind_some, h2', Option.bind_some, sayNum_ok (by omega) (by simp only [List.length_append, List.length_cons, List.length_nil]; omega), Option.bind_some, hg, Option.bind_some, v2, p2, r2, dgV_n (by omega), dgV_n (by omega), dgV_n (by omega)]
    by_cases h1 : Y 5 k 4 = 0
    · rw [decide_eq_false (fun q => q h1), b2_f, if_pos rfl, if_pos h1, fin _ (by simp only [List.length_append, List.length_cons, List.length_nil]; omega)]
      simp only [List.append_assoc, List.append_nil, List.nil_append]
    · rw [decide_eq_true (show Y 5 k 4 ≠ 0 from h1), b2_t, if_neg c10, if_neg h1, says_ok (by simp only [List.length_append, List.length_cons, List.length_nil]; omega), Option.bind_some, fin _ (by simp only [List.length_append, List.length_cons, List.length_nil]; omega)]
      simp only [List.append_assoc]
/-- items with blanks between -/
def jn (it : Nat → List Int32) : Nat → List Int32
  | 0 => []
  | k + 1 => (jn it k ++ (if k = 0 then [] else [32])) ++ it k
theorem jn_len {it : Nat → List Int32} {b : Nat} : ∀ k, (∀ i, i < k → (it i).length ≤ b) → (jn it k).length ≤ (b + 1) * k := by
  intro k
  induction k with
  | zero => intro _; exact Nat.le_refl 0
  | succ k ih =>
    intro h
    have h1 := ih (fun i hi => h i (by omega))
    have h2 := h k (by omega)
    have h3 : (if k = 0 then ([] : List Int32) else [32]).length ≤ 1 := by
      by_cases e : k = 0
      · rw [if_pos e]; exact Nat.zero_le 1
      · rw [if_neg e]; exact Nat.le_refl 1
    rw [Nat.mul_succ]
    simp only [jn, List.length_append]
    omega
theorem sim_writeSlots_ok : sim_writeSlots Inv := by
  intro j X hj h
  have c10 : ¬ (1 : Int32) = 0 := by decide
  have z64 : (0 : Int64) = (0 : Int32).toInt64 := by decide
  refine tellT (gg := fun B => fX9_writeSlots_16 bsF (0 : Int32) (bsWr B 14 0 0 20 (0 : Int32))) h ?_ ?_ ?_ ?_
  · intro e; unfold fX8_writeSlots; rw [e]; rfl
  · intro e; unfold fX9_writeSlots; rw [e, Option.bind_some, if_neg c10]
  · intro W e; unfold fX9_writeSlots; rw [e, Option.bind_some, if_pos rfl]
  · intro n t Q e1 hw ht hQ
    have h6 := hw.hn
    have hsz : X 0 0 0 4 = nI n := hw.sz
    have hb : ∀ k, k ≤ n → (jn (wSlot (X 0)) k).length ≤ 20 * k := fun k hk => jn_len k (fun i hi => wSlot_len (hw.sl i (by omega)))
    have hcls : ∀ d k f, k + d = n → d < f → fX8_writeSlots_13 f (nI k) (txC X (jn (wSlot (X 0)) k)) = some (0, nI (jn (wSlot (X 0)) n).length, txC X (jn (wSlot (X 0)) n)) := by
      intro d
      induction d with
      | zero =>
        intro k f hk hf
        obtain ⟨f, rfl⟩ : ∃ z, f = z + 1 := ⟨f - 1, by omega⟩
        obtain rfl : k = n := by omega
        rw [fX8_writeSlots_13, txC_g X _ (show (0 : Nat) ≠ 13 by decide), hsz, txC_len, if_pos (Int32.le_refl _), ite_self]
      | succ d ih =>
        intro k f hk hf
        obtain ⟨f, rfl⟩ : ∃ z, f = z + 1 := ⟨f - 1, by omega⟩
        have hk6 : k < 6 := by omega
        have hbk := hb k (by omega)
        have step : ∀ M : List Int32, M.length + 20 ≤ 400 → M ++ wSlot (X 0) k = jn (wSlot (X 0)) (k + 1) → fX8_writeSlots_43 (fX8_writeSlots_13 f) (nI k) (txC X M) = some (0, nI (jn (wSlot (X 0)) n).length, txC X (jn (wSlot (X 0)) n)) := by
          intro M hM hJ
          unfold fX8_writeSlots_43
          rw [if_pos ((pu_in k 6 (by omega)).mpr hk6), pu_ix k (by omega), slot_c (hw.sl k hk6) hM, Option.bind_some, hJ, pu_succ]
          exact ih (k + 1) f (by omega) (by omega)
        rw [fX8_writeSlots_13, txC_g X _ (show (0 : Nat) ≠ 13 by decide), hsz, if_neg (fun q => by have := (pu_le 6 k (by omega) (by decide)).mp q; omega), if_neg (fun q => by have := (pu_le n k (by omega) (by omega)).mp q; omega)]
        by_cases k0 : k = 0
        · rw [if_pos (show nI k ≤ (0 : Int32) from (pu_le k 0 (by decide) (by omega)).mpr (by omega))]
          refine step _ (by omega) ?_
          simp only [jn, k0, if_true, List.append_nil]
        · rw [if_neg (show ¬ nI k ≤ (0 : Int32) from fun q => by have := (pu_le k 0 (by decide) (by omega)).mp q; omega), put_ok b32 (by omega), Option.bind_some]
          refine step _ (by simp only [List.length_append, List.length_cons, List.length_nil]; omega) ?_
          simp only [jn, k0, if_false]
    have href : ∀ B : bsX, B 14 1 0 = enc (X 0) → ∀ d k f, k + d = n → d < f → fX9_writeSlots_16 f (nI k) (txR B (jn (wSlot (X 0)) k)) = some (nI (jn (wSlot (X 0)) n).length, txR B (jn (wSlot (X 0)) n)) := by
      intro B hB d
      have r0 : ∀ M, txR B M 14 1 0 0 = nI n := by intro M; rw [txR_1, hB]; exact hw.sz
      induction d with
      | zero =>
        intro k f hk hf
        obtain ⟨f, rfl⟩ : ∃ z, f = z + 1 := ⟨f - 1, by omega⟩
        obtain rfl : k = n := by omega
        rw [fX9_writeSlots_16, if_pos (show bsIn (0 : Int32) 160 by decide), bx_0, r0, if_pos (Int32.le_refl _), txR_len]
      | succ d ih =>
        intro k f hk hf
        obtain ⟨f, rfl⟩ : ∃ z, f = z + 1 := ⟨f - 1, by omega⟩
        have hk6 : k < 6 := by omega
        have hbk := hb k (by omega)
        have step : ∀ M : List Int32, M.length + 20 ≤ 400 → M ++ wSlot (X 0) k = jn (wSlot (X 0)) (k + 1) → fX9_writeSlots_36 (fX9_writeSlots_16 f) (nI k) (txR B M) = some (nI (jn (wSlot (X 0)) n).length, txR B (jn (wSlot (X 0)) n)) := by
          intro M hM hJ
          unfold fX9_writeSlots_36
          rw [slot_r hw hB hk6 hM, Option.bind_some, hJ, pu_succ]
          exact ih (k + 1) f (by omega) (by omega)
        rw [fX9_writeSlots_16, if_pos (show bsIn (0 : Int32) 160 by decide), bx_0, r0, if_neg (fun q => by have := (pu_le n k (by omega) (by omega)).mp q; omega)]
        by_cases k0 : k = 0
        · rw [if_pos (show nI k ≤ (0 : Int32) from (pu_le k 0 (by decide) (by omega)).mpr (by omega))]
          refine step _ (by omega) ?_
          simp only [jn, k0, if_true, List.append_nil]
        · rw [if_neg (show ¬ nI k ≤ (0 : Int32) from fun q => by have := (pu_le k 0 (by decide) (by omega)).mp q; omega), says_ok (by omega), Option.bind_some]
          refine step _ (by simp only [List.length_append, List.length_cons, List.length_nil]; omega) ?_
          simp only [jn, k0, if_false]
    have hbn := hb n (Nat.le_refl n)
    refine ⟨jn (wSlot (X 0)) n, by omega, ?_, ?_⟩
    · unfold fX8_writeSlots fX7_clear
      rw [e1, Option.bind_some, if_pos rfl, Option.bind_some, txC_nil]
      exact hcls n 0 bsF (by omega) (by unfold bsF; omega)
    · intro B hB
      show fX9_writeSlots_16 bsF (0 : Int32) (bsWr B 14 0 0 20 (0 : Int32)) = _
      rw [txR_nil]
      exact href B hB n 0 bsF (by omega) (by unfold bsF; omega)
