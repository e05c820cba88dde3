/-! THE REFERENCE'S BOOTS -/
def sSt (Y : pY) : Int32 := if Y 0 0 10 = 0 then 0 else if Y 0 0 11 = -1 then 2 else 1
def enc (Y : pY) : Nat → Int32 := row Y (sSt Y) (Y 0 0 11) (Y 0 0 12)
theorem row_N {Y : pY} {a b c v : Int32} {i : Nat} (hi : 9 < i) : row (wr Y 0 0 i v) a b c = row Y a b c := by
  funext d
  unfold row
  rw [eL_wr (by omega) (by omega), eS_wr (by omega)]
  have : eN (wr Y 0 0 i v) d = eN Y d := by
    refine eN_cases (P := fun d => eN (wr Y 0 0 i v) d = eN Y d) (fun m hm => by rw [eN_big hm, eN_big hm]) ?_ ?_ ?_ ?_ ?_ ?_ ?_ ?_ ?_ ?_ ?_ ?_ ?_ ?_ ?_ ?_ ?_ ?_ ?_ ?_ ?_ ?_ ?_ ?_ ?_ ?_ ?_ ?_ ?_ d <;> simp [b2_t, b2_f, up_at, up_up, up_id, eN, wr_rd] <;> omega
  rw [this]
theorem row_boot0 {Y : pY} {a b c : Int32} : row (sBoot0 Y) a b c = row Y a b c := by
  unfold sBoot0; rw [row_N (by decide), row_N (by decide), row_N (by decide)]
def shR (R : Nat → Int32) (m : Nat) : Nat → Int32 := fun d => if 29 ≤ d ∧ d < m then R (d + 4) else R d
theorem q9_shift {cs gv : Int32} {X : bsX} {R : Nat → Int32} (h28 : R 28 = nI 12) : fX9_tells_15 bsF cs gv (29 : Int32) (ro X R) = fX9_tells_52 cs gv (ro X (pt (shR R 73) 28 (nI 11))) := by
  have key : ∀ d k m, k + d = 73 → 29 ≤ k → d < m → fX9_tells_15 m cs gv (nI k) (ro X (shR R k)) = fX9_tells_52 cs gv (ro X (pt (shR R 73) 28 (nI 11))) := by
    intro d
    induction d with
    | zero =>
      intro k m hk h29 hm
      obtain ⟨m, rfl⟩ : ∃ z, m = z + 1 := ⟨m - 1, by omega⟩
      obtain rfl : k = 73 := by omega
      have e : ((73 : Int32) ≤ nI 73) = True := eq_true (by decide)
      have e2 : shR R 73 28 = nI 12 := by unfold shR; rw [if_neg (by omega)]; exact h28
      have e3 : nI 12 - 1 = nI 11 := by decide
      simp only [fX9_tells_15, e, if_true, bi_28, bx_28, ro_rd, ro_wr, e2, e3]
    | succ d ih =>
      intro k m hk h29 hm
      obtain ⟨m, rfl⟩ : ∃ z, m = z + 1 := ⟨m - 1, by omega⟩
      have e : ((73 : Int32) ≤ nI k) = False := eq_false (by rw [show (73 : Int32) = nI 73 from rfl, pu_le _ _ (by omega) (by omega)]; omega)
      have e4 : nI k + (4 : Int32) = nI (k + 4) := pu_add k 4
      have e5 : pt (shR R k) k (shR R k (k + 4)) = shR R (k + 1) := by
        funext d'
        unfold pt shR
        by_cases q : d' = k
        · subst q; rw [if_pos rfl, if_neg (by omega), if_pos (by omega)]
        · rw [if_neg q]
          by_cases q2 : 29 ≤ d' ∧ d' < k
          · rw [if_pos q2, if_pos (by omega)]
          · rw [if_neg q2, if_neg (by omega)]
      simp only [fX9_tells_15, e, if_false, e4, pu_inT (show k + 4 < 160 by omega) (by decide), pu_inT (show k < 160 by omega) (by decide), if_true, pu_ix k (by omega), pu_ix (k + 4) (by omega), ro_rd, ro_wr, pu_succ, e5]
      exact ih (k + 1) m (by omega) (by omega) (by omega)
  have := key 44 29 bsF (by omega) (by omega) (by decide)
  have e : shR R 29 = R := by funext d; unfold shR; rw [if_neg (by omega)]
  rw [e] at this
  exact this
theorem q9_put6 {cs gv : Int32} {X : bsX} {R : Nat → Int32} {m : Nat} (hm : m < 12) (h28 : R 28 = nI m) : fX9_tells_52 cs gv (ro X R) = some (ro X (pt (pt (pt (pt (pt (pt R (29 + 4 * m) (R 1)) (30 + 4 * m) cs) (31 + 4 * m) gv) (32 + 4 * m) (R 7)) 28 (nI (m + 1))) 12 (R 12 + 1))) := by
  have e0 : (29 : Int32) + (4 : Int32) * nI m = nI (29 + 4 * m) := by rw [show (29 : Int32) = nI 29 from rfl, show (4 : Int32) = nI 4 from rfl, pu_mul, pu_add]
  have e1 : nI (29 + 4 * m) + (1 : Int32) = nI (30 + 4 * m) := by rw [pu_succ]; congr 1; omega
  have e2 : nI (29 + 4 * m) + (2 : Int32) = nI (31 + 4 * m) := by rw [show (2 : Int32) = nI 2 from rfl, pu_add]; congr 1; omega
  have e3 : nI (29 + 4 * m) + (3 : Int32) = nI (32 + 4 * m) := by rw [show (3 : Int32) = nI 3 from rfl, pu_add]; congr 1; omega
  have n1 : ∀ k v S, 29 ≤ k → pt S k v 7 = S 7 ∧ pt S k v 28 = S 28 ∧ pt S k v 12 = S 12 ∧ pt S k v 1 = S 1 := by
    intro k v S hk; unfold pt; rw [if_neg (by omega), if_neg (by omega), if_neg (by omega), if_neg (by omega)]; simp [b2_t, b2_f, up_at, up_up, up_id]
  have g1 := fun v S => n1 (29 + 4 * m) v S (by omega)
  have g2 := fun v S => n1 (30 + 4 * m) v S (by omega)
  have g3 := fun v S => n1 (31 + 4 * m) v S (by omega)
  have g4 := fun v S => n1 (32 + 4 * m) v S (by omega)
  have e12 : ∀ v S, pt S 28 v 12 = S 12 := by intro v S; unfold pt; simp [b2_t, b2_f, up_at, up_up, up_id]
  unfold fX9_tells_52
  simp only [bi_28, bx_28, bi_1, bx_1, bi_7, bx_7, bi_12, bx_12, ro_rd, ro_wr, h28, e0, e1, e2, e3, if_true, pu_inT (show 29 + 4 * m < 160 by omega) (by decide), pu_inT (show 30 + 4 * m < 160 by omega) (by decide), pu_inT (show 31 + 4 * m < 160 by omega) (by decide), pu_inT (show 32 + 4 * m < 160 by omega) (by decide), pu_ix (29 + 4 * m) (by omega), pu_ix (30 + 4 * m) (by omega), pu_ix (31 + 4 * m) (by omega), pu_ix (32 + 4 * m) (by omega), (g1 _ _).1, (g2 _ _).1, (g3 _ _).1, (g4 _ _).1, (g1 _ _).2.1, (g2 _ _).2.1, (g3 _ _).2.1, (g4 _ _).2.1, (g1 _ _).2.2.1, (g2 _ _).2.2.1, (g3 _ _).2.2.1, (g4 _ _).2.2.1, e12, pu_succ]
theorem sAdd_K {t c gv r : Int32} {Y : pY} {K j i : Nat} (h : K ≤ 6) (h3 : K ≠ 3) : sAdd t c gv r Y K j i = Y K j i := by
  unfold sAdd
  simp only [wr_rd]
  rw [if_neg (by omega), if_neg (by omega), if_neg (by omega), if_neg (by omega), if_neg (by omega)]
def pk (t c gv r : Int32) (w : Nat) : Int32 :=
  match w with
  | 0 => t
  | 1 => c
  | 2 => gv
  | _ => r
theorem sAdd_log {t c gv r : Int32} {Y : pY} {i w : Nat} (hw : w < 4) : sAdd t c gv r Y (7 + w) 0 i = if i = bsIx (Y 3 0 4) % 12 then pk t c gv r w else Y (7 + w) 0 i := by
  have : w = 0 ∨ w = 1 ∨ w = 2 ∨ w = 3 := by omega
  unfold sAdd
  rcases this with rfl | rfl | rfl | rfl <;> simp [b2_t, b2_f, up_at, up_up, up_id, wr_rd, pk]
theorem eL_add {t c gv r : Int32} {Y : pY} {q : Nat} (hq : q < 1000000) (h : Y 3 0 4 = nI q) {i w : Nat} (hw : w < 4) (hi : i < 12) :
    eL (sAdd t c gv r Y) i w = if q < 12 then (if i = q then pk t c gv r w else eL Y i w) else (if i = 11 then pk t c gv r w else eL Y (i + 1) w) := by
  have e3 : sAdd t c gv r Y 3 0 4 = nI (q + 1) := by unfold sAdd; simp [b2_t, b2_f, up_at, up_up, up_id, wr_rd, h, pu_succ]
  unfold eL
  rw [e3, sAdd_log hw, h, pu_ix q (by omega), pu_ix (q + 1) (by omega)]
  by_cases hc : q < 12
  · have m1 : min (q + 1) 12 = q + 1 := by omega
    have m2 : min q 12 = q := by omega
    have z1 : (q + 1 - (q + 1) + i) % 12 = i := by omega
    have z2 : (q - q + i) % 12 = i := by omega
    have z3 : q % 12 = q := by omega
    rw [m1, m2, z1, z2, z3]
    by_cases e : i = q
    · have l1 : i < q + 1 := by omega
      simp only [hc, e, if_true, Nat.lt_succ_self]
    · by_cases e2 : i < q
      · have l1 : i < q + 1 := by omega
        simp only [hc, e, e2, l1, if_true, if_false]
      · have l1 : ¬ i < q + 1 := by omega
        simp only [hc, e, e2, l1, if_true, if_false]
  · have m1 : min (q + 1) 12 = 12 := by omega
    have m2 : min q 12 = 12 := by omega
    rw [m1, m2]
    by_cases e : i = 11
    · have z1 : (q + 1 - 12 + i) % 12 = q % 12 := by omega
      have l1 : i < 12 := by omega
      rw [z1]
      simp only [hc, e, if_true, if_false]
      simp [b2_t, b2_f, up_at, up_up, up_id]
    · have z1 : ¬ (q + 1 - 12 + i) % 12 = q % 12 := by omega
      have z2 : (q - 12 + (i + 1)) % 12 = (q + 1 - 12 + i) % 12 := by omega
      have l1 : i < 12 := by omega
      have l2 : i + 1 < 12 := by omega
      rw [z2]
      simp only [hc, e, l1, l2, z1, if_true, if_false]
theorem pu_min12 {z : Nat} (hz : z < 2147483648) : bsMin (nI z) 12 = nI (min z 12) := by
  have e : ((12 : Int32) < nI z) ↔ 12 < z := pu_lt 12 z hz (by decide)
  unfold bsMin
  by_cases h : 12 < z
  · have : min z 12 = 12 := by omega
    simp only [e.mpr h, if_true, this]; rfl
  · have h2 : ¬ (12 : Int32) < nI z := fun x => h (e.mp x)
    have : min z 12 = z := by omega
    simp only [h2, if_false, this]
theorem eN_add {t c gv r : Int32} {Y : pY} {q : Nat} (hq : q < 1000000) (h : Y 3 0 4 = nI q) (d : Nat) : eN (sAdd t c gv r Y) d = if d = 12 then nI (q + 1) else if d = 28 then nI (min (q + 1) 12) else eN Y d := by
  have e3 : sAdd t c gv r Y 3 0 4 = nI (q + 1) := by unfold sAdd; simp [b2_t, b2_f, up_at, up_up, up_id, wr_rd, h, pu_succ]
  have em : ∀ z, z < 1000001 → bsMin (nI z) 12 = nI (min z 12) := fun z hz => pu_min12 (by omega)
  have eK : ∀ K j i, K ≤ 6 → K ≠ 3 → sAdd t c gv r Y K j i = Y K j i := fun K j i a b => sAdd_K a b
  refine eN_cases (P := fun d => eN (sAdd t c gv r Y) d = if d = 12 then nI (q + 1) else if d = 28 then nI (min (q + 1) 12) else eN Y d) (fun m hm => by rw [eN_big hm, eN_big hm, if_neg (by omega), if_neg (by omega)]) ?_ ?_ ?_ ?_ ?_ ?_ ?_ ?_ ?_ ?_ ?_ ?_ ?_ ?_ ?_ ?_ ?_ ?_ ?_ ?_ ?_ ?_ ?_ ?_ ?_ ?_ ?_ ?_ ?_ d
  all_goals simp [b2_t, b2_f, up_at, up_up, up_id, eN, e3, em (q + 1) (by omega), eK 0, eK 2, eK 4, eK 6]
theorem q9_tells {cs gv a b c : Int32} {X : bsX} {Y : pY} {Q : Nat} (hQ : Q < 1000000) (h : rng (Y 3 0 4) 0 Q) : fX9_tells cs gv (ro X (row Y a b c)) = some (ro X (row (sAdd (Y 0 0 9) cs gv b Y) a b c)) := by
  obtain ⟨q, _, hq2, hq⟩ := h
  have em : row Y a b c 28 = nI (min q 12) := by
    show bsMin (Y 3 0 4) 12 = _
    rw [hq, pu_min12 (by omega)]
  have r1 : row Y a b c 1 = Y 0 0 9 := rfl
  have r7 : row Y a b c 7 = b := rfl
  have r12 : row Y a b c 12 = nI q := hq
  have hS : ∀ k w, eS (sAdd (Y 0 0 9) cs gv b Y) k w = eS Y k w := by
    intro k w; unfold eS; split <;> first | rw [sAdd_K (by decide) (by decide)] | rfl
  unfold fX9_tells
  simp only [bi_28, bx_28, if_true, ro_rd, em]
  by_cases hc : q < 12
  · have e1 : min q 12 = q := by omega
    have e2 : ¬ nI q = (12 : Int32) := fun e => by have := (pu_eq q 12 (by omega) (by omega)).mp e; omega
    rw [e1, if_neg e2, q9_put6 hc (by rw [em, e1]), r1, r7, r12, pu_succ]
    congr 2
    funext d
    simp only [pt]
    unfold row
    rw [eN_add (by omega) hq, hS]
    by_cases d6 : d = 6
    · subst d6; rw [if_neg (by omega), if_neg (by omega), if_neg (by omega), if_neg (by omega), if_neg (by omega), if_neg (by omega)]; simp [b2_t, b2_f, up_at, up_up, up_id]
    · by_cases d7 : d = 7
      · subst d7; rw [if_neg (by omega), if_neg (by omega), if_neg (by omega), if_neg (by omega), if_neg (by omega), if_neg (by omega)]; simp [b2_t, b2_f, up_at, up_up, up_id]
      · by_cases d8 : d = 8
        · subst d8; rw [if_neg (by omega), if_neg (by omega), if_neg (by omega), if_neg (by omega), if_neg (by omega), if_neg (by omega)]; simp [b2_t, b2_f, up_at, up_up, up_id]
        · by_cases d29 : d < 29
          · simp only [d6, d7, d8, d29, if_true, if_false]
            rw [if_neg (show ¬ d = 32 + 4 * q by omega), if_neg (show ¬ d = 31 + 4 * q by omega), if_neg (show ¬ d = 30 + 4 * q by omega), if_neg (show ¬ d = 29 + 4 * q by omega)]
            have : min (q + 1) 12 = q + 1 := by omega
            rw [this]
          · simp only [d6, d7, d8, d29, if_false]
            rw [if_neg (show ¬ d = 12 by omega), if_neg (show ¬ d = 28 by omega)]
            by_cases d77 : d < 77
            · simp only [d77, if_true]
              rw [eL_add (by omega) hq (by omega) (by omega), if_pos hc]
              by_cases ei : (d - 29) / 4 = q
              · rw [if_pos ei]
                have : (d - 29) % 4 = 0 ∨ (d - 29) % 4 = 1 ∨ (d - 29) % 4 = 2 ∨ (d - 29) % 4 = 3 := by omega
                rcases this with e | e | e | e <;> rw [e] <;> simp only [pk]
                · rw [if_neg (by omega), if_neg (by omega), if_neg (by omega), if_pos (by omega)]
                · rw [if_neg (by omega), if_neg (by omega), if_pos (by omega)]
                · rw [if_neg (by omega), if_pos (by omega)]
                · rw [if_pos (by omega)]
              · rw [if_neg ei, if_neg (by omega), if_neg (by omega), if_neg (by omega), if_neg (by omega)]
            · simp only [d77, if_false]
              rw [if_neg (by omega), if_neg (by omega), if_neg (by omega), if_neg (by omega)]
  · have e1 : min q 12 = 12 := by omega
    have e2 : nI 12 = (12 : Int32) := rfl
    have e28 : row Y a b c 28 = nI 12 := by rw [em, e1]
    have s1 : ∀ x, x < 29 → x ≠ 28 → pt (shR (row Y a b c) 73) 28 (nI 11) x = row Y a b c x := by
      intro x hx hx2; unfold pt shR; rw [if_neg hx2, if_neg (by omega)]
    rw [e1, if_pos e2, q9_shift e28, q9_put6 (m := 11) (by decide) (by simp [b2_t, b2_f, up_at, up_up, up_id, pt]), s1 1 (by omega) (by omega), s1 7 (by omega) (by omega), s1 12 (by omega) (by omega), r1, r7, r12, pu_succ]
    congr 2
    funext d
    simp only [pt, shR]
    have hrow : ∀ x, 29 ≤ x → x < 77 → row Y a b c x = eL Y ((x - 29) / 4) ((x - 29) % 4) := by
      intro x h1 h2; unfold row
      rw [if_neg (by omega), if_neg (by omega), if_neg (by omega), if_neg (by omega), if_pos h2]
    by_cases dL : 29 ≤ d ∧ d < 77
    · have hR : row (sAdd (Y 0 0 9) cs gv b Y) a b c d = eL (sAdd (Y 0 0 9) cs gv b Y) ((d - 29) / 4) ((d - 29) % 4) := by
        unfold row; rw [if_neg (by omega), if_neg (by omega), if_neg (by omega), if_neg (by omega), if_pos dL.2]
      rw [hR, eL_add (by omega) hq (by omega) (by omega), if_neg hc]
      by_cases ei : (d - 29) / 4 = 11
      · rw [if_pos ei]
        have : (d - 29) % 4 = 0 ∨ (d - 29) % 4 = 1 ∨ (d - 29) % 4 = 2 ∨ (d - 29) % 4 = 3 := by omega
        rcases this with e | e | e | e <;> rw [e] <;> simp only [pk]
        · rw [if_neg (by omega), if_neg (by omega), if_neg (by omega), if_neg (by omega), if_neg (by omega), if_pos (by omega)]
        · rw [if_neg (by omega), if_neg (by omega), if_neg (by omega), if_neg (by omega), if_pos (by omega)]
        · rw [if_neg (by omega), if_neg (by omega), if_neg (by omega), if_pos (by omega)]
        · rw [if_neg (by omega), if_neg (by omega), if_pos (by omega)]
      · rw [if_neg ei, if_neg (by omega), if_neg (by omega), if_neg (by omega), if_neg (by omega), if_neg (by omega), if_neg (by omega), if_neg (by omega), if_pos (by omega), hrow _ (by omega) (by omega)]
        have a1 : (d + 4 - 29) / 4 = (d - 29) / 4 + 1 := by omega
        have a2 : (d + 4 - 29) % 4 = (d - 29) % 4 := by omega
        rw [a1, a2]
    · by_cases d12 : d = 12
      · subst d12; unfold row; rw [eN_add (by omega) hq]; simp [b2_t, b2_f, up_at, up_up, up_id]
      · by_cases d28 : d = 28
        · subst d28; unfold row; rw [eN_add (by omega) hq]
          have : min (q + 1) 12 = 12 := by omega
          simp [b2_t, b2_f, up_at, up_up, up_id, this]
        · rw [if_neg d12, if_neg d28, if_neg (by omega), if_neg (by omega), if_neg (by omega), if_neg (by omega), if_neg d28, if_neg (by omega)]
          unfold row
          rw [eN_add (by omega) hq, hS, if_neg d12, if_neg d28]
          by_cases d29 : d < 29
          · simp only [d29, if_true]
          · have : ¬ d < 77 := by omega
            simp only [d29, this, if_false]
