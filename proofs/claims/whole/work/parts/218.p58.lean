/-! SPARE -/
theorem ahead_tr {Y : pY} {a b c : Nat} (ha : is01 (Y 5 a 4)) (hb : is01 (Y 5 b 4)) (hc : is01 (Y 5 c 4)) (h1 : sAhead Y a b = true) (h2 : sAhead Y b c = true) : sAhead Y a c = true := by
  unfold sAhead at *
  unfold is01 at *
  grind
theorem ahead_tot {Y : pY} {a b : Nat} (ha : is01 (Y 5 a 4)) (hb : is01 (Y 5 b 4)) (hne : a ≠ b) (h : sAhead Y a b = false) : sAhead Y b a = true := by
  unfold sAhead at *
  unfold is01 at *
  grind
theorem sPlace_cnt {Y : pY} {p : Nat} : sPlace Y p = nI (cnt (fun k => sBoot Y k && sAhead Y k p)) := by
  have key : ∀ d k c, itF (sPlF Y p) d k (nI c) = nI (c + sumN (fun k => sBoot Y k && sAhead Y k p) d k) := by
    intro d
    induction d with
    | zero => intro k c; rfl
    | succ d ih =>
      intro k c
      unfold itF sumN
      have : sPlF Y p k (nI c) = nI (c + n2 (sBoot Y k && sAhead Y k p)) := by
        unfold sPlF
        cases sBoot Y k <;> cases sAhead Y k p <;> simp [b2_t, b2_f, up_at, up_up, up_id, n2, pu_succ]
      rw [this, ih, Nat.add_assoc]
  unfold sPlace
  rw [show (0 : Int32) = nI 0 from rfl, key 6 0 0]
  congr 1
  simp only [sumN, cnt, Nat.zero_add, Nat.reduceAdd]
  omega
theorem place_lt {Y : pY} {i q : Nat} (hs : slot01 Y) (hi : i < 6) (hq : q < 6) (hne : i ≠ q) (hbi : sBoot Y i = true) (hbq : sBoot Y q = true) : sPlace Y q < sPlace Y i ↔ sAhead Y q i = true := by
  have l1 := cnt_6 (fun k => sBoot Y k && sAhead Y k q)
  have l2 := cnt_6 (fun k => sBoot Y k && sAhead Y k i)
  rw [sPlace_cnt, sPlace_cnt, pu_lt _ _ (by omega) (by omega)]
  have up : ∀ a b, a < 6 → b < 6 → sBoot Y a = true → sAhead Y a b = true → cnt (fun k => sBoot Y k && sAhead Y k a) < cnt (fun k => sBoot Y k && sAhead Y k b) := by
    intro a b ha hb h1 h2
    refine cnt_lt (q := a) ?_ ha (by rw [h1, h2]; rfl) (by rw [sAhead_self]; simp [b2_t, b2_f, up_at, up_up, up_id])
    intro k hk h
    rw [Bool.and_eq_true] at h ⊢
    exact ⟨h.1, ahead_tr (hs k hk) (hs a ha) (hs b hb) h.2 h2⟩
  constructor
  · intro h
    cases e : sAhead Y q i
    · have := up i q hi hq hbi (ahead_tot (hs q hq) (hs i hi) (fun z => hne z.symm) e)
      omega
    · rfl
  · intro h
    exact up q i hq hi hbq h
def sHarm (Y : pY) (k : Nat) : Int32 := if Y 6 k 0 = 0 then 0 else if sBoot Y k = true then 2 else 1
def sHurt (Y : pY) (k : Nat) : Int32 := if Y 6 k 0 = 0 then 0 else if sBoot Y k = true then 8 - sPlace Y k else 1
def sLess (Y : pY) (k q : Nat) : Bool := if sHarm Y k = sHarm Y q then (sHarm Y k = 2 && sAhead Y q k) else sHarm Y k < sHarm Y q
theorem sHurt_lt {Y : pY} {i q : Nat} (hs : slot01 Y) (hi : i < 6) (hq : q < 6) (hne : i ≠ q) : (sHurt Y i < sHurt Y q) ↔ sLess Y i q = true := by
  have place6 : ∀ k, ∃ m, m ≤ 5 ∧ sPlace Y k = nI m ∨ m ≤ 6 ∧ sPlace Y k = nI m := fun k => ⟨cnt (fun j => sBoot Y j && sAhead Y j k), Or.inr ⟨cnt_6 _, sPlace_cnt⟩⟩
  have hpl : ∀ k, ∃ m, m ≤ 6 ∧ sPlace Y k = nI m := fun k => ⟨cnt (fun j => sBoot Y j && sAhead Y j k), cnt_6 _, sPlace_cnt⟩
  have h8 : ∀ m, m ≤ 6 → (8 : Int32) - nI m = nI (8 - m) := fun m hm => by rw [show (8 : Int32) = nI 8 from rfl, pu_sub _ _ (by omega)]
  have c02 : ¬ (0 : Int32) = 2 := by decide
  have c12 : ¬ (1 : Int32) = 2 := by decide
  have c21 : ¬ (2 : Int32) = 1 := by decide
  have c20 : ¬ (2 : Int32) = 0 := by decide
  have c10 : ¬ (1 : Int32) = 0 := by decide
  have c01 : ¬ (0 : Int32) = 1 := by decide
  obtain ⟨mi, mi1, mi2⟩ := hpl i
  obtain ⟨mq, mq1, mq2⟩ := hpl q
  have b1 : ∀ m, m ≤ 6 → (0 : Int32) < nI (8 - m) := fun m hm => (pu_lt 0 (8 - m) (by omega) (by decide)).mpr (by omega)
  have b2' : ∀ m, m ≤ 6 → (1 : Int32) < nI (8 - m) := fun m hm => (pu_lt 1 (8 - m) (by omega) (by decide)).mpr (by omega)
  have b3 : ∀ m, m ≤ 6 → ¬ nI (8 - m) < (0 : Int32) := fun m hm => pu_neg (8 - m) (by omega)
  have b4 : ∀ m, m ≤ 6 → ¬ nI (8 - m) < (1 : Int32) := fun m hm q => by have := (pu_lt (8 - m) 1 (by decide) (by omega)).mp q; omega
  have d01 : (0 : Int32) < 1 := by decide
  have d02 : (0 : Int32) < 2 := by decide
  have d12 : (1 : Int32) < 2 := by decide
  have d10 : ¬ (1 : Int32) < 0 := by decide
  have d20 : ¬ (2 : Int32) < 0 := by decide
  have d21 : ¬ (2 : Int32) < 1 := by decide
  have d00 : ¬ (0 : Int32) < 0 := by decide
  have d11 : ¬ (1 : Int32) < 1 := by decide
  unfold sHurt sLess sHarm
  by_cases pi : Y 6 i 0 = 0
  · by_cases pq : Y 6 q 0 = 0
    · simp [b2_t, b2_f, up_at, up_up, up_id, pi, pq]
    · by_cases bq : sBoot Y q = true
      · simp only [pi, pq, bq, if_true, if_false, mq2, h8 mq mq1, b1 mq mq1]
        simp [b2_t, b2_f, up_at, up_up, up_id]
      · simp [b2_t, b2_f, up_at, up_up, up_id, pi, pq, bq]
  · by_cases bi : sBoot Y i = true
    · by_cases pq : Y 6 q 0 = 0
      · simp only [pi, pq, bi, if_true, if_false, mi2, h8 mi mi1, b3 mi mi1]
        simp [b2_t, b2_f, up_at, up_up, up_id]
      · by_cases bq : sBoot Y q = true
        · have hp := place_lt hs hi hq hne bi bq
          rw [mi2, mq2, pu_lt _ _ (by omega) (by omega)] at hp
          simp only [pi, pq, bi, bq, if_true, if_false, mi2, mq2, h8 mi mi1, h8 mq mq1]
          rw [pu_lt _ _ (by omega) (by omega)]
          simp only [decide_true, Bool.true_and]
          rw [← hp]
          omega
        · simp only [pi, pq, bi, bq, if_true, if_false, mi2, h8 mi mi1]
          simp [b2_t, b2_f, up_at, up_up, up_id]
          exact pu_nlt.mp (b4 mi mi1)
    · by_cases pq : Y 6 q 0 = 0
      · simp [b2_t, b2_f, up_at, up_up, up_id, pi, pq, bi]
      · by_cases bq : sBoot Y q = true
        · simp only [pi, pq, bi, bq, if_true, if_false, mq2, h8 mq mq1]
          simp [b2_t, b2_f, up_at, up_up, up_id]
          exact b2' mq mq1
        · simp [b2_t, b2_f, up_at, up_up, up_id, pi, pq, bi, bq]
theorem q9_hurt {n Q t k : Nat} {X : bsX} {Y : pY} (hk : k < 6) (hw : wm Q n t Y) : fX9_hurt (nI k) (ro X (enc Y)) = some (sHurt Y k, ro X (enc Y)) := by
  have hs := hw.sl k hk
  have c10 : ¬ (1 : Int32) = 0 := by decide
  have hh : fX9_has (nI k) (ro X (enc Y)) = some (b2 (decide (Y 6 k 0 ≠ 0)), ro X (enc Y)) := q9_has hk hs.1
  have hc : fX9_canBoot (nI k) (ro X (enc Y)) = some (b2 (sBoot Y k), ro X (enc Y)) := q9_canBoot hk hs
  unfold fX9_hurt sHurt
  rw [hh]
  simp only [Option.bind_some]
  by_cases p : Y 6 k 0 = 0
  · simp [b2_t, b2_f, up_at, up_up, up_id, p]
  · rw [decide_eq_true (show Y 6 k 0 ≠ 0 from p)]
    simp only [b2_t, c10, if_false, p, hc, Option.bind_some]
    cases b : sBoot Y k
    · simp [b2_t, b2_f, up_at, up_up, up_id]
    · simp only [b2_t, c10, if_false, if_true, q9_placeOf hk hw, Option.bind_some]
theorem qX8_harm {X : bsX} {k : Nat} : fX8_harm k X = some (sHarm (X 0) k, X) := by
  have c10 : ¬ (1 : Int32) = 0 := by decide
  unfold fX8_harm sHarm
  by_cases p : X 0 6 k 0 = 0
  · rw [if_pos p, if_pos p]
  · rw [if_neg p, if_neg p, qX3_boot]
    simp only [Option.bind_some]
    cases b : sBoot (X 0) k
    · simp [b2_t, b2_f, up_at, up_up, up_id]
    · simp [b2_t, b2_f, up_at, up_up, up_id, c10]
theorem qX8_hurtsLess {X : bsX} {k q : Nat} (hk : k < 6) (hq : q < 6) (hs : slot01 (X 0)) : fX8_hurtsLess k q X = some (b2 (sLess (X 0) k q), X) := by
  have c10 : ¬ (1 : Int32) = 0 := by decide
  unfold fX8_hurtsLess sLess
  rw [qX8_harm]
  simp only [Option.bind_some, qX8_harm]
  by_cases e : sHarm (X 0) k = sHarm (X 0) q
  · rw [if_pos e, if_pos e]
    by_cases e2 : sHarm (X 0) k = 2
    · rw [if_pos e2, qX5_ahead 0 q k hq hk X (hs q hq)]
      simp only [Option.bind_some, e2, decide_true, Bool.true_and]
      cases sAhead (X 0) q k
      · simp [b2_t, b2_f, up_at, up_up, up_id]
      · simp [b2_t, b2_f, up_at, up_up, up_id, c10]
    · rw [if_neg e2]
      simp [b2_t, b2_f, up_at, up_up, up_id, e2]
  · rw [if_neg e, if_neg e]
    by_cases e2 : sHarm (X 0) q ≤ sHarm (X 0) k
    · rw [if_pos e2]
      have := pu_nlt.mpr e2
      simp [b2_t, b2_f, up_at, up_up, up_id, this]
    · rw [if_neg e2]
      have := pu_nle.mp e2
      simp [b2_t, b2_f, up_at, up_up, up_id, this]
