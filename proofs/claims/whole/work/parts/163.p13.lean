/-! THE REFERENCE'S SMALL METHODS on a machine's row -/
def sWhy (Y : pY) (k : Nat) : Int32 := if Y 6 k 0 = 0 then 1 else if Y 6 k 4 ≠ 0 then 2 else if Y 6 k 1 < Y 0 0 8 then 3 else if Y 5 k 2 = 0 then 4 else if Y 5 k 4 ≠ 0 ∨ 0 < Y 5 k 3 then 0 else 5
theorem q9_has {k : Nat} (hk : k < 6) {X : bsX} {Y : pY} {a b c : Int32} (h : is01 (Y 6 k 0)) : fX9_has (nI k) (ro X (row Y a b c)) = some (b2 (Y 6 k 0 ≠ 0), ro X (row Y a b c)) := by
  unfold fX9_has
  simp only [q9_of0 hk, Option.bind_some]
  rcases h with e | e <;> rw [e] <;> simp [b2_t, b2_f, up_at, up_up, up_id]
theorem q9_good {k : Nat} (hk : k < 6) {X : bsX} {Y : pY} {a b c : Int32} (h : is01 (Y 5 k 4)) : fX9_isGood (nI k) (ro X (row Y a b c)) = some (b2 (Y 5 k 4 ≠ 0), ro X (row Y a b c)) := by
  unfold fX9_isGood
  simp only [q9_of3 hk, Option.bind_some]
  rcases h with e | e <;> rw [e] <;> simp [b2_t, b2_f, up_at, up_up, up_id]
theorem q9_isOn {k : Nat} {X : bsX} {Y : pY} {a b c : Int32} : fX9_isOn (nI k) (ro X (row Y a b c)) = some (b2 (a = 1 ∧ b = nI k), ro X (row Y a b c)) := by
  unfold fX9_isOn
  simp only [bi_6, bx_6, bi_7, bx_7, rw_rd6, rw_rd7, if_true]
  by_cases h1 : a = 1 <;> by_cases h2 : b = nI k <;> simp [b2_t, b2_f, up_at, up_up, up_id, h1, h2]
theorem q9_hasI {X : bsX} {Y : pY} {a b c : Int32} : fX9_hasInstall (ro X (row Y a b c)) = some (b2 (Y 2 0 1 ≠ -1), ro X (row Y a b c)) := by
  unfold fX9_hasInstall
  simp only [bi_20, bx_20, rw_rd20, if_true]
  by_cases h1 : Y 2 0 1 = -1 <;> simp [b2_t, b2_f, up_at, up_up, up_id, h1]
theorem q9_why {k : Nat} (hk : k < 6) {X : bsX} {Y : pY} {a b c : Int32} (h : wS Y k) : fX9_whyOf (nI k) (ro X (row Y a b c)) = some (sWhy Y k, ro X (row Y a b c)) := by
  obtain ⟨h0, h4, h5, hg, _⟩ := h
  unfold fX9_whyOf fX9_whyOf_69 sWhy
  simp only [q9_has hk h0, q9_good hk hg, q9_of0 hk, q9_of1 hk, q9_of2 hk, q9_of3 hk, q9_of4 hk, q9_of5 hk, q9_of6 hk, q9_of7 hk, q9_of8 hk, q9_of9 hk, q9_of10 hk, q9_of11 hk, q9_of12 hk, Option.bind_some, bi_5, bx_5, rw_rd5, if_true]
  by_cases e0 : Y 6 k 0 = 0
  · simp [b2_t, b2_f, up_at, up_up, up_id, e0]
  · have e4 : Y 6 k 4 = 1 ∨ Y 6 k 4 = 0 := h4.symm
    rcases e4 with e4 | e4
    · simp [b2_t, b2_f, up_at, up_up, up_id, e0, e4]
    · by_cases e1 : Y 6 k 1 < Y 0 0 8
      · have := pu_nle.mpr e1
        simp [b2_t, b2_f, up_at, up_up, up_id, e0, e4, e1, this]
      · have := pu_nlt.mp e1
        by_cases e2 : Y 5 k 2 = 0
        · simp [b2_t, b2_f, up_at, up_up, up_id, e0, e4, e1, this, e2]
        · by_cases e3 : Y 5 k 4 = 0
          · by_cases e6 : 0 < Y 5 k 3
            · have := pu_nle.mpr e6
              simp [b2_t, b2_f, up_at, up_up, up_id, e0, e4, e1, e2, e3, e6, *]
            · have := pu_nlt.mp e6
              simp [b2_t, b2_f, up_at, up_up, up_id, e0, e4, e1, e2, e3, e6, *]
          · simp [b2_t, b2_f, up_at, up_up, up_id, e0, e4, e1, this, e2, e3]
theorem sWhy_boot {Y : pY} {k : Nat} (h : wS Y k) : (sWhy Y k = 0) ↔ sBoot Y k = true := by
  obtain ⟨h0, h4, h5, hg, hp, _⟩ := h
  obtain ⟨m, _, m2, m3⟩ := hp
  have hp0 : Y 5 k 2 = 0 ∨ 0 < Y 5 k 2 := by
    rw [m3]
    rcases Nat.eq_zero_or_pos m with e | e
    · left; rw [e]; rfl
    · right; exact (pu_lt 0 m (by omega) (by decide)).mpr e
  have c0 : ¬ (0 : Int32) < 0 := by decide
  have c1 : ¬ (1 : Int32) = 0 := by decide
  have c2 : ¬ (2 : Int32) = 0 := by decide
  have c3 : ¬ (3 : Int32) = 0 := by decide
  have c4 : ¬ (4 : Int32) = 0 := by decide
  have c5 : ¬ (5 : Int32) = 0 := by decide
  unfold sWhy sBoot sBootF
  by_cases e0 : Y 6 k 0 = 0 <;> by_cases e4 : Y 6 k 4 = 0 <;> by_cases e1 : Y 6 k 1 < Y 0 0 8 <;> by_cases e3 : Y 5 k 4 = 0 <;> by_cases e6 : 0 < Y 5 k 3 <;> rcases hp0 with e2 | e2 <;>
    simp only [e0, e4, e1, e2, e3, e6, c0, c1, c2, c3, c4, c5, if_true, if_false, ne_eq, not_true, not_false_eq_true, decide_true, decide_false, Bool.and_true, Bool.true_and, Bool.and_false, Bool.false_and, or_false, or_true, false_or, true_or, Bool.or_false, Bool.or_true, Bool.false_eq_true] <;>
    grind
theorem q9_canBoot {k : Nat} (hk : k < 6) {X : bsX} {Y : pY} {a b c : Int32} (h : wS Y k) : fX9_canBoot (nI k) (ro X (row Y a b c)) = some (b2 (sBoot Y k), ro X (row Y a b c)) := by
  unfold fX9_canBoot
  rw [q9_why hk h]
  simp only [Option.bind_some]
  by_cases e : sWhy Y k = 0
  · rw [if_pos e, (sWhy_boot h).mp e]; rfl
  · rw [if_neg e]
    cases hb : sBoot Y k
    · rfl
    · exact absurd ((sWhy_boot h).mpr hb) e
theorem q9_ahead {k q : Nat} (hk : k < 6) (hq : q < 6) {X : bsX} {Y : pY} {a b c : Int32} (h : is01 (Y 5 k 4)) : fX9_isAhead (nI k) (nI q) (ro X (row Y a b c)) = some (b2 (sAhead Y k q), ro X (row Y a b c)) := by
  unfold fX9_isAhead sAhead
  simp only [q9_of0 hk, q9_of1 hk, q9_of2 hk, q9_of3 hk, q9_of4 hk, q9_of5 hk, q9_of6 hk, q9_of7 hk, q9_of8 hk, q9_of9 hk, q9_of10 hk, q9_of11 hk, q9_of12 hk, q9_of0 hq, q9_of1 hq, q9_of2 hq, q9_of3 hq, q9_of4 hq, q9_of5 hq, q9_of6 hq, q9_of7 hq, q9_of8 hq, q9_of9 hq, q9_of10 hq, q9_of11 hq, q9_of12 hq, q9_good hk h, Option.bind_some]
  have e := pu_le q k (by omega) (by omega)
  by_cases e1 : Y 5 k 2 = Y 5 q 2
  · by_cases e2 : Y 5 k 4 = Y 5 q 4
    · by_cases e3 : Y 6 k 1 = Y 6 q 1
      · simp only [e1, e2, e3, if_true, e]
        by_cases e5 : q ≤ k
        · have : ¬ k < q := by omega
          simp [b2_t, b2_f, up_at, up_up, up_id, e5, this]
        · have : k < q := by omega
          simp [b2_t, b2_f, up_at, up_up, up_id, e5, this]
      · simp only [e1, e2, e3, if_true, if_false]
        by_cases e5 : Y 6 k 1 ≤ Y 6 q 1
        · have := pu_nlt.mpr e5; simp [b2_t, b2_f, up_at, up_up, up_id, e5, this]
        · have := pu_nle.mp e5; simp [b2_t, b2_f, up_at, up_up, up_id, e5, this]
    · simp only [e1, e2, if_true, if_false]
      simp [b2_t, b2_f, up_at, up_up, up_id, b2_01]
  · simp only [e1, if_false]
    by_cases e5 : Y 5 k 2 ≤ Y 5 q 2
    · have := pu_nlt.mpr e5; simp [b2_t, b2_f, up_at, up_up, up_id, e5, this]
    · have := pu_nle.mp e5; simp [b2_t, b2_f, up_at, up_up, up_id, e5, this]
theorem itF_cut {σ : Type} {f : Nat → σ → σ} {n : Nat} (h : ∀ k a, n ≤ k → k < 6 → f k a = a) : ∀ (d k : Nat) (a : σ), k + d = 6 → n ≤ k → itF f d k a = a := by
  intro d
  induction d with
  | zero => intro k a _ _; rfl
  | succ d ih => intro k a hk hn; rw [itF, h k a hn (by omega)]; exact ih (k + 1) a (by omega) (by omega)
theorem itF_app {σ : Type} {f : Nat → σ → σ} : ∀ (d e k : Nat) (a : σ), itF f (d + e) k a = itF f e (k + d) (itF f d k a) := by
  intro d
  induction d with
  | zero => intro e k a; simp [b2_t, b2_f, up_at, up_up, up_id, itF]
  | succ d ih =>
    intro e k a
    have h1 : d + 1 + e = (d + e) + 1 := by omega
    rw [h1, itF, ih e (k + 1) (f k a), itF, show k + 1 + d = k + (d + 1) by omega]
theorem itF_6 {σ : Type} {f : Nat → σ → σ} {n : Nat} (hn : n ≤ 6) (h : ∀ k a, n ≤ k → k < 6 → f k a = a) (a : σ) : itF f 6 0 a = itF f n 0 a := by
  have : 6 = n + (6 - n) := by omega
  rw [this, itF_app]
  exact itF_cut h (6 - n) (0 + n) _ (by omega) (by omega)
theorem pu_leN {n k : Nat} (h : k < n) (hn : n ≤ 6) : (nI n ≤ nI k) = False := eq_false (by rw [pu_le _ _ (by omega) (by omega)]; omega)
theorem pu_leNN {n : Nat} : (nI n ≤ nI n) = True := eq_true (Int32.le_refl _)
theorem wm.nb {Q n t : Nat} {Y : pY} (h : wm Q n t Y) {k : Nat} (h1 : n ≤ k) (hk : k < 6) {f : Int32} : sBootF f Y k = false := by
  have := (h.hi k h1 hk).1
  unfold sBootF; simp [b2_t, b2_f, up_at, up_up, up_id, this]
theorem q9_first {Q n t : Nat} {X : bsX} {Y : pY} {a b c : Int32} (h : wm Q n t Y) : fX9_first (ro X (row Y a b c)) = some (oI (sFirstBut (-1) Y), ro X (row Y a b c)) := by
  have h6 := h.hn
  have hc : sFirstBut (-1) Y = itF (sFb (-1) Y) n 0 none := itF_6 h6 (fun k b h1 hk => by unfold sFb; simp [b2_t, b2_f, up_at, up_up, up_id, h.nb h1 hk]) none
  rw [hc]
  refine (pu_loop (N := n) (fun m k b' => fX9_first_4 m (oI b') (nI k) (ro X (row Y a b c))) (sFb (-1) Y) (fun b' => (oI b', ro X (row Y a b c))) (fun _ b => o6 b) ?_ ?_ n 0 bsF none (by omega) (by unfold bsF; omega) (by simp [b2_t, b2_f, up_at, up_up, up_id, o6])).1
  · intro m k b' hk hb
    have hk6 : k < 6 := by omega
    have hw := h.sl k hk6
    refine ⟨?_, o6_ite _ hk6 hb⟩
    simp only [fX9_first_4, fX9_first_36, fX9_first_38, bi_0, bx_0, rw_rd0, h.sz, pu_leN hk h6, if_true, if_false, q9_canBoot hk6 hw, Option.bind_some, pu_succ, sFb]
    have hm1 := pu_m1 k (by omega)
    cases hs : sBootF (Y 0 0 8) Y k
    · simp [b2_t, b2_f, up_at, up_up, up_id, hs]
    · cases b' with
      | none => simp [b2_t, b2_f, up_at, up_up, up_id, hs, oI, sPref, hm1]
      | some q =>
        have hq := hb q rfl
        cases ha : sAhead Y k q <;> simp [b2_t, b2_f, up_at, up_up, up_id, hs, oI, sPref, hm1, pu_m16 hq, q9_ahead hk6 hq hw.2.2.2.1, ha]
  · intro m b' _
    simp only [fX9_first_4, bi_0, bx_0, rw_rd0, h.sz, pu_leNN, if_true]
theorem q9_tries {k : Nat} (hk : k < 6) {X : bsX} {Y : pY} {a b c : Int32} (h : is01 (Y 5 k 4)) : fX9_tries (nI k) (ro X (row Y a b c)) = some (b2 (sTry Y k).1, ro X (row (if (sTry Y k).1 then sTry1 Y k else (sTry Y k).2) a b c)) := by
  unfold fX9_tries fX9_tries_49 sTry sTry1
  simp only [q9_good hk h, q9_of0 hk, q9_of1 hk, q9_of2 hk, q9_of3 hk, q9_of4 hk, q9_of5 hk, q9_of6 hk, q9_of7 hk, q9_of8 hk, q9_of9 hk, q9_of10 hk, q9_of11 hk, q9_of12 hk, q9_pu0 hk, q9_pu1 hk, q9_pu2 hk, q9_pu3 hk, q9_pu4 hk, q9_pu5 hk, q9_pu6 hk, q9_pu7 hk, q9_pu8 hk, q9_pu9 hk, q9_pu10 hk, q9_pu11 hk, q9_pu12 hk, Option.bind_some, bi_0, bx_0, bi_1, bx_1, bi_2, bx_2, bi_3, bx_3, bi_4, bx_4, bi_5, bx_5, bi_6, bx_6, bi_7, bx_7, bi_8, bx_8, bi_9, bx_9, bi_10, bx_10, bi_11, bx_11, bi_12, bx_12, bi_13, bx_13, bi_14, bx_14, bi_15, bx_15, bi_16, bx_16, bi_17, bx_17, bi_18, bx_18, bi_19, bx_19, bi_20, bx_20, bi_21, bx_21, bi_22, bx_22, bi_23, bx_23, bi_24, bx_24, bi_25, bx_25, bi_26, bx_26, bi_27, bx_27, bi_28, bx_28, rw_rd0, rw_rd1, rw_rd2, rw_rd3, rw_rd4, rw_rd5, rw_rd6, rw_rd7, rw_rd8, rw_rd12, rw_rd13, rw_rd14, rw_rd15, rw_rd16, rw_rd17, rw_rd18, rw_rd19, rw_rd20, rw_rd21, rw_rd22, rw_rd23, rw_rd24, rw_rd25, rw_rd26, rw_rd27, rw_rd28, rw_wr1, rw_wr2, rw_wr3, rw_wr4, rw_wr5, rw_wr6, rw_wr7, rw_wr8, rw_wr13, rw_wr14, rw_wr15, rw_wr16, rw_wr17, rw_wr18, rw_wr19, if_true]
  by_cases e1 : Y 5 k 4 = 0 <;> by_cases e2 : Y 6 k 5 = 0
  all_goals simp [b2_t, b2_f, up_at, up_up, up_id, e1, e2, q9_of0 hk, q9_of1 hk, q9_of2 hk, q9_of3 hk, q9_of4 hk, q9_of5 hk, q9_of6 hk, q9_of7 hk, q9_of8 hk, q9_of9 hk, q9_of10 hk, q9_of11 hk, q9_of12 hk, q9_pu0 hk, q9_pu1 hk, q9_pu2 hk, q9_pu3 hk, q9_pu4 hk, q9_pu5 hk, q9_pu6 hk, q9_pu7 hk, q9_pu8 hk, q9_pu9 hk, q9_pu10 hk, q9_pu11 hk, q9_pu12 hk, bi_0, bx_0, bi_1, bx_1, bi_2, bx_2, bi_3, bx_3, bi_4, bx_4, bi_5, bx_5, bi_6, bx_6, bi_7, bx_7, bi_8, bx_8, bi_9, bx_9, bi_10, bx_10, bi_11, bx_11, bi_12, bx_12, bi_13, bx_13, bi_14, bx_14, bi_15, bx_15, bi_16, bx_16, bi_17, bx_17, bi_18, bx_18, bi_19, bx_19, bi_20, bx_20, bi_21, bx_21, bi_22, bx_22, bi_23, bx_23, bi_24, bx_24, bi_25, bx_25, bi_26, bx_26, bi_27, bx_27, bi_28, bx_28, rw_rd0, rw_rd1, rw_rd2, rw_rd3, rw_rd4, rw_rd5, rw_rd6, rw_rd7, rw_rd8, rw_rd12, rw_rd13, rw_rd14, rw_rd15, rw_rd16, rw_rd17, rw_rd18, rw_rd19, rw_rd20, rw_rd21, rw_rd22, rw_rd23, rw_rd24, rw_rd25, rw_rd26, rw_rd27, rw_rd28, rw_wr1, rw_wr2, rw_wr3, rw_wr4, rw_wr5, rw_wr6, rw_wr7, rw_wr8, rw_wr13, rw_wr14, rw_wr15, rw_wr16, rw_wr17, rw_wr18, rw_wr19, wr_rd]
