/-! THE REFERENCE: crash, success, what runs on -/
def sLst (a : Int32) (Y : pY) (k : Nat) (b : Int32) : Int32 := if (Y 5 k 4 ≠ 0 ∨ nI k = a) ∧ (b = -1 ∨ Y 6 k 1 < b) then Y 6 k 1 else b
def lstR (b : Int32) (p : Int32 × Int32) : Prop := (p.2 = 0 ∧ b = -1 ∧ p.1 = 99) ∨ (p.2 = 1 ∧ b = p.1 ∧ rng b 0 99)
theorem lst_step {a : Int32} {Y : pY} {k : Nat} {b : Int32} {p : Int32 × Int32} (hv : rng (Y 6 k 1) 0 99) (h : lstR b p) : lstR (sLst a Y k b) (sFbg a Y k p) := by
  unfold sLst sFbg
  by_cases hc : Y 5 k 4 ≠ 0 ∨ nI k = a
  · rw [if_pos hc]
    rcases h with ⟨h1, h2, h3⟩ | ⟨h1, h2, h3⟩
    · right
      rw [if_pos ⟨hc, Or.inl h2⟩, h3]
      refine ⟨rfl, ?_, hv⟩
      obtain ⟨m, _, m2, m3⟩ := hv
      show Y 6 k 1 = bsMin 99 (Y 6 k 1)
      unfold bsMin
      by_cases e : Y 6 k 1 < 99
      · rw [if_pos e]
      · rw [if_neg e]
        rw [m3] at e ⊢
        have : ¬ m < 99 := fun q => e ((pu_lt m 99 (by decide) (by omega)).mpr q)
        have : m = 99 := by omega
        rw [this]; rfl
    · right
      have hb : ¬ b = -1 := by obtain ⟨m, _, m2, m3⟩ := h3; rw [m3]; exact pu_m1 m (by omega)
      refine ⟨rfl, ?_, ?_⟩
      · show _ = bsMin p.1 (Y 6 k 1)
        unfold bsMin
        by_cases e : Y 6 k 1 < b
        · rw [if_pos ⟨hc, Or.inr e⟩, ← h2, if_pos e]
        · rw [if_neg (fun q => by rcases q.2 with z | z; exact hb z; exact e z), ← h2, if_neg e]
      · split
        · exact hv
        · exact h3
  · rw [if_neg (fun q => hc q.1), if_neg hc]
    exact h
theorem lst_it {a : Int32} {Y : pY} (hv : ∀ k, k < 6 → rng (Y 6 k 1) 0 99) : ∀ d k b p, k + d ≤ 6 → lstR b p → lstR (itF (sLst a Y) d k b) (itF (sFbg a Y) d k p) := by
  intro d
  induction d with
  | zero => intro k b p _ h; exact h
  | succ d ih => intro k b p hk h; exact ih (k + 1) _ _ (by omega) (lst_step (hv k (by omega)) h)
theorem sFbg_any {a : Int32} {Y : pY} {q : Nat} (hq : q < 6) (h : Y 5 q 4 ≠ 0 ∨ nI q = a) (p : Int32 × Int32) : (itF (sFbg a Y) 6 0 p).2 ≠ 0 := by
  have := itF_ix (f := sFbg a Y) (N := 6) (fun m p => q < m → p.2 ≠ 0) ?_ 6 0 p rfl (by intro z; omega)
  · exact this hq
  · intro k p hk hp hm
    unfold sFbg
    by_cases e : q = k
    · subst e; rw [if_pos h]; exact (by decide : (1 : Int32) ≠ 0)
    · split
      · exact (by decide : (1 : Int32) ≠ 0)
      · exact hp (by omega)
theorem q9_least {n q : Nat} (hn : n ≤ 6) {X : bsX} {Y : pY} {a b c : Int32} (sz : Y 0 0 4 = nI n) (hs : ∀ k, k < 6 → is01 (Y 5 k 4)) (hv : ∀ k, k < 6 → rng (Y 6 k 1) 0 99) (hi : ∀ k, n ≤ k → k < 6 → Y 5 k 4 = 0) (hq : q < n) :
    ∃ L, fX9_leastGood (nI q) (ro X (row Y a b c)) = some (L, ro X (row Y a b c)) ∧ bsMax (Y 0 0 8) L = sFloorBy (nI q) Y := by
  refine ⟨itF (sLst (nI q) Y) n 0 (-1), ?_, ?_⟩
  · refine (pu_loop (N := n) (fun m k x => fX9_leastGood_4 m (nI q) x (nI k) (ro X (row Y a b c))) (sLst (nI q) Y) (fun x => (x, ro X (row Y a b c))) (fun _ _ => True) ?_ ?_ n 0 bsF (-1) (by omega) (by unfold bsF; omega) trivial).1
    · intro m k x hk _
      have hk6 : k < 6 := by omega
      refine ⟨?_, trivial⟩
      simp only [fX9_leastGood_4, fX9_leastGood_27, fX9_leastGood_43, fX9_leastGood_51, bi_0, bx_0, rw_rd0, sz, pu_leN hk hn, if_true, if_false, q9_good hk6 (hs k hk6), q9_of0 hk6, q9_of1 hk6, q9_of2 hk6, q9_of3 hk6, q9_of4 hk6, q9_of5 hk6, q9_of6 hk6, q9_of7 hk6, q9_of8 hk6, q9_of9 hk6, q9_of10 hk6, q9_of11 hk6, q9_of12 hk6, Option.bind_some, pu_succ, sLst]
      by_cases e1 : Y 5 k 4 = 0 <;> by_cases e2 : nI k = nI q <;> by_cases e3 : x = -1 <;> by_cases e4 : Y 6 k 1 < x
      all_goals first | have e5 := pu_nle.mpr e4 | have e5 := pu_nlt.mp e4
      all_goals simp [b2_t, b2_f, up_at, up_up, up_id, e1, e2, e3, e4, e5]
      all_goals grind
    · intro m x _
      simp only [fX9_leastGood_4, bi_0, bx_0, rw_rd0, sz, pu_leNN, if_true]
  · have hcut : itF (sLst (nI q) Y) 6 0 (-1) = itF (sLst (nI q) Y) n 0 (-1) := itF_6 hn (fun k x h1 h2 => by
      unfold sLst
      have e1 := hi k h1 h2
      have e2 : ¬ nI k = nI q := fun e => by have := (pu_eq k q (by omega) (by omega)).mp e; omega
      simp [b2_t, b2_f, up_at, up_up, up_id, e1, e2]) _
    rw [← hcut]
    have h1 := lst_it (a := nI q) hv 6 0 (-1) (99, 0) (by omega) (Or.inl ⟨rfl, rfl, rfl⟩)
    have h2 := sFbg_any (a := nI q) (Y := Y) (q := q) (by omega) (Or.inr rfl) (99, 0)
    unfold sFloorBy
    rcases h1 with ⟨e1, _, _⟩ | ⟨e1, e2, e3⟩
    · exact absurd e1 h2
    · dsimp only
      rw [if_neg h2, ← e2]
theorem sFloorBy_good {Y : pY} {q : Nat} (hq : q < 6) (h : Y 5 q 4 ≠ 0) : sFloorBy (nI q) Y = sFloorBy (-1) Y := by
  have e : ∀ d k p, k + d ≤ 6 → itF (sFbg (nI q) Y) d k p = itF (sFbg (-1) Y) d k p := by
    intro d
    induction d with
    | zero => intro k p _; rfl
    | succ d ih =>
      intro k p hk
      have h1 : sFbg (nI q) Y k p = sFbg (-1) Y k p := by
        unfold sFbg
        have e2 : ¬ nI k = -1 := pu_m1 k (by omega)
        by_cases e3 : k = q
        · subst e3; rw [if_pos (Or.inl h), if_pos (Or.inl h)]
        · have e4 : ¬ nI k = nI q := fun z => e3 ((pu_eq k q (by omega) (by omega)).mp z)
          by_cases e5 : Y 5 k 4 = 0 <;> simp [b2_t, b2_f, up_at, up_up, up_id, e2, e4, e5]
      rw [itF, itF, h1]
      exact ih (k + 1) _ (by omega)
  unfold sFloorBy
  rw [e 6 0 _ (by omega)]
theorem q9_crash {k n Q t : Nat} (hk : k < n) (hQ : Q < 1000000) {X : bsX} {Y : pY} {a b c : Int32} (h : wm Q n t Y) (hp : Y 6 k 0 ≠ 0) :
    fX9_crashes (nI k) (ro X (row Y a b c)) = some (ro X (enc (sBoots 2 (sCrash k Y)).2)) := by
  have h6 := h.hn
  have hk6 : k < 6 := by omega
  have hg := (h.sl k hk6).2.2.2.1
  have hw := wm_boot0 (wm_crash h hk (fun _ => hp) hp)
  have hb : ∀ a b c, fX9_crashes_74 (ro X (row (sCrash k Y) a b c)) = some (ro X (enc (sBoots 2 (sCrash k Y)).2)) := by
    intro a b c
    unfold fX9_crashes_74
    rw [q9_boots hQ hw]; rfl
  have hg2 : ∀ v w, is01 (wr (wr Y 4 0 2 v) 5 k 5 w 5 k 4) := by intro v w; simpa [b2_t, b2_f, up_at, up_up, up_id, wr_rd] using hg
  have e0 : sCrash k Y = if Y 5 k 4 ≠ 0 ∧ Y 0 0 6 ≤ Y 5 k 5 + 1 then wr (wr (wr (wr (wr Y 4 0 2 (Y 4 0 2 + 1)) 5 k 5 (Y 5 k 5 + 1)) 5 k 4 0) 5 k 3 (Y 0 0 7)) 5 k 5 0 else wr (wr Y 4 0 2 (Y 4 0 2 + 1)) 5 k 5 (Y 5 k 5 + 1) := rfl
  have hs : ∀ Z, Z = sCrash k Y → fX9_crashes_74 (ro X (row Z a b c)) = some (ro X (enc (sBoots 2 (sCrash k Y)).2)) := fun Z hZ => by rw [hZ]; exact hb a b c
  unfold fX9_crashes
  simp only [bi_0, bx_0, bi_1, bx_1, bi_2, bx_2, bi_3, bx_3, bi_4, bx_4, bi_5, bx_5, bi_6, bx_6, bi_7, bx_7, bi_8, bx_8, bi_9, bx_9, bi_10, bx_10, bi_11, bx_11, bi_12, bx_12, bi_13, bx_13, bi_14, bx_14, bi_15, bx_15, bi_16, bx_16, bi_17, bx_17, bi_18, bx_18, bi_19, bx_19, bi_20, bx_20, bi_21, bx_21, bi_22, bx_22, bi_23, bx_23, bi_24, bx_24, bi_25, bx_25, bi_26, bx_26, bi_27, bx_27, bi_28, bx_28, rw_rd0, rw_rd1, rw_rd2, rw_rd3, rw_rd4, rw_rd5, rw_rd6, rw_rd7, rw_rd8, rw_rd12, rw_rd13, rw_rd14, rw_rd15, rw_rd16, rw_rd17, rw_rd18, rw_rd19, rw_rd20, rw_rd21, rw_rd22, rw_rd23, rw_rd24, rw_rd25, rw_rd26, rw_rd27, rw_rd28, rw_wr1, rw_wr2, rw_wr3, rw_wr4, rw_wr5, rw_wr6, rw_wr7, rw_wr8, rw_wr13, rw_wr14, rw_wr15, rw_wr16, rw_wr17, rw_wr18, rw_wr19, if_true, q9_of0 hk6, q9_of1 hk6, q9_of2 hk6, q9_of3 hk6, q9_of4 hk6, q9_of5 hk6, q9_of6 hk6, q9_of7 hk6, q9_of8 hk6, q9_of9 hk6, q9_of10 hk6, q9_of11 hk6, q9_of12 hk6, q9_pu0 hk6, q9_pu1 hk6, q9_pu2 hk6, q9_pu3 hk6, q9_pu4 hk6, q9_pu5 hk6, q9_pu6 hk6, q9_pu7 hk6, q9_pu8 hk6, q9_pu9 hk6, q9_pu10 hk6, q9_pu11 hk6, q9_pu12 hk6, Option.bind_some, q9_good hk6 (hg2 _ _), wr_rd, and_self, and_true, true_and]
  by_cases e1 : Y 5 k 4 = 0
  · simp [b2_t, b2_f, up_at, up_up, up_id, e1]
    apply hs
    rw [e0]; simp [b2_t, b2_f, up_at, up_up, up_id, e1]
  · by_cases e2 : Y 5 k 5 + 1 < Y 0 0 6
    · have e3 := pu_nle.mpr e2
      simp [b2_t, b2_f, up_at, up_up, up_id, e1, e2]
      apply hs
      rw [e0]; simp [b2_t, b2_f, up_at, up_up, up_id, e1, e3]
    · have e3 := pu_nlt.mp e2
      simp [b2_t, b2_f, up_at, up_up, up_id, e1, e2, q9_of0 hk6, q9_of1 hk6, q9_of2 hk6, q9_of3 hk6, q9_of4 hk6, q9_of5 hk6, q9_of6 hk6, q9_of7 hk6, q9_of8 hk6, q9_of9 hk6, q9_of10 hk6, q9_of11 hk6, q9_of12 hk6, q9_pu0 hk6, q9_pu1 hk6, q9_pu2 hk6, q9_pu3 hk6, q9_pu4 hk6, q9_pu5 hk6, q9_pu6 hk6, q9_pu7 hk6, q9_pu8 hk6, q9_pu9 hk6, q9_pu10 hk6, q9_pu11 hk6, q9_pu12 hk6, bi_0, bx_0, bi_1, bx_1, bi_2, bx_2, bi_3, bx_3, bi_4, bx_4, bi_5, bx_5, bi_6, bx_6, bi_7, bx_7, bi_8, bx_8, bi_9, bx_9, bi_10, bx_10, bi_11, bx_11, bi_12, bx_12, bi_13, bx_13, bi_14, bx_14, bi_15, bx_15, bi_16, bx_16, bi_17, bx_17, bi_18, bx_18, bi_19, bx_19, bi_20, bx_20, bi_21, bx_21, bi_22, bx_22, bi_23, bx_23, bi_24, bx_24, bi_25, bx_25, bi_26, bx_26, bi_27, bx_27, bi_28, bx_28, rw_rd0, rw_rd1, rw_rd2, rw_rd3, rw_rd4, rw_rd5, rw_rd6, rw_rd7, rw_rd8, rw_rd12, rw_rd13, rw_rd14, rw_rd15, rw_rd16, rw_rd17, rw_rd18, rw_rd19, rw_rd20, rw_rd21, rw_rd22, rw_rd23, rw_rd24, rw_rd25, rw_rd26, rw_rd27, rw_rd28, rw_wr1, rw_wr2, rw_wr3, rw_wr4, rw_wr5, rw_wr6, rw_wr7, rw_wr8, rw_wr13, rw_wr14, rw_wr15, rw_wr16, rw_wr17, rw_wr18, rw_wr19, wr_rd]
      apply hs
      rw [e0]; simp [b2_t, b2_f, up_at, up_up, up_id, e1, e3]
theorem q9_succ {k n Q t : Nat} (hk : k < n) {X : bsX} {Y : pY} {a b c : Int32} (h : wm Q n t Y) :
    fX9_succeeds (nI k) (ro X (row Y a b c)) = some (ro X (row (sSucc k Y) a b c)) := by
  have h6 := h.hn
  have hk6 : k < 6 := by omega
  have hg := (h.sl k hk6).2.2.2.1
  have hgood : ∀ q, sSucc1 k Y 5 q 4 = if q = k then (if Y 5 k 4 = 0 then 1 else Y 5 k 4) else Y 5 q 4 := by
    intro q
    unfold sSucc1
    by_cases e1 : Y 5 k 4 = 0 <;> by_cases e2 : q = k <;> simp [b2_t, b2_f, up_at, up_up, up_id, e1, e2, wr_rd]
  have hver : ∀ q i, sSucc1 k Y 6 q i = Y 6 q i := by intro q i; unfold sSucc1; by_cases e : Y 5 k 4 = 0 <;> simp [b2_t, b2_f, up_at, up_up, up_id, wr_rd, e]
  have h0 : ∀ i, sSucc1 k Y 0 0 i = Y 0 0 i := by intro i; unfold sSucc1; by_cases e : Y 5 k 4 = 0 <;> simp [b2_t, b2_f, up_at, up_up, up_id, wr_rd, e]
  have hgk : sSucc1 k Y 5 k 4 ≠ 0 := by
    rw [hgood k, if_pos rfl]
    by_cases e : Y 5 k 4 = 0
    · rw [if_pos e]; decide
    · rw [if_neg e]; exact e
  obtain ⟨L, hL1, hL2⟩ := q9_least (n := n) (q := k) h6 (X := X) (Y := sSucc1 k Y) (a := a) (b := b) (c := c) (by rw [h0]; exact h.sz)
    (by intro q hq; rw [hgood q]; split; split; exact Or.inr rfl; exact hg; exact (h.sl q hq).2.2.2.1)
    (by intro q hq; rw [hver]; exact (h.sl q hq).2.2.2.2.2.2.1)
    (by
      intro q h1 h2
      rw [hgood q, if_neg (by omega)]
      exact ((h.sl q h2).2.2.2.2.2.2.2.2.2 (h.hi q h1 h2).1).2.2.1) hk
  rw [sFloorBy_good hk6 hgk, h0] at hL2
  have hend : ∀ Z, wr Z 5 k 5 0 = sSucc1 k Y → fX9_succeeds_49 (nI k) (ro X (row Z a b c)) = some (ro X (row (sSucc k Y) a b c)) := by
    intro Z hZ
    unfold fX9_succeeds_49
    simp only [q9_pu0 hk6, q9_pu1 hk6, q9_pu2 hk6, q9_pu3 hk6, q9_pu4 hk6, q9_pu5 hk6, q9_pu6 hk6, q9_pu7 hk6, q9_pu8 hk6, q9_pu9 hk6, q9_pu10 hk6, q9_pu11 hk6, q9_pu12 hk6, Option.bind_some, hZ, bi_0, bx_0, bi_1, bx_1, bi_2, bx_2, bi_3, bx_3, bi_4, bx_4, bi_5, bx_5, bi_6, bx_6, bi_7, bx_7, bi_8, bx_8, bi_9, bx_9, bi_10, bx_10, bi_11, bx_11, bi_12, bx_12, bi_13, bx_13, bi_14, bx_14, bi_15, bx_15, bi_16, bx_16, bi_17, bx_17, bi_18, bx_18, bi_19, bx_19, bi_20, bx_20, bi_21, bx_21, bi_22, bx_22, bi_23, bx_23, bi_24, bx_24, bi_25, bx_25, bi_26, bx_26, bi_27, bx_27, bi_28, bx_28, if_true, hL1, rw_rd0, rw_rd1, rw_rd2, rw_rd3, rw_rd4, rw_rd5, rw_rd6, rw_rd7, rw_rd8, rw_rd12, rw_rd13, rw_rd14, rw_rd15, rw_rd16, rw_rd17, rw_rd18, rw_rd19, rw_rd20, rw_rd21, rw_rd22, rw_rd23, rw_rd24, rw_rd25, rw_rd26, rw_rd27, rw_rd28, rw_wr1, rw_wr2, rw_wr3, rw_wr4, rw_wr5, rw_wr6, rw_wr7, rw_wr8, rw_wr13, rw_wr14, rw_wr15, rw_wr16, rw_wr17, rw_wr18, rw_wr19, h0, hL2]
    rfl
  unfold fX9_succeeds
  simp only [q9_good hk6 hg, Option.bind_some]
  by_cases e1 : Y 5 k 4 = 0
  · simp [b2_t, b2_f, up_at, up_up, up_id, e1, q9_of0 hk6, q9_of1 hk6, q9_of2 hk6, q9_of3 hk6, q9_of4 hk6, q9_of5 hk6, q9_of6 hk6, q9_of7 hk6, q9_of8 hk6, q9_of9 hk6, q9_of10 hk6, q9_of11 hk6, q9_of12 hk6, q9_pu0 hk6, q9_pu1 hk6, q9_pu2 hk6, q9_pu3 hk6, q9_pu4 hk6, q9_pu5 hk6, q9_pu6 hk6, q9_pu7 hk6, q9_pu8 hk6, q9_pu9 hk6, q9_pu10 hk6, q9_pu11 hk6, q9_pu12 hk6, bi_0, bx_0, bi_1, bx_1, bi_2, bx_2, bi_3, bx_3, bi_4, bx_4, bi_5, bx_5, bi_6, bx_6, bi_7, bx_7, bi_8, bx_8, bi_9, bx_9, bi_10, bx_10, bi_11, bx_11, bi_12, bx_12, bi_13, bx_13, bi_14, bx_14, bi_15, bx_15, bi_16, bx_16, bi_17, bx_17, bi_18, bx_18, bi_19, bx_19, bi_20, bx_20, bi_21, bx_21, bi_22, bx_22, bi_23, bx_23, bi_24, bx_24, bi_25, bx_25, bi_26, bx_26, bi_27, bx_27, bi_28, bx_28, rw_rd0, rw_rd1, rw_rd2, rw_rd3, rw_rd4, rw_rd5, rw_rd6, rw_rd7, rw_rd8, rw_rd12, rw_rd13, rw_rd14, rw_rd15, rw_rd16, rw_rd17, rw_rd18, rw_rd19, rw_rd20, rw_rd21, rw_rd22, rw_rd23, rw_rd24, rw_rd25, rw_rd26, rw_rd27, rw_rd28, rw_wr1, rw_wr2, rw_wr3, rw_wr4, rw_wr5, rw_wr6, rw_wr7, rw_wr8, rw_wr13, rw_wr14, rw_wr15, rw_wr16, rw_wr17, rw_wr18, rw_wr19, wr_rd]
    apply hend
    unfold sSucc1
    rw [if_pos e1]
  · simp [b2_t, b2_f, up_at, up_up, up_id, e1]
    apply hend
    unfold sSucc1
    rw [if_neg e1]
