/-- slot k made empty -/
def sEmp (k : Nat) (Y : pY) : pY := wr (wr (wr (wr (wr (sImg Y k (fun i => if i = 0 then 1 else 0)) 6 k 0 0) 5 k 2 0) 5 k 3 0) 5 k 4 0) 5 k 5 0
theorem sEmp_rd {k : Nat} {Y : pY} {K j i : Nat} : sEmp k Y K j i = if j = k ∧ ((K = 6 ∧ i ≤ 5) ∨ (K = 5 ∧ 2 ≤ i ∧ i ≤ 5)) then 0 else Y K j i := by
  unfold sEmp sImg
  simp only [wr_rd]
  by_cases e : j = k ∧ ((K = 6 ∧ i ≤ 5) ∨ (K = 5 ∧ 2 ≤ i ∧ i ≤ 5))
  · rw [if_pos e]
    obtain ⟨rfl, e⟩ := e
    rcases e with ⟨rfl, e⟩ | ⟨rfl, e1, e2⟩
    · have : i = 0 ∨ i = 1 ∨ i = 2 ∨ i = 3 ∨ i = 4 ∨ i = 5 := by omega
      rcases this with rfl | rfl | rfl | rfl | rfl | rfl <;> simp [b2_t, b2_f, up_at, up_up, up_id]
    · have : i = 2 ∨ i = 3 ∨ i = 4 ∨ i = 5 := by omega
      rcases this with rfl | rfl | rfl | rfl <;> simp [b2_t, b2_f, up_at, up_up, up_id]
  · rw [if_neg e]
    repeat rw [if_neg (by omega)]
theorem qX5_empty (g k : Nat) (X : bsX) : fX5_makeEmpty g k X = some (up X g (sEmp k (X g))) := by
  unfold fX5_makeEmpty fX1_remove fX1_set fX5_setMark sEmp sImg
  simp [b2_t, b2_f, up_at, up_up, up_id, up_wr]
theorem q9_emp2 {k : Nat} (hk : k < 6) {X : bsX} {a b c : Int32} (f : Nat) (Z : pY) : fX9_empties_23 (f + 6) (nI k) (8 : Int32) (ro X (row Z a b c)) = some (ro X (row (wr (wr (wr (wr (wr Z 6 k 1 0) 6 k 2 0) 6 k 3 0) 6 k 4 0) 6 k 5 0) a b c)) := by
  simp only [fX9_empties_23, q9_pu0 hk, q9_pu1 hk, q9_pu2 hk, q9_pu3 hk, q9_pu4 hk, q9_pu5 hk, q9_pu6 hk, q9_pu7 hk, q9_pu8 hk, q9_pu9 hk, q9_pu10 hk, q9_pu11 hk, q9_pu12 hk, Option.bind_some, show ¬ (12 : Int32) < 8 by decide, show ¬ (12 : Int32) < 9 by decide, show ¬ (12 : Int32) < 10 by decide, show ¬ (12 : Int32) < 11 by decide, show ¬ (12 : Int32) < 12 by decide, show (12 : Int32) < 13 by decide, show (8 : Int32) + 1 = 9 by decide, show (9 : Int32) + 1 = 10 by decide, show (10 : Int32) + 1 = 11 by decide, show (11 : Int32) + 1 = 12 by decide, show (12 : Int32) + 1 = 13 by decide, if_false, if_true]
theorem q9_empStop {k : Nat} {X : bsX} (f : Nat) : fX9_empties_2 (f + 1) (nI k) (5 : Int32) X = fX9_empties_23 bsF (nI k) (8 : Int32) X := by
  rw [fX9_empties_2, if_pos (by decide)]
theorem q9_empStep {k : Nat} {X Z : bsX} (f : Nat) {x y : Int32} (h : ¬ (4 : Int32) < x) (hy : x + 1 = y) (hp : fX9_puts (nI k) x 0 X = some Z) : fX9_empties_2 (f + 1) (nI k) x X = fX9_empties_2 f (nI k) y Z := by
  rw [fX9_empties_2, if_neg h, hp, ← hy]
  rfl
theorem q9_emp1 {k : Nat} (hk : k < 6) {X : bsX} {a b c : Int32} (f : Nat) (Y : pY) : fX9_empties_2 (f + 6) (nI k) (0 : Int32) (ro X (row Y a b c)) = fX9_empties_23 bsF (nI k) (8 : Int32) (ro X (row (wr (wr (wr (wr (wr Y 6 k 0 0) 5 k 2 0) 5 k 3 0) 5 k 4 0) 5 k 5 0) a b c)) :=
  (q9_empStep (f + 5) (by decide) (by decide) (q9_pu0 hk _ _ _ _ _ _)).trans <|
  (q9_empStep (f + 4) (by decide) (by decide) (q9_pu1 hk _ _ _ _ _ _)).trans <|
  (q9_empStep (f + 3) (by decide) (by decide) (q9_pu2 hk _ _ _ _ _ _)).trans <|
  (q9_empStep (f + 2) (by decide) (by decide) (q9_pu3 hk _ _ _ _ _ _)).trans <|
  (q9_empStep (f + 1) (by decide) (by decide) (q9_pu4 hk _ _ _ _ _ _)).trans (q9_empStop f)
theorem emp_eq {k : Nat} {Y : pY} : wr (wr (wr (wr (wr (wr (wr (wr (wr (wr Y 6 k 0 0) 5 k 2 0) 5 k 3 0) 5 k 4 0) 5 k 5 0) 6 k 1 0) 6 k 2 0) 6 k 3 0) 6 k 4 0) 6 k 5 0 = sEmp k Y := by
  funext K j i
  rw [sEmp_rd]
  simp only [wr_rd]
  by_cases e : j = k ∧ ((K = 6 ∧ i ≤ 5) ∨ (K = 5 ∧ 2 ≤ i ∧ i ≤ 5))
  · rw [if_pos e]
    obtain ⟨rfl, e⟩ := e
    rcases e with ⟨rfl, e⟩ | ⟨rfl, e1, e2⟩
    · have : i = 0 ∨ i = 1 ∨ i = 2 ∨ i = 3 ∨ i = 4 ∨ i = 5 := by omega
      rcases this with rfl | rfl | rfl | rfl | rfl | rfl <;> simp [b2_t, b2_f, up_at, up_up, up_id]
    · have : i = 2 ∨ i = 3 ∨ i = 4 ∨ i = 5 := by omega
      rcases this with rfl | rfl | rfl | rfl <;> simp [b2_t, b2_f, up_at, up_up, up_id]
  · rw [if_neg e]
    repeat rw [if_neg (by omega)]
theorem bsF_6 : ∃ f, bsF = f + 6 := ⟨bsF - 6, by unfold bsF; omega⟩
theorem q9_empties {k : Nat} (hk : k < 6) {X : bsX} {Y : pY} {a b c : Int32} : fX9_empties (nI k) (ro X (row Y a b c)) = some (ro X (row (sEmp k Y) a b c)) := by
  obtain ⟨f, hb⟩ := bsF_6
  have h1 := q9_emp1 hk (X := X) (a := a) (b := b) (c := c) f Y
  have h2 := q9_emp2 hk (X := X) (a := a) (b := b) (c := c) f (wr (wr (wr (wr (wr Y 6 k 0 0) 5 k 2 0) 5 k 3 0) 5 k 4 0) 5 k 5 0)
  rw [emp_eq] at h2
  rw [← hb] at h1 h2
  unfold fX9_empties
  rw [h1, h2]
theorem enc_emp (k : Nat) (Y : pY) : row (sEmp k Y) (sSt Y) (Y 0 0 11) (Y 0 0 12) = enc (sEmp k Y) := by
  unfold enc sSt
  simp [b2_t, b2_f, up_at, up_up, up_id, sEmp_rd]
theorem q9_empE {k : Nat} (hk : k < 6) {X : bsX} {Y : pY} : fX9_empties (nI k) (ro X (enc Y)) = some (ro X (enc (sEmp k Y))) := by
  rw [← enc_emp]; exact q9_empties hk
/-- an install that begins -/
def sBeg (k : Nat) (v s c m : Int32) (Y : pY) : pY := sImg (wr (wr (wr (sEmp k Y) 2 0 1 (nI k)) 2 0 2 m) 2 0 3 3) 6 (fun i => if i = 0 then 1 else if i = 1 then v else if i = 2 then s else if i = 3 then c else 0)
theorem qX_beg {k : Nat} {v s c m : Int32} {R : bsX} : ((fX5_makeEmpty 0 k R).bind fun r24 => (fX2_set 0 (nI k) m r24).bind fun r26 => (fX1_set 0 6 v s c r26).bind fun r28 => (some (0, ((r28 0 0 0 9) + m), r28) : Option bsXr)) = some (0, sBeg k v s c m (R 0) 0 0 9 + m, up R 0 (sBeg k v s c m (R 0))) := by
  rw [qX5_empty]
  unfold fX2_set fX1_set sBeg sImg
  simp [b2_t, b2_f, up_at, up_up, up_id, up_wr]
theorem sBeg_0 {k : Nat} {v s c m : Int32} {Y : pY} {K i : Nat} (a : K ≠ 2) (b : K ≠ 5) (d : K ≠ 6) : sBeg k v s c m Y K 0 i = Y K 0 i := by
  unfold sBeg sImg
  simp [b2_t, b2_f, up_at, up_up, up_id, wr_rd, sEmp_rd, a, b, d]
theorem rw_beg {k : Nat} (hk : k < 6) {v s c m : Int32} {X : bsX} {Y : pY} {a b d : Int32} :
    bsWr (bsWr (bsWr (bsWr (bsWr (bsWr (bsWr (bsWr (ro X (row (sEmp k Y) a b d)) 14 1 0 20 (nI k)) 14 1 0 21 m) 14 1 0 22 v) 14 1 0 23 s) 14 1 0 24 c) 14 1 0 25 0) 14 1 0 26 0) 14 1 0 27 3 = ro X (row (sBeg k v s c m Y) a b d) := by
  have hne : ¬ nI k = -1 := pu_m1 k (by omega)
  simp only [ro_wr]
  congr 1
  funext i
  have hE : ∀ i, eN (sBeg k v s c m Y) i = if i = 20 then nI k else if i = 21 then m else if i = 22 then v else if i = 23 then s else if i = 24 then c else if i = 25 then 0 else if i = 26 then 0 else if i = 27 then 3 else eN (sEmp k Y) i := by
    intro i
    refine eN_cases (P := fun i => eN (sBeg k v s c m Y) i = if i = 20 then nI k else if i = 21 then m else if i = 22 then v else if i = 23 then s else if i = 24 then c else if i = 25 then 0 else if i = 26 then 0 else if i = 27 then 3 else eN (sEmp k Y) i) (fun q hq => by rw [eN_big hq, eN_big hq]; repeat rw [if_neg (by omega)]) ?_ ?_ ?_ ?_ ?_ ?_ ?_ ?_ ?_ ?_ ?_ ?_ ?_ ?_ ?_ ?_ ?_ ?_ ?_ ?_ ?_ ?_ ?_ ?_ ?_ ?_ ?_ ?_ ?_ i
    all_goals simp [b2_t, b2_f, up_at, up_up, up_id, eN, sBeg, sImg, wr_rd, hne]
  have hL : ∀ r q, eL (sBeg k v s c m Y) r q = eL (sEmp k Y) r q := by
    intro r q
    unfold sBeg sImg
    simp only [eL_wr (show (6 : Nat) ≤ 6 by omega) (show (6 : Nat) ≠ 3 by omega), eL_wr (show (2 : Nat) ≤ 6 by omega) (show (2 : Nat) ≠ 3 by omega)]
  have hS : ∀ k2 w, k2 < 6 → eS (sBeg k v s c m Y) k2 w = eS (sEmp k Y) k2 w := by
    intro k2 w h
    unfold sBeg sImg
    simp only [eS_wr6 h, eS_wr (show (2 : Nat) ≠ 5 ∧ (2 : Nat) ≠ 6 by omega)]
  unfold pt row
  rw [hE i, hL]
  by_cases hi : 20 ≤ i ∧ i < 28
  · have : i = 20 ∨ i = 21 ∨ i = 22 ∨ i = 23 ∨ i = 24 ∨ i = 25 ∨ i = 26 ∨ i = 27 := by omega
    rcases this with rfl | rfl | rfl | rfl | rfl | rfl | rfl | rfl <;> simp [b2_t, b2_f, up_at, up_up, up_id]
  · have h20 : i ≠ 20 := by omega
    have h21 : i ≠ 21 := by omega
    have h22 : i ≠ 22 := by omega
    have h23 : i ≠ 23 := by omega
    have h24 : i ≠ 24 := by omega
    have h25 : i ≠ 25 := by omega
    have h26 : i ≠ 26 := by omega
    have h27 : i ≠ 27 := by omega
    simp only [h20, h21, h22, h23, h24, h25, h26, h27, if_false]
    by_cases d80 : 80 ≤ i ∧ i < 158
    · rw [hS _ _ (by omega)]
    · simp only [d80, if_false]
theorem enc_beg (k : Nat) (v s c m : Int32) (Y : pY) : row (sBeg k v s c m Y) (sSt Y) (Y 0 0 11) (Y 0 0 12) = enc (sBeg k v s c m Y) := by
  unfold enc sSt
  rw [sBeg_0 (by decide) (by decide) (by decide), sBeg_0 (by decide) (by decide) (by decide), sBeg_0 (by decide) (by decide) (by decide)]
theorem wm_beg {Q n t k : Nat} {Y : pY} {v s c m : Int32} (h : wm Q n t Y) (hk : k < n) (hon : Y 0 0 10 ≠ 0) (hr : Y 0 0 11 ≠ nI k) (h1 : rng v 0 99) (h2 : rng s 0 99) (h3 : rng c 0 99) (h4 : rng m 1 99) : wm Q n t (sBeg k v s c m Y) := by
  have h6 := h.hn
  have hk6 : k ≠ 6 := by omega
  have r0 : ∀ K i, K ≠ 2 → K ≠ 5 → K ≠ 6 → sBeg k v s c m Y K 0 i = Y K 0 i := fun K i a b d => sBeg_0 a b d
  have r5 : ∀ q i, sBeg k v s c m Y 5 q i = if q = k ∧ 2 ≤ i ∧ i ≤ 5 then 0 else Y 5 q i := by
    intro q i; unfold sBeg sImg; simp [b2_t, b2_f, up_at, up_up, up_id, wr_rd, sEmp_rd]
  have r6 : ∀ q i, q < 6 → sBeg k v s c m Y 6 q i = if q = k ∧ i ≤ 5 then 0 else Y 6 q i := by
    intro q i hq
    have : ¬ q = 6 := by omega
    unfold sBeg sImg; simp [b2_t, b2_f, up_at, up_up, up_id, wr_rd, sEmp_rd, this]
  have p0 : sBeg k v s c m Y 6 6 0 = 1 := by unfold sBeg sImg; simp [b2_t, b2_f, up_at, up_up, up_id, wr_rd]
  have p1 : sBeg k v s c m Y 6 6 1 = v := by unfold sBeg sImg; simp [b2_t, b2_f, up_at, up_up, up_id, wr_rd]
  have p2 : sBeg k v s c m Y 6 6 2 = s := by unfold sBeg sImg; simp [b2_t, b2_f, up_at, up_up, up_id, wr_rd]
  have p3 : sBeg k v s c m Y 6 6 3 = c := by unfold sBeg sImg; simp [b2_t, b2_f, up_at, up_up, up_id, wr_rd]
  have p4 : sBeg k v s c m Y 6 6 4 = 0 := by unfold sBeg sImg; simp [b2_t, b2_f, up_at, up_up, up_id, wr_rd]
  have p5 : sBeg k v s c m Y 6 6 5 = 0 := by unfold sBeg sImg; simp [b2_t, b2_f, up_at, up_up, up_id, wr_rd]
  have i1 : sBeg k v s c m Y 2 0 1 = nI k := by unfold sBeg sImg; simp [b2_t, b2_f, up_at, up_up, up_id, wr_rd]
  have i2 : sBeg k v s c m Y 2 0 2 = m := by unfold sBeg sImg; simp [b2_t, b2_f, up_at, up_up, up_id, wr_rd]
  have i3 : sBeg k v s c m Y 2 0 3 = 3 := by unfold sBeg sImg; simp [b2_t, b2_f, up_at, up_up, up_id, wr_rd]
  have on1 : Y 0 0 10 = 1 := h.on.resolve_left hon
  have z15 : rng 0 0 15 := rng.z 15
  refine ⟨h.hn, ?_, ?_, ?_, ?_, ?_, ?_, ?_, ?_, ?_, ?_, ?_, ?_, ?_, ?_, ?_⟩
  · rw [r0 0 4 (by decide) (by decide) (by decide)]; exact h.sz
  · intro q hq
    have hs := h.sl q hq
    unfold wS at hs ⊢
    simp only [r5, r6 q _ hq]
    by_cases e : q = k
    · simp [b2_t, b2_f, up_at, up_up, up_id, e, is01, rng.z]
    · simpa [b2_t, b2_f, up_at, up_up, up_id, e] using hs
  · intro q q1 q2
    have e : q ≠ k := by omega
    have := h.hi q q1 q2
    simp only [r5, r6 q _ q2]
    simpa [b2_t, b2_f, up_at, up_up, up_id, e] using this
  · rw [r0 0 10 (by decide) (by decide) (by decide)]; exact h.on
  · rw [r0 0 10 (by decide) (by decide) (by decide), r0 0 11 (by decide) (by decide) (by decide)]
    rcases h.run with e | ⟨r, a1, a2, a3, a4⟩
    · exact Or.inl e
    · right
      have e : r ≠ k := by intro e; subst e; exact hr a2
      refine ⟨r, a1, a2, a3, ?_⟩
      rw [r6 r 0 (by omega), if_neg (by omega)]; exact a4
  · rw [r0 0 5 (by decide) (by decide) (by decide)]; exact h.wat
  · rw [r0 0 6 (by decide) (by decide) (by decide)]; exact h.lim
  · rw [r0 0 7 (by decide) (by decide) (by decide)]; exact h.ret
  · rw [r0 0 8 (by decide) (by decide) (by decide)]; exact h.flo
  · rw [r0 0 9 (by decide) (by decide) (by decide)]; exact h.tim
  · rw [r0 0 12 (by decide) (by decide) (by decide)]; exact h.age
  · rw [r0 3 4 (by decide) (by decide) (by decide)]; exact h.tot
  · rw [p0, p4, p5]; exact ⟨Or.inr rfl, Or.inl rfl, Or.inl rfl⟩
  · right
    refine ⟨k, hk, i1, by rw [i2]; exact h4, i3, p0, by rw [p4]; exact Or.inl rfl, by rw [p5]; exact Or.inl rfl, by rw [p1]; exact h1, by rw [p2]; exact h2, by rw [p3]; exact h3, by rw [r0 0 10 (by decide) (by decide) (by decide)]; exact on1, by rw [r6 k 0 (by omega), if_pos ⟨rfl, by omega⟩], by rw [r0 0 11 (by decide) (by decide) (by decide)]; exact hr⟩
  · intro i hi
    rw [r0 7 i (by decide) (by decide) (by decide), r0 8 i (by decide) (by decide) (by decide), r0 10 i (by decide) (by decide) (by decide)]
    exact h.log i hi
