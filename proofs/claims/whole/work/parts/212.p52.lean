/-! WHAT WOULD BE OTHERWISE -/
theorem sStop_full {Y : pY} {K j i : Nat} : sStop Y K j i = if K = 2 ∧ j = 0 ∧ 1 ≤ i ∧ i ≤ 3 then (if i = 1 then -1 else 0) else if K = 6 ∧ j = 6 ∧ i ≤ 5 then 0 else Y K j i := by
  unfold sStop sImg
  simp only [wr_rd]
  by_cases k2 : K = 2 ∧ j = 0 ∧ 1 ≤ i ∧ i ≤ 3
  · obtain ⟨rfl, rfl, k2⟩ := k2
    have : i = 1 ∨ i = 2 ∨ i = 3 := by omega
    rcases this with rfl | rfl | rfl <;> simp [b2_t, b2_f, up_at, up_up, up_id]
  · by_cases k6 : K = 6 ∧ j = 6 ∧ i ≤ 5
    · obtain ⟨rfl, rfl, k6⟩ := k6
      have : i = 0 ∨ i = 1 ∨ i = 2 ∨ i = 3 ∨ i = 4 ∨ i = 5 := by omega
      rcases this with rfl | rfl | rfl | rfl | rfl | rfl <;> simp [b2_t, b2_f, up_at, up_up, up_id]
    · repeat rw [if_neg (by omega)]
theorem sEmp_sStop {k : Nat} (hk : k < 6) {Y : pY} : sEmp k (sStop Y) = sStop (sEmp k Y) := by
  funext K j i
  simp only [sEmp_rd, sStop_full]
  by_cases e : j = k ∧ ((K = 6 ∧ i ≤ 5) ∨ (K = 5 ∧ 2 ≤ i ∧ i ≤ 5))
  · rw [if_pos e, if_neg (by omega), if_neg (by omega), if_pos e]
  · rw [if_neg e, if_neg e]
theorem sEmp_boot0 {k : Nat} {Y : pY} : sBoot0 (sEmp k Y) = sEmp k (sBoot0 Y) := by
  funext K j i
  unfold sBoot0
  simp only [sEmp_rd, wr_rd]
  by_cases e : j = k ∧ ((K = 6 ∧ i ≤ 5) ∨ (K = 5 ∧ 2 ≤ i ∧ i ≤ 5))
  · rw [if_pos e, if_pos e, if_neg (by omega), if_neg (by omega), if_neg (by omega)]
  · rw [if_neg e, if_neg e]
theorem sBoot0_run (Y : pY) : sBoot0 Y 0 0 11 = -1 := by simp [b2_t, b2_f, up_at, up_up, up_id, sBoot0, wr_rd]
theorem wm_stop {Q n t : Nat} {Y : pY} (h : wm Q n t Y) : wm Q n t (sStop Y) := by
  have e0 : ∀ K j i, K ≠ 2 → K ≠ 6 → sStop Y K j i = Y K j i := fun K j i a b => sStop_rd a (Or.inl b)
  have e6 : ∀ k i, k < 6 → sStop Y 6 k i = Y 6 k i := fun k i hk => sStop_rd (by decide) (Or.inr (by omega))
  have h6 := h.hn
  have hi : sStop Y 2 0 1 = -1 := sStop_ins
  refine ⟨h.hn, ?_, ?_, ?_, ?_, ?_, ?_, ?_, ?_, ?_, ?_, ?_, ?_, sStop_pim, Or.inl hi, ?_⟩
  · rw [e0 _ _ _ (by decide) (by decide)]; exact h.sz
  · intro q hq
    have hs := h.sl q hq
    unfold wS at hs ⊢
    simp only [e0 _ _ _ (show (5 : Nat) ≠ 2 by decide) (show (5 : Nat) ≠ 6 by decide), e6 q _ hq]
    exact hs
  · intro q q1 q2
    have := h.hi q q1 q2
    simp only [e0 _ _ _ (show (5 : Nat) ≠ 2 by decide) (show (5 : Nat) ≠ 6 by decide), e6 q _ q2]
    exact this
  · rw [e0 _ _ _ (by decide) (by decide)]; exact h.on
  · rw [e0 _ _ _ (by decide) (by decide), e0 _ _ _ (by decide) (by decide)]
    rcases h.run with e | ⟨r, a1, a2, a3, b⟩
    · exact Or.inl e
    · exact Or.inr ⟨r, a1, a2, a3, by rw [e6 r 0 (by omega)]; exact b⟩
  · rw [e0 _ _ _ (by decide) (by decide)]; exact h.wat
  · rw [e0 _ _ _ (by decide) (by decide)]; exact h.lim
  · rw [e0 _ _ _ (by decide) (by decide)]; exact h.ret
  · rw [e0 _ _ _ (by decide) (by decide)]; exact h.flo
  · rw [e0 _ _ _ (by decide) (by decide)]; exact h.tim
  · rw [e0 _ _ _ (by decide) (by decide)]; exact h.age
  · rw [e0 _ _ _ (by decide) (by decide)]; exact h.tot
  · intro i hi
    rw [e0 _ _ _ (by decide) (by decide), e0 _ _ _ (by decide) (by decide), e0 _ _ _ (by decide) (by decide)]
    exact h.log i hi
theorem wm_emp {Q n t k : Nat} {Y : pY} (h : wm Q n t Y) (hk : k < 6) (hr : Y 0 0 11 ≠ nI k) : wm Q n t (sEmp k Y) := by
  have e0 : ∀ K j i, K ≠ 5 → K ≠ 6 → sEmp k Y K j i = Y K j i := by intro K j i a b; rw [sEmp_rd, if_neg (by omega)]
  have h6 := h.hn
  have r5 : ∀ q i, sEmp k Y 5 q i = if q = k ∧ 2 ≤ i ∧ i ≤ 5 then 0 else Y 5 q i := by intro q i; simp [b2_t, b2_f, up_at, up_up, up_id, sEmp_rd]
  have r6 : ∀ q i, sEmp k Y 6 q i = if q = k ∧ i ≤ 5 then 0 else Y 6 q i := by intro q i; simp [b2_t, b2_f, up_at, up_up, up_id, sEmp_rd]
  have p6 : ∀ i, sEmp k Y 6 6 i = Y 6 6 i := by intro i; rw [r6, if_neg (by omega)]
  refine ⟨h.hn, ?_, ?_, ?_, ?_, ?_, ?_, ?_, ?_, ?_, ?_, ?_, ?_, ?_, ?_, ?_⟩
  · rw [e0 _ _ _ (by decide) (by decide)]; exact h.sz
  · intro q hq
    have hs := h.sl q hq
    unfold wS at hs ⊢
    simp only [r5, r6]
    by_cases e : q = k
    · simp [b2_t, b2_f, up_at, up_up, up_id, e, is01, rng.z]
    · simpa [b2_t, b2_f, up_at, up_up, up_id, e] using hs
  · intro q q1 q2
    have := h.hi q q1 q2
    simp only [r5, r6]
    by_cases e : q = k
    · subst e; simpa [b2_t, b2_f, up_at, up_up, up_id] using this.2
    · simpa [b2_t, b2_f, up_at, up_up, up_id, e] using this
  · rw [e0 _ _ _ (by decide) (by decide)]; exact h.on
  · rw [e0 _ _ _ (by decide) (by decide), e0 _ _ _ (by decide) (by decide)]
    rcases h.run with e | ⟨r, a1, a2, a3, b⟩
    · exact Or.inl e
    · have e : r ≠ k := by intro e; subst e; exact hr a2
      exact Or.inr ⟨r, a1, a2, a3, by rw [r6, if_neg (by omega)]; exact b⟩
  · rw [e0 _ _ _ (by decide) (by decide)]; exact h.wat
  · rw [e0 _ _ _ (by decide) (by decide)]; exact h.lim
  · rw [e0 _ _ _ (by decide) (by decide)]; exact h.ret
  · rw [e0 _ _ _ (by decide) (by decide)]; exact h.flo
  · rw [e0 _ _ _ (by decide) (by decide)]; exact h.tim
  · rw [e0 _ _ _ (by decide) (by decide)]; exact h.age
  · rw [e0 _ _ _ (by decide) (by decide)]; exact h.tot
  · rw [p6, p6, p6]; exact h.pim
  · simp only [e0 _ _ _ (show (2 : Nat) ≠ 5 by decide) (show (2 : Nat) ≠ 6 by decide), e0 _ _ _ (show (0 : Nat) ≠ 5 by decide) (show (0 : Nat) ≠ 6 by decide), p6]
    rcases h.ins with e | ⟨z, z1, z2, z3, z4, z5, z6, z7, z8, z9, z10, z11, z12, z13⟩
    · exact Or.inl e
    · refine Or.inr ⟨z, z1, z2, z3, z4, z5, z6, z7, z8, z9, z10, z11, ?_, z13⟩
      rw [r6]
      by_cases q : z = k ∧ 0 ≤ 5
      · rw [if_pos q]
      · rw [if_neg q]; exact z12
  · intro i hi
    rw [e0 _ _ _ (by decide) (by decide), e0 _ _ _ (by decide) (by decide), e0 _ _ _ (by decide) (by decide)]
    exact h.log i hi
theorem wm_empB {Q n t k : Nat} {Y : pY} (h : wm Q n t Y) (hk : k < 6) : wm Q n t (sBoot0 (sEmp k Y)) := by
  rw [sEmp_boot0]
  exact wm_emp (wm_boot0 h) hk (by rw [sBoot0_run]; exact fun q => pu_m1 k (by omega) q.symm)
theorem settle_try {Q n t : Nat} {Y : pY} (h0 : wm Q n t (sBoot0 Y)) (hQ : Q ≤ 30000) (ht : t ≤ 9999) :
    ∃ x, (∀ X : bsX, ∃ Z, fX8_bootAndSettle (up X 1 Y) = some (x, up X 1 Z)) ∧ (∀ (B : bsX) (a b c : Int32), ∃ Z, fX9_settles (ro B (row Y a b c)) = some (x, ro B (enc Z))) := by
  have hb := wm_boots (c := 1) h0 ⟨1, by omega, by omega, rfl⟩ (by omega)
  have hs := ticks_settle 300 (Q + 1) t (sBoots 1 Y).2 (by omega) (by omega) hb
  refine ⟨(sSettle 300 (sBoots 1 Y).2) 0 0 11, fun X => ⟨sSettle 300 (sBoots 1 Y).2, ?_⟩, fun B a b c => ⟨sTicks 300 (sBoots 1 Y).2, ?_⟩⟩
  · have k1 := qX3_bootBy (g := 1) (c := 1) (X := up X 1 Y) (Q := Q) (n := n) (t := t) (by omega) (by rw [up_at]; exact h0)
    rw [up_at, up_up] at k1
    obtain ⟨s1, _⟩ := qX3_settle (g := 1) (m := 300) (Q := Q + 1) (n := n) (t := t) (X := up X 1 (sBoots 1 Y).2) (by omega) (by omega) (by rw [up_at]; exact hb)
    rw [up_at, up_up] at s1
    unfold fX8_bootAndSettle
    rw [k1]
    simp only [Option.bind_some]
    rw [show (300 : Int32) = nI 300 from rfl, s1]
    simp only [Option.bind_some, up_at]
  · have k2 := q9_boots (cs := 1) (X := B) (Q := Q) (n := n) (t := t) (a := a) (b := b) (c := c) (by omega) h0
    have k3 := q9_ticksAll (X := B) (m := 300) (by omega) (Q := Q + 1) (by omega) hb
    unfold fX9_settles
    rw [k2]
    simp only [Option.bind_some]
    rw [show (300 : Int32) = nI 300 from rfl, k3]
    simp only [Option.bind_some, bi_7, bx_7, if_true, ro_rd]
    rw [enc_7, hs 0 0 11 (by decide) (by decide)]
theorem sim_settlesWithout_ok : sim_settlesWithout Inv := by
  intro j X a hj h
  have n10 : ¬ (1 : Nat) = 0 := by decide
  have n20 : ¬ (2 : Nat) = 0 := by decide
  have c10 : ¬ (1 : Int32) = 0 := by decide
  rcases h.slot a with ⟨e1, e2⟩ | ⟨e1, e2⟩ | ⟨k, n, t, Q, e1, e2, rfl, hkn, hk6, hw, hR, ht, hQ⟩
  · refine ⟨(1, 0, X), (0, th X 1), by unfold fX8_settlesWithout; rw [e1]; rfl, Or.inr (Or.inl rfl), by unfold fX9_settlesWithout; rw [e2]; simp only [Option.bind_some, c10, if_false], th_rd X 1, fun q => absurd (show (1 : Nat) = 0 from q) n10, ((quiet.refl X).thr 1).inv h⟩
  · refine ⟨(2, 0, X), (0, th X 2), by unfold fX8_settlesWithout; rw [e1]; rfl, Or.inr (Or.inr rfl), by unfold fX9_settlesWithout; rw [e2]; simp only [Option.bind_some, c10, if_false], th_rd X 2, fun q => absurd (show (2 : Nat) = 0 from q) n20, ((quiet.refl X).thr 2).inv h⟩
  · obtain ⟨Y, c1, c2, c3, c4, c5, c6⟩ := Inv.copy (J := j) (by omega) hw ht hQ hR
    have hl := h.one e1
    have hT : wm Q n t (sBoot0 (sStop (sEmp k Y))) := by rw [← sEmp_sStop hk6]; exact wm_empB (wm_stop c2) hk6
    obtain ⟨x, s1, s2⟩ := settle_try hT c5 c6
    obtain ⟨Z, s1⟩ := s1 X
    have hns := ns_ok (W := up X 1 Z) (n := n) (k := k) (by rw [up_ne _ _ (by decide)]; exact hl) (by rw [up_ne _ _ (by decide), hR]; exact hw.sz) hkn hw.hn
    refine ⟨(0, x, up X 1 Z), (x, lk (th (up X 1 Z) 0) Y), ?_, Or.inl rfl, ?_, lk_th (up X 1 Z) 0 Y, fun _ => rfl, (quiet_lk c3).inv h⟩
    · unfold fX8_settlesWithout; rw [e1]
      simp only [Option.bind_some, if_true, c1, qX2_stop, up_at, up_up, pu_inT hk6 (by decide), pu_ix6 hk6, qX5_empty, sEmp_sStop hk6, s1]
    · obtain ⟨Z2, s2⟩ := s2 (ar (th (up X 1 Z) 0) 2 (stK ((th (up X 1 Z) 0) 14 2 0) (enc Y) 10)) (sSt Y) (Y 0 0 11) (Y 0 0 12)
      have e3 : fX9_empties (nI k) (lk (th (up X 1 Z) 0) Y) = some (ro (ar (th (up X 1 Z) 0) 2 (stK ((th (up X 1 Z) 0) 14 2 0) (enc Y) 10)) (row (sEmp k Y) (sSt Y) (Y 0 0 11) (Y 0 0 12))) := q9_empties hk6
      unfold fX9_settlesWithout; rw [hns]
      simp only [Option.bind_some, if_true, lay_lk (wt c3)]
      rw [e3]
      simp only [Option.bind_some, q9_noInst, s2]
      rw [back_lk (enc_160 Z2)]
      rfl
