theorem rng_max {x y : Int32} {b : Nat} (hb : b < 1000000) (h1 : rng x 0 b) (h2 : rng y 0 b) : rng (bsMax x y) 0 b := by
  unfold bsMax; split
  · exact h2
  · exact h1
theorem rng_min {x y : Int32} {b : Nat} (hb : b < 1000000) (h1 : rng x 0 b) (h2 : rng y 0 b) : rng (bsMin x y) 0 b := by
  unfold bsMin; split
  · exact h2
  · exact h1
theorem rng_floorBy {Y : pY} {a : Int32} (hf : rng (Y 0 0 8) 0 99) (hs : ∀ k, k < 6 → rng (Y 6 k 1) 0 99) : rng (sFloorBy a Y) 0 99 := by
  have h : rng (itF (sFbg a Y) 6 0 ((99 : Int32), (0 : Int32))).1 0 99 := by
    refine itF_ind (N := 6) (f := sFbg a Y) (fun b => rng b.1 0 99) ?_ 6 0 _ rfl ⟨99, by omega, by omega, rfl⟩
    intro k b hk hb
    unfold sFbg
    split
    · exact rng_min (by decide) hb (hs k hk)
    · exact hb
  unfold sFloorBy
  dsimp only
  split
  · exact hf
  · exact rng_max (by decide) hf h
/-- an easy way to well-formedness: what is left alone -/
theorem wm.of {Q n t Q' t' : Nat} {Y Z : pY} (h : wm Q n t Y)
    (e0 : Z 0 0 4 = Y 0 0 4 ∧ Z 0 0 10 = Y 0 0 10 ∧ Z 0 0 11 = Y 0 0 11 ∧ Z 0 0 5 = Y 0 0 5 ∧ Z 0 0 6 = Y 0 0 6 ∧ Z 0 0 7 = Y 0 0 7)
    (e1 : rng (Z 0 0 8) 0 99) (e2 : Z 0 0 9 = nI t') (e3 : rng (Z 0 0 12) 0 t') (e4 : rng (Z 3 0 4) 0 Q')
    (e5 : Z 2 0 1 = Y 2 0 1 ∧ Z 2 0 2 = Y 2 0 2 ∧ Z 2 0 3 = Y 2 0 3 ∧ ∀ i, Z 6 6 i = Y 6 6 i)
    (e6 : ∀ k, k < 6 → wS Z k) (e7 : ∀ k, k < 6 → Z 6 k 0 = Y 6 k 0) (e8 : ∀ k, n ≤ k → k < 6 → Z 5 k 6 = 0 ∧ Z 5 k 7 = 0 ∧ Z 5 k 8 = 0)
    (e9 : ∀ i, i < 12 → Z 7 0 i = Y 7 0 i ∧ Z 8 0 i = Y 8 0 i ∧ Z 10 0 i = Y 10 0 i) (et : t ≤ t') : wm Q' n t' Z := by
  obtain ⟨a1, a2, a3, a4, a5, a6⟩ := e0
  obtain ⟨c1, c2, c3, c4⟩ := e5
  have h6 := h.hn
  refine ⟨h.hn, by rw [a1]; exact h.sz, e6, fun k h1 h2 => ⟨by rw [e7 k h2]; exact (h.hi k h1 h2).1, e8 k h1 h2⟩, by rw [a2]; exact h.on, ?_, by rw [a4]; exact h.wat, by rw [a5]; exact h.lim, by rw [a6]; exact h.ret, e1, e2, e3, e4, by rw [c4, c4, c4]; exact h.pim, ?_, ?_⟩
  · rw [a2, a3]
    rcases h.run with hr | ⟨z, hz, hr⟩
    · left; exact hr
    · right; exact ⟨z, hz, by rw [e7 z (by omega)]; exact hr⟩
  · rw [c1, c2, c3, c4, c4, c4, c4, c4, c4, a2, a3]
    rcases h.ins with hi | ⟨z, hz, hi⟩
    · left; exact hi
    · right; exact ⟨z, hz, by rw [e7 z (by omega)]; exact hi⟩
  · intro i hi
    obtain ⟨b1, b2, b3⟩ := e9 i hi
    rw [b1, b2, b3]
    have := h.log i hi
    exact ⟨this.1.le (Nat.le_refl _) et, this.2⟩
theorem wm_crash {Q n t k : Nat} {Y : pY} (h : wm Q n t Y) (hk : k < n) (hp : Y 5 k 4 ≠ 0 → Y 6 k 0 ≠ 0) (hp2 : Y 6 k 0 ≠ 0) : wm Q n t (sCrash k Y) := by
  have h6 := h.hn
  unfold sCrash
  refine h.of (by split <;> simp [b2_t, b2_f, up_at, up_up, up_id, wr_rd]) (by split <;> simpa [b2_t, b2_f, up_at, up_up, up_id, wr_rd] using h.flo) (by split <;> simpa [b2_t, b2_f, up_at, up_up, up_id, wr_rd] using h.tim) (by split <;> simpa [b2_t, b2_f, up_at, up_up, up_id, wr_rd] using h.age) (by split <;> simpa [b2_t, b2_f, up_at, up_up, up_id, wr_rd] using h.tot) (by split <;> simp [b2_t, b2_f, up_at, up_up, up_id, wr_rd] <;> intros <;> omega) ?_ (by intro q hq; split <;> simp [b2_t, b2_f, up_at, up_up, up_id, wr_rd]) ?_ (by intro i hi; split <;> simp [b2_t, b2_f, up_at, up_up, up_id, wr_rd]) (Nat.le_refl _)
  · intro q hq
    have hs := h.sl q hq
    have hr := h.ret
    split <;> by_cases e : q = k
    · subst e; simp_all [wS, wr_rd, is01]
    · simpa [b2_t, b2_f, up_at, up_up, up_id, wS, wr_rd, e] using hs
    · subst e; simp_all [wS, wr_rd, is01]
    · simpa [b2_t, b2_f, up_at, up_up, up_id, wS, wr_rd, e] using hs
  · intro q h1 h2
    have e : q ≠ k := by omega
    have := (h.hi q h1 h2).2
    split <;> simpa [b2_t, b2_f, up_at, up_up, up_id, wr_rd, e] using this
theorem wm_succ {Q n t k : Nat} {Y : pY} (h : wm Q n t Y) (hk : k < n) (hp2 : Y 6 k 0 ≠ 0) : wm Q n t (sSucc k Y) := by
  have h6 := h.hn
  have hv : ∀ q, sSucc1 k Y 6 q 1 = Y 6 q 1 := by intro q; unfold sSucc1; by_cases e : Y 5 k 4 = 0 <;> simp [b2_t, b2_f, up_at, up_up, up_id, wr_rd, e]
  have hf : sSucc1 k Y 0 0 8 = Y 0 0 8 := by unfold sSucc1; by_cases e : Y 5 k 4 = 0 <;> simp [b2_t, b2_f, up_at, up_up, up_id, wr_rd, e]
  have hfl : rng (sFloorBy (-1) (sSucc1 k Y)) 0 99 := rng_floorBy (by rw [hf]; exact h.flo) (fun q hq => by rw [hv]; exact (h.sl q hq).2.2.2.2.2.2.1)
  unfold sSucc
  refine h.of ?_ (by simpa [b2_t, b2_f, up_at, up_up, up_id, wr_rd] using hfl) ?_ ?_ ?_ ?_ ?_ ?_ ?_ ?_ (Nat.le_refl _)
  · unfold sSucc1; by_cases e : Y 5 k 4 = 0 <;> simp [b2_t, b2_f, up_at, up_up, up_id, wr_rd, e]
  · unfold sSucc1; by_cases e : Y 5 k 4 = 0 <;> simpa [b2_t, b2_f, up_at, up_up, up_id, wr_rd, e] using h.tim
  · unfold sSucc1; by_cases e : Y 5 k 4 = 0 <;> simpa [b2_t, b2_f, up_at, up_up, up_id, wr_rd, e] using h.age
  · unfold sSucc1; by_cases e : Y 5 k 4 = 0 <;> simpa [b2_t, b2_f, up_at, up_up, up_id, wr_rd, e] using h.tot
  · unfold sSucc1; by_cases e : Y 5 k 4 = 0 <;> simp [b2_t, b2_f, up_at, up_up, up_id, wr_rd, e]
  · intro q hq
    have hs := h.sl q hq
    have hr := rng.z 7
    unfold sSucc1
    by_cases e0 : Y 5 k 4 = 0 <;> by_cases e : q = k
    · subst e; simp_all [wS, wr_rd, is01]
    · simpa [b2_t, b2_f, up_at, up_up, up_id, wS, wr_rd, e, e0] using hs
    · subst e; simp_all [wS, wr_rd, is01]
    · simpa [b2_t, b2_f, up_at, up_up, up_id, wS, wr_rd, e, e0] using hs
  · intro q hq; unfold sSucc1; by_cases e : Y 5 k 4 = 0 <;> simp [b2_t, b2_f, up_at, up_up, up_id, wr_rd, e]
  · intro q h1 h2
    have e : q ≠ k := by omega
    have := (h.hi q h1 h2).2
    unfold sSucc1; by_cases e0 : Y 5 k 4 = 0 <;> simpa [b2_t, b2_f, up_at, up_up, up_id, wr_rd, e, e0] using this
  · intro i hi; unfold sSucc1; by_cases e : Y 5 k 4 = 0 <;> simp [b2_t, b2_f, up_at, up_up, up_id, wr_rd, e]
