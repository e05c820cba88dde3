/-! WELL-FORMED MACHINES -/
def rng (x : Int32) (a b : Nat) : Prop := ∃ k, a ≤ k ∧ k ≤ b ∧ x = nI k
theorem rng.le {x : Int32} {a b c d : Nat} (h : rng x a b) (h1 : c ≤ a) (h2 : b ≤ d) : rng x c d := by
  obtain ⟨k, h3, h4, h5⟩ := h; exact ⟨k, by omega, by omega, h5⟩
theorem rng.z (b : Nat) : rng 0 0 b := ⟨0, by omega, by omega, rfl⟩
def wS (Y : pY) (k : Nat) : Prop :=
  is01 (Y 6 k 0) ∧ is01 (Y 6 k 4) ∧ is01 (Y 6 k 5) ∧ is01 (Y 5 k 4) ∧ rng (Y 5 k 2) 0 15 ∧ rng (Y 5 k 3) 0 7 ∧ rng (Y 6 k 1) 0 99 ∧ rng (Y 6 k 2) 0 99 ∧ rng (Y 6 k 3) 0 99 ∧
  (Y 6 k 0 = 0 → Y 5 k 2 = 0 ∧ Y 5 k 3 = 0 ∧ Y 5 k 4 = 0 ∧ Y 5 k 5 = 0 ∧ Y 6 k 1 = 0 ∧ Y 6 k 2 = 0 ∧ Y 6 k 3 = 0 ∧ Y 6 k 4 = 0 ∧ Y 6 k 5 = 0)
def wm (Q n t : Nat) (Y : pY) : Prop :=
  (n ≤ 6) ∧
  (Y 0 0 4 = nI n) ∧
  (∀ k, k < 6 → wS Y k) ∧
  (∀ k, n ≤ k → k < 6 → Y 6 k 0 = 0 ∧ Y 5 k 6 = 0 ∧ Y 5 k 7 = 0 ∧ Y 5 k 8 = 0) ∧
  (is01 (Y 0 0 10)) ∧
  (Y 0 0 11 = -1 ∨ ∃ r, r < n ∧ Y 0 0 11 = nI r ∧ Y 0 0 10 = 1 ∧ Y 6 r 0 ≠ 0) ∧
  (rng (Y 0 0 5) 1 99) ∧
  (rng (Y 0 0 6) 1 9) ∧
  (rng (Y 0 0 7) 0 7) ∧
  (rng (Y 0 0 8) 0 99) ∧
  (Y 0 0 9 = nI t) ∧
  (rng (Y 0 0 12) 0 t) ∧
  (rng (Y 3 0 4) 0 Q) ∧
  (is01 (Y 6 6 0) ∧ is01 (Y 6 6 4) ∧ is01 (Y 6 6 5)) ∧
  (Y 2 0 1 = -1 ∨ ∃ z, z < n ∧ Y 2 0 1 = nI z ∧ rng (Y 2 0 2) 1 99 ∧ Y 2 0 3 = 3 ∧ Y 6 6 0 = 1 ∧ is01 (Y 6 6 4) ∧ is01 (Y 6 6 5) ∧ rng (Y 6 6 1) 0 99 ∧ rng (Y 6 6 2) 0 99 ∧ rng (Y 6 6 3) 0 99 ∧ Y 0 0 10 = 1 ∧ Y 6 z 0 = 0 ∧ Y 0 0 11 ≠ nI z) ∧
  (∀ i, i < 12 → rng (Y 7 0 i) 0 t ∧ rng (Y 8 0 i) 0 4 ∧ (Y 10 0 i = -1 ∨ rng (Y 10 0 i) 0 5))
theorem wm.hn {Q n t : Nat} {Y : pY} (h : wm Q n t Y) : n ≤ 6 := h.1
theorem wm.sz {Q n t : Nat} {Y : pY} (h : wm Q n t Y) : Y 0 0 4 = nI n := h.2.1
theorem wm.sl {Q n t : Nat} {Y : pY} (h : wm Q n t Y) : ∀ k, k < 6 → wS Y k := h.2.2.1
theorem wm.hi {Q n t : Nat} {Y : pY} (h : wm Q n t Y) : ∀ k, n ≤ k → k < 6 → Y 6 k 0 = 0 ∧ Y 5 k 6 = 0 ∧ Y 5 k 7 = 0 ∧ Y 5 k 8 = 0 := h.2.2.2.1
theorem wm.on {Q n t : Nat} {Y : pY} (h : wm Q n t Y) : is01 (Y 0 0 10) := h.2.2.2.2.1
theorem wm.run {Q n t : Nat} {Y : pY} (h : wm Q n t Y) : Y 0 0 11 = -1 ∨ ∃ r, r < n ∧ Y 0 0 11 = nI r ∧ Y 0 0 10 = 1 ∧ Y 6 r 0 ≠ 0 := h.2.2.2.2.2.1
theorem wm.wat {Q n t : Nat} {Y : pY} (h : wm Q n t Y) : rng (Y 0 0 5) 1 99 := h.2.2.2.2.2.2.1
theorem wm.lim {Q n t : Nat} {Y : pY} (h : wm Q n t Y) : rng (Y 0 0 6) 1 9 := h.2.2.2.2.2.2.2.1
theorem wm.ret {Q n t : Nat} {Y : pY} (h : wm Q n t Y) : rng (Y 0 0 7) 0 7 := h.2.2.2.2.2.2.2.2.1
theorem wm.flo {Q n t : Nat} {Y : pY} (h : wm Q n t Y) : rng (Y 0 0 8) 0 99 := h.2.2.2.2.2.2.2.2.2.1
theorem wm.tim {Q n t : Nat} {Y : pY} (h : wm Q n t Y) : Y 0 0 9 = nI t := h.2.2.2.2.2.2.2.2.2.2.1
theorem wm.age {Q n t : Nat} {Y : pY} (h : wm Q n t Y) : rng (Y 0 0 12) 0 t := h.2.2.2.2.2.2.2.2.2.2.2.1
theorem wm.tot {Q n t : Nat} {Y : pY} (h : wm Q n t Y) : rng (Y 3 0 4) 0 Q := h.2.2.2.2.2.2.2.2.2.2.2.2.1
theorem wm.pim {Q n t : Nat} {Y : pY} (h : wm Q n t Y) : is01 (Y 6 6 0) ∧ is01 (Y 6 6 4) ∧ is01 (Y 6 6 5) := h.2.2.2.2.2.2.2.2.2.2.2.2.2.1
theorem wm.ins {Q n t : Nat} {Y : pY} (h : wm Q n t Y) : Y 2 0 1 = -1 ∨ ∃ z, z < n ∧ Y 2 0 1 = nI z ∧ rng (Y 2 0 2) 1 99 ∧ Y 2 0 3 = 3 ∧ Y 6 6 0 = 1 ∧ is01 (Y 6 6 4) ∧ is01 (Y 6 6 5) ∧ rng (Y 6 6 1) 0 99 ∧ rng (Y 6 6 2) 0 99 ∧ rng (Y 6 6 3) 0 99 ∧ Y 0 0 10 = 1 ∧ Y 6 z 0 = 0 ∧ Y 0 0 11 ≠ nI z := h.2.2.2.2.2.2.2.2.2.2.2.2.2.2.1
theorem wm.log {Q n t : Nat} {Y : pY} (h : wm Q n t Y) : ∀ i, i < 12 → rng (Y 7 0 i) 0 t ∧ rng (Y 8 0 i) 0 4 ∧ (Y 10 0 i = -1 ∨ rng (Y 10 0 i) 0 5) := h.2.2.2.2.2.2.2.2.2.2.2.2.2.2.2
theorem wm.s01 {Q n t : Nat} {Y : pY} (h : wm Q n t Y) : slot01 Y := fun k hk => (h.sl k hk).2.2.2.1
theorem wm.up {Q Q' n t : Nat} {Y : pY} (h : wm Q n t Y) (hQ : Q ≤ Q') : wm Q' n t Y := ⟨h.hn, h.sz, h.sl, h.hi, h.on, h.run, h.wat, h.lim, h.ret, h.flo, h.tim, h.age, h.tot.le (Nat.le_refl _) hQ, h.pim, h.ins, h.log⟩
theorem rng_dec {x : Int32} {b : Nat} (hb : b < 1000000) (h : rng x 0 b) (h1 : 0 < x) : rng (x - 1) 0 b := by
  obtain ⟨k, h3, h4, rfl⟩ := h
  have : 0 < k := by
    rw [show (0 : Int32) = nI 0 from rfl, pu_lt _ _ (by omega) (by omega)] at h1; exact h1
  exact ⟨k - 1, by omega, by omega, by rw [← pu_sub _ _ this]; rfl⟩
theorem boot_has {f : Int32} {Y : pY} {k : Nat} (h : sBootF f Y k = true) : Y 6 k 0 ≠ 0 ∧ Y 6 k 4 = 0 ∧ 0 < Y 5 k 2 ∧ (Y 5 k 4 ≠ 0 ∨ 0 < Y 5 k 3) := by
  unfold sBootF at h; simp [b2_t, b2_f, up_at, up_up, up_id] at h; grind
/-- an equation of contents that leaves all but one slot and numbers alone -/
theorem wm_try {Q n t k : Nat} {Y : pY} (h : wm Q n t Y) (hk : k < 6) (hb : sBoot Y k = true) : wm Q n t (sTry Y k).2 := by
  obtain ⟨b1, b2, b3, b4⟩ := boot_has hb
  have hkn : k < n := by
    rcases Nat.lt_or_ge k n with q | q
    · exact q
    · exact absurd (h.hi k q hk).1 b1
  have hs := h.sl k hk
  have hdec : Y 5 k 4 = 0 → rng (Y 5 k 3 - 1) 0 7 := fun q => rng_dec (by decide) hs.2.2.2.2.2.1 (by rcases b4 with b | b; exact absurd q b; exact b)
  unfold sTry sTry1
  by_cases h1 : Y 6 k 5 = 0 <;> by_cases h2 : Y 5 k 4 = 0 <;> simp only [h1, h2, if_true, if_false]
  all_goals
    refine ⟨h.hn, by simpa [b2_t, b2_f, up_at, up_up, up_id, wr_rd] using h.sz, ?_, ?_, by simpa [b2_t, b2_f, up_at, up_up, up_id, wr_rd] using h.on, by simpa [b2_t, b2_f, up_at, up_up, up_id, wr_rd] using h.run, by simpa [b2_t, b2_f, up_at, up_up, up_id, wr_rd] using h.wat, by simpa [b2_t, b2_f, up_at, up_up, up_id, wr_rd] using h.lim, by simpa [b2_t, b2_f, up_at, up_up, up_id, wr_rd] using h.ret, by simpa [b2_t, b2_f, up_at, up_up, up_id, wr_rd] using h.flo, by simpa [b2_t, b2_f, up_at, up_up, up_id, wr_rd] using h.tim, by simpa [b2_t, b2_f, up_at, up_up, up_id, wr_rd] using h.age, by simpa [b2_t, b2_f, up_at, up_up, up_id, wr_rd] using h.tot, by simpa [b2_t, b2_f, up_at, up_up, up_id, wr_rd] using h.pim, by simpa [b2_t, b2_f, up_at, up_up, up_id, wr_rd] using h.ins, by simpa [b2_t, b2_f, up_at, up_up, up_id, wr_rd] using h.log⟩
    · intro q hq
      by_cases e : q = k
      · subst e
        have := rng.z 15
        simp_all [wS, wr_rd, is01]
      · have := h.sl q hq
        simpa [b2_t, b2_f, up_at, up_up, up_id, wS, wr_rd, e] using this
    · intro q h3 h4
      have e : q ≠ k := by omega
      have := h.hi q h3 h4
      simpa [b2_t, b2_f, up_at, up_up, up_id, wr_rd, e] using this
