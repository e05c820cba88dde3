/-! SETTLED: further ticks change the time, the age and the ticks in rescue alone -/
def sim (Y Z : pY) : Prop := ∀ K j i, ¬ (K = 0 ∧ j = 0 ∧ (i = 9 ∨ i = 12)) → ¬ (K = 4 ∧ j = 0 ∧ i = 5) → Y K j i = Z K j i
theorem sim.refl (Y : pY) : sim Y Y := fun _ _ _ _ _ => rfl
theorem sim.trans {X Y Z : pY} (h : sim X Y) (g : sim Y Z) : sim X Z := fun K j i a b => (h K j i a b).trans (g K j i a b)
theorem sim.symm {Y Z : pY} (h : sim Y Z) : sim Z Y := fun K j i a b => (h K j i a b).symm
theorem sTick1_sim (Y : pY) : sim (sTick1 Y) Y := by
  intro K j i h1 h2
  unfold sTick1
  split <;> simp only [wr_rd] <;> grind
theorem settled_tick {Q n t : Nat} {Y : pY} (h : wm Q n t Y) (ht : t < 1000000) (hs : sSet Y = true) : sim (sTick Y) Y ∧ sSet (sTick Y) = true := by
  have h1 := wm_tick1 h
  have hS := sTick1_sim Y
  have e10 : sTick1 Y 0 0 10 = Y 0 0 10 := hS 0 0 10 (by decide) (by decide)
  have e11 : sTick1 Y 0 0 11 = Y 0 0 11 := hS 0 0 11 (by decide) (by decide)
  have e5 : sTick1 Y 0 0 5 = Y 0 0 5 := hS 0 0 5 (by decide) (by decide)
  have e21 : sTick1 Y 2 0 1 = Y 2 0 1 := hS 2 0 1 (by decide) (by decide)
  have e6 : ∀ j i, sTick1 Y 6 j i = Y 6 j i := fun j i => hS 6 j i (by omega) (by omega)
  have erun : sRun (sTick1 Y) = sRun Y := by unfold sRun; rw [e11]
  unfold sSet at hs
  have htgt : Y 2 0 1 < 0 := by
    by_cases q : Y 2 0 1 < 0
    · exact q
    · rw [if_neg q] at hs; cases hs
  rw [if_pos htgt] at hs
  have hid : ∀ Z : pY, Z 2 0 1 = Y 2 0 1 → sTick2 Z = Z := by
    intro Z hZ
    unfold sTick2
    split
    · rfl
    · rw [hZ, if_pos htgt]
  rcases h.hrun with ⟨e, er⟩ | ⟨r, hr, e, er, hon, hp⟩
  · have e1 : sTickR (sTick1 Y) = sTick1 Y := by unfold sTickR; rw [erun, er]
    have e2 : sTick Y = sTick1 Y := by unfold sTick; rw [e1, hid _ e21]
    rw [e2]
    refine ⟨hS, ?_⟩
    unfold sSet
    rw [e21, if_pos htgt, erun, er]
  · rw [er] at hs
    have h6 := h.hn
    have hr6 : r < 6 := by omega
    obtain ⟨a, _, a2, a3⟩ := h.age
    have hsl := h.sl r hr6
    have key : ∀ x, rng x 0 99 → ¬ nI a < x → ¬ nI a + 1 = x ∧ ¬ nI (a + 1) < x := by
      intro x hx hn
      obtain ⟨m, _, m2, rfl⟩ := hx
      have : ¬ a < m := fun q => hn ((pu_lt a m (by omega) (by omega)).mpr q)
      refine ⟨fun q => ?_, fun q => ?_⟩
      · rw [pu_succ] at q
        have := (pu_eq (a + 1) m (by omega) (by omega)).mp q; omega
      · have := (pu_lt (a + 1) m (by omega) (by omega)).mp q; omega
    simp only [Bool.and_eq_true, Bool.not_eq_true', decide_eq_false_iff_not, a3] at hs
    have k1 := key _ hsl.2.2.2.2.2.2.2.2.1 hs.1.1
    have k2 := key _ hsl.2.2.2.2.2.2.2.1 hs.1.2
    have k3 := key _ (h.wat.le (Nat.zero_le _) (Nat.le_refl _)) hs.2
    have e12 : sTick1 Y 0 0 12 = nI a := by rw [sTick1_age, a3]
    have eo : sOlder r (sTick1 Y) = (-1, wr (sTick1 Y) 0 0 12 (nI a + 1)) := by
      unfold sOlder
      dsimp only
      rw [e12, e6, e6, e5, if_neg k1.1, if_neg k2.1, if_neg (fun q => k3.1 q.1)]
    have e1 : sTickR (sTick1 Y) = wr (sTick1 Y) 0 0 12 (nI a + 1) := by
      unfold sTickR; rw [erun, er]; dsimp only; rw [eo, if_pos rfl]
    have e2 : sTick Y = wr (sTick1 Y) 0 0 12 (nI a + 1) := by
      unfold sTick; rw [e1, hid _ (by rw [wr_rd, if_neg (by decide)]; exact e21)]
    rw [e2]
    refine ⟨fun K j i g1 g2 => ?_, ?_⟩
    · rw [wr_rd, if_neg (fun q => g1 ⟨q.1, q.2.1, Or.inr q.2.2⟩)]
      exact hS K j i g1 g2
    · unfold sSet
      have er2 : sRun (wr (sTick1 Y) 0 0 12 (nI a + 1)) = some r := by
        have w0 : wr (sTick1 Y) 0 0 12 (nI a + 1) 0 0 11 = sTick1 Y 0 0 11 := by rw [wr_rd, if_neg (by decide)]
        rw [← er, ← erun]; unfold sRun; rw [w0]
      have w1 : wr (sTick1 Y) 0 0 12 (nI a + 1) 2 0 1 = Y 2 0 1 := by rw [wr_rd, if_neg (by decide)]; exact e21
      have w2 : wr (sTick1 Y) 0 0 12 (nI a + 1) 0 0 12 = nI (a + 1) := by rw [wr_rd, if_pos ⟨rfl, rfl, rfl⟩, pu_succ]
      have w3 : ∀ i, wr (sTick1 Y) 0 0 12 (nI a + 1) 6 r i = Y 6 r i := by intro i; rw [wr_rd, if_neg (by omega)]; exact e6 r i
      have w4 : wr (sTick1 Y) 0 0 12 (nI a + 1) 0 0 5 = Y 0 0 5 := by rw [wr_rd, if_neg (by decide)]; exact e5
      rw [w1, if_pos htgt, er2]
      dsimp only
      rw [w2, w3, w3, w4]
      simp [b2_t, b2_f, up_at, up_up, up_id, k1.2, k2.2, k3.2]
def sTicks : Nat → pY → pY
  | 0, Y => Y
  | d + 1, Y => sTicks d (sTick Y)
theorem wm_ticks {n : Nat} : ∀ (d Q t : Nat) (Y : pY), Q + 2 * d < 1000000 → wm Q n t Y → wm (Q + 2 * d) n (t + d) (sTicks d Y) := by
  intro d
  induction d with
  | zero => intro Q t Y _ h; exact h
  | succ d ih =>
    intro Q t Y hQ h
    have h1 := (qX3_tick (g := 0) (X := fun _ => Y) (by omega) h).2
    have := ih (Q + 2) (t + 1) (sTick Y) (by omega) h1
    have e1 : Q + 2 + 2 * d = Q + 2 * (d + 1) := by omega
    have e2 : t + 1 + d = t + (d + 1) := by omega
    rw [e1, e2] at this
    exact this
theorem settled_ticks {n : Nat} : ∀ (d Q t : Nat) (Y : pY), Q + 2 * d < 1000000 → t + d < 1000000 → wm Q n t Y → sSet Y = true → sim (sTicks d Y) Y := by
  intro d
  induction d with
  | zero => intro Q t Y _ _ _ _; exact sim.refl Y
  | succ d ih =>
    intro Q t Y hQ ht h hs
    have h1 := (qX3_tick (g := 0) (X := fun _ => Y) (by omega) h).2
    have h2 := settled_tick h (by omega) hs
    exact (ih (Q + 2) (t + 1) (sTick Y) (by omega) (by omega) h1 h2.2).trans h2.1
theorem ticks_settle {n : Nat} : ∀ (d Q t : Nat) (Y : pY), Q + 2 * d < 1000000 → t + d < 1000000 → wm Q n t Y → sim (sTicks d Y) (sSettle d Y) := by
  intro d
  induction d with
  | zero => intro Q t Y _ _ _; exact sim.refl Y
  | succ d ih =>
    intro Q t Y hQ ht h
    unfold sSettle
    by_cases hs : sSet Y = true
    · rw [if_pos hs]
      exact settled_ticks (d + 1) Q t Y hQ ht h hs
    · rw [if_neg hs]
      have h1 := (qX3_tick (g := 0) (X := fun _ => Y) (by omega) h).2
      exact ih (Q + 2) (t + 1) (sTick Y) (by omega) (by omega) h1
/-- the reference: behind how many ticks f holds first -/
def rWhen (f : pY → Bool) : Nat → Nat → pY → Int32
  | 0, _, _ => -1
  | d + 1, k, Y => if f Y then nI k else rWhen f d (k + 1) (sTick Y)
theorem rWhen_no {f : pY → Bool} (hf : ∀ Y Z, sim Y Z → f Y = f Z) {n : Nat} : ∀ (d k Q t : Nat) (Y : pY), Q + 2 * d < 1000000 → t + d < 1000000 → wm Q n t Y → sSet Y = true → f Y = false → rWhen f d k Y = -1 := by
  intro d
  induction d with
  | zero => intro k Q t Y _ _ _ _ _; rfl
  | succ d ih =>
    intro k Q t Y hQ ht h hs h0
    unfold rWhen
    have h1 := (qX3_tick (g := 0) (X := fun _ => Y) (by omega) h).2
    have h2 := settled_tick h (by omega) hs
    rw [h0, if_neg (by decide)]
    exact ih (k + 1) (Q + 2) (t + 1) (sTick Y) (by omega) (by omega) h1 h2.2 (by rw [hf _ _ h2.1]; exact h0)
theorem rWhen_eq {f : pY → Bool} (hf : ∀ Y Z, sim Y Z → f Y = f Z) {n : Nat} : ∀ (d k Q t : Nat) (Y : pY), Q + 2 * d < 1000000 → t + d < 1000000 → wm Q n t Y → rWhen f d k Y = (sWhen f d k Y).1 := by
  intro d
  induction d with
  | zero => intro k Q t Y _ _ _; rfl
  | succ d ih =>
    intro k Q t Y hQ ht h
    have h1 := (qX3_tick (g := 0) (X := fun _ => Y) (by omega) h).2
    unfold sWhen
    cases h0 : f Y with
    | true => unfold rWhen; rw [h0]; rfl
    | false =>
      rw [if_neg (by decide)]
      by_cases hs : sSet Y = true
      · rw [if_pos hs]
        exact rWhen_no hf (d + 1) k Q t Y hQ ht h hs h0
      · rw [if_neg hs]
        unfold rWhen
        rw [h0, if_neg (by decide)]
        exact ih (k + 1) (Q + 2) (t + 1) (sTick Y) (by omega) (by omega) h1
