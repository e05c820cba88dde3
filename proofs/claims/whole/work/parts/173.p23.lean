/-! THE INVARIANT -/
def Mach (J : Nat) (Y : pY) (R : Nat → Int32) : Prop := ∃ n t Q, 1 ≤ n ∧ wm Q n t Y ∧ R = enc Y ∧ t ≤ 9999 ∧ Q ≤ 2 * t + J
def stRow (X : bsX) (k : Nat) : Nat → Int32 := fun d => if d < 160 then X 14 2 0 (160 * k + d) else 0
def blankY : pY := fun K j i => if (K = 0 ∧ j = 0 ∧ i = 11) ∨ (K = 2 ∧ j = 0 ∧ i = 1) then -1 else 0
def InvT (X : bsX) : Prop := ∃ tl, tl ≤ 400 ∧ X 13 2 0 1 = nI tl ∧ X 14 0 0 20 = nI tl ∧ ∀ i, i < tl → X 13 8 0 i = X 14 6 0 i
def InvP (X : bsX) : Prop := ∃ f, f ≤ 600 ∧ X 13 1 0 3 = nI f ∧ X 14 0 0 7 = nI f ∧ X 13 1 0 8 = X 14 0 0 8 ∧ X 13 1 0 9 = X 14 0 0 9 ∧ ∀ i, i < 600 → X 14 4 0 i = X 13 6 0 i &&& 255
def InvU (J : Nat) (X : bsX) : Prop := ∃ np ck, np < 8 ∧ ck ≤ 8 ∧ X 13 0 0 8 = nI np ∧ X 13 0 0 9 = nI ck ∧ X 14 0 0 4 = nI ck ∧ ∀ i, i < ck → Mach J (X (2 + (np + 8 - ck + i) % 8)) (stRow X i)
def InvS (J : Nat) (X : bsX) : Prop := ∀ i, i < 2 → is01 (X 14 3 0 i) ∧ X 13 5 0 i = X 14 3 0 i ∧ (X 14 3 0 i = 1 → Mach J (X (10 + i)) (stRow X (8 + i)))
def Inv (J : Nat) (X : bsX) : Prop :=
  is01 (X 14 0 0 1) ∧ X 13 0 0 7 = X 14 0 0 1 ∧ (X 14 0 0 1 = 1 → Mach J (X 0) (X 14 1 0)) ∧ r160 (X 14 1 0) ∧ InvU J X ∧ InvS J X ∧ InvT X ∧ InvP X ∧ alike (X 12) blankY
theorem Mach.up {J : Nat} {Y : pY} {R : Nat → Int32} (h : Mach J Y R) : Mach (J + 1) Y R := by
  obtain ⟨n, t, Q, h1, h2, h3, h4, h5⟩ := h; exact ⟨n, t, Q, h1, h2, h3, h4, by omega⟩
/-- all that the invariant speaks of is as it was -/
def quiet (X Z : bsX) : Prop :=
  (∀ g, g ≠ 1 → g ≠ 14 → Z g = X g) ∧ (∀ i, i ≠ 0 → Z 14 0 0 i = X 14 0 0 i) ∧ (∀ K, K ≠ 0 → K ≠ 2 → Z 14 K 0 = X 14 K 0) ∧ (∀ i, i < 1600 → Z 14 2 0 i = X 14 2 0 i)
theorem quiet.inv {J : Nat} {X Z : bsX} (q : quiet X Z) (h : Inv J X) : Inv (J + 1) Z := by
  obtain ⟨q1, q2, q3, q4⟩ := q
  obtain ⟨h1, h2, h3, h4, ⟨np, ck, u1, u2, u3, u4, u5, u6⟩, h6, ⟨tl, t1, t2, t3, t4⟩, ⟨f, f1, f2, f3, f4, f5, f6⟩, h9⟩ := h
  have hst : ∀ k, k < 10 → stRow Z k = stRow X k := by
    intro k hk; funext d; unfold stRow
    by_cases e : d < 160
    · rw [if_pos e, if_pos e, q4 _ (by omega)]
    · rw [if_neg e, if_neg e]
  refine ⟨by rw [q2 1 (by decide)]; exact h1, by rw [q1 13 (by decide) (by decide), q2 1 (by decide)]; exact h2, ?_, by rw [q3 1 (by decide) (by decide)]; exact h4, ⟨np, ck, u1, u2, by rw [q1 13 (by decide) (by decide)]; exact u3, by rw [q1 13 (by decide) (by decide)]; exact u4, by rw [q2 4 (by decide)]; exact u5, ?_⟩, ?_, ⟨tl, t1, by rw [q1 13 (by decide) (by decide)]; exact t2, by rw [q2 20 (by decide)]; exact t3, ?_⟩, ⟨f, f1, by rw [q1 13 (by decide) (by decide)]; exact f2, by rw [q2 7 (by decide)]; exact f3, by rw [q1 13 (by decide) (by decide), q2 8 (by decide)]; exact f4, by rw [q1 13 (by decide) (by decide), q2 9 (by decide)]; exact f5, ?_⟩, by rw [q1 12 (by decide) (by decide)]; exact h9⟩
  · intro e
    rw [q2 1 (by decide)] at e
    rw [q1 0 (by decide) (by decide), q3 1 (by decide) (by decide)]
    exact (h3 e).up
  · intro i hi
    rw [q1 _ (by omega) (by omega), hst i (by omega)]
    exact (u6 i hi).up
  · intro i hi
    obtain ⟨a1, a2, a3⟩ := h6 i hi
    rw [q3 3 (by decide) (by decide), q1 13 (by decide) (by decide), q1 (10 + i) (by omega) (by omega), hst _ (by omega)]
    exact ⟨a1, a2, fun e => (a3 e).up⟩
  · intro i hi; rw [q1 13 (by decide) (by decide), q3 6 (by decide) (by decide)]; exact t4 i hi
  · intro i hi; rw [q1 13 (by decide) (by decide), q3 4 (by decide) (by decide)]; exact f6 i hi
theorem quiet.refl (X : bsX) : quiet X X := ⟨fun _ _ _ => rfl, fun _ _ => rfl, fun _ _ _ => rfl, fun _ _ => rfl⟩
theorem quiet.thr {X Z : bsX} (h : quiet X Z) (v : Int32) : quiet X (th Z v) := by
  obtain ⟨q1, q2, q3, q4⟩ := h
  unfold th
  refine ⟨fun g a b => ?_, fun i a => ?_, fun K a b => ?_, fun i a => ?_⟩
  · rw [← q1 g a b]; funext K j i; unfold bsWr; rw [if_neg (by omega)]
  · rw [← q2 i a]; unfold bsWr; rw [if_neg (by omega)]
  · rw [← q3 K a b]; funext i; unfold bsWr; rw [if_neg (by omega)]
  · rw [← q4 i a]; unfold bsWr; rw [if_neg (by omega)]
theorem quiet.up1 {X Z : bsX} (h : quiet X Z) (Y : pY) : quiet X (up Z 1 Y) := by
  obtain ⟨q1, q2, q3, q4⟩ := h
  refine ⟨fun g a b => by rw [up_ne _ _ a]; exact q1 g a b, fun i a => by rw [up_ne _ _ (by decide)]; exact q2 i a, fun K a b => by rw [up_ne _ _ (by decide)]; exact q3 K a b, fun i a => by rw [up_ne _ _ (by decide)]; exact q4 i a⟩
theorem ar_val (X : bsX) (K : Nat) (R : Nat → Int32) (a b c d : Nat) : ar X K R a b c d = if a = 14 ∧ b = K ∧ c = 0 then R d else X a b c d := rfl
theorem ro_val (X : bsX) (R : Nat → Int32) (a b c d : Nat) : ro X R a b c d = if a = 14 ∧ b = 1 ∧ c = 0 then R d else X a b c d := rfl
theorem quiet.lay {X Z : bsX} (h : quiet X Z) (R : Nat → Int32) : quiet X (ar Z 2 (stK (Z 14 2 0) R 10)) := by
  obtain ⟨q1, q2, q3, q4⟩ := h
  refine ⟨fun g a b => ?_, fun i a => ?_, fun K a b => ?_, fun i a => ?_⟩
  · rw [← q1 g a b]; funext K j i; rw [ar_val, if_neg (by omega)]
  · rw [← q2 i a, ar_val, if_neg (by omega)]
  · rw [← q3 K a b]; funext i; rw [ar_val, if_neg (by omega)]
  · rw [← q4 i a, ar_val, if_pos ⟨rfl, rfl, rfl⟩]; unfold stK cpR; rw [if_neg (by omega)]
theorem quiet.row {X Z : bsX} (h : quiet X Z) {R : Nat → Int32} (hR : R = X 14 1 0) : quiet X (ro Z R) := by
  obtain ⟨q1, q2, q3, q4⟩ := h
  refine ⟨fun g a b => ?_, fun i a => ?_, fun K a b => ?_, fun i a => ?_⟩
  · rw [← q1 g a b]; funext K j i; rw [ro_val, if_neg (by omega)]
  · rw [← q2 i a, ro_val, if_neg (by omega)]
  · by_cases e : K = 1
    · subst e; funext i; rw [ro_val, if_pos ⟨rfl, rfl, rfl⟩, hR]
    · rw [← q3 K a b]; funext i; rw [ro_val, if_neg (by omega)]
  · rw [← q4 i a, ro_val, if_neg (by omega)]
theorem th_rd (X : bsX) (v : Int32) : th X v 14 0 0 0 = v := by simp [b2_t, b2_f, up_at, up_up, up_id, th, bsWr]
theorem th_rd1 (X : bsX) (v : Int32) : th X v 14 0 0 1 = X 14 0 0 1 := by simp [b2_t, b2_f, up_at, up_up, up_id, th, bsWr]
theorem th_K (X : bsX) (v : Int32) {K : Nat} (h : K ≠ 0) : th X v 14 K 0 = X 14 K 0 := by
  funext i; unfold th bsWr; rw [if_neg (by omega)]
theorem th_g (X : bsX) (v : Int32) {g : Nat} (h : g ≠ 14) : th X v g = X g := by
  funext K j i; unfold th bsWr; rw [if_neg (by omega)]
theorem th_th (X : bsX) (v w : Int32) : th (th X v) w = th X w := by
  funext a b c d; unfold th bsWr; split <;> rfl
theorem th_ro (X : bsX) (v : Int32) {R : Nat → Int32} (h : X 14 1 0 = R) : th X v = ro (th X v) R := by
  have : th X v 14 1 0 = R := by rw [th_K _ _ (by decide)]; exact h
  rw [← this, ro_id]
theorem Inv.load {J : Nat} {X : bsX} (h : Inv J X) : is01 (X 14 0 0 1) := h.1
theorem Inv.req {J : Nat} {X : bsX} (h : Inv J X) : (X 14 0 0 1 = 0 ∧ fX8_requireLoaded X = some (1, 0, X) ∧ fX9_notLoaded X = some (1, th X 1)) ∨
    (X 14 0 0 1 = 1 ∧ fX8_requireLoaded X = some (0, 0, X) ∧ fX9_notLoaded X = some (0, th X 0) ∧ Mach J (X 0) (X 14 1 0)) := by
  have h1 := q9_notLoaded h.1
  have h2 := h.2.1
  have h3 := h.2.2.1
  have c10 : ¬ (1 : Int32) = 0 := by decide
  rcases h.1 with e | e
  · left; refine ⟨e, ?_, ?_⟩
    · unfold fX8_requireLoaded; rw [h2, e]; rfl
    · rw [h1, e]; rfl
  · right; refine ⟨e, ?_, ?_, h3 e⟩
    · unfold fX8_requireLoaded; rw [h2, e, if_neg c10]
    · rw [h1, e, if_neg c10]
theorem sim_choice_ok : sim_choice Inv := by
  intro j X hj h
  rcases h.req with ⟨e, e1, e2⟩ | ⟨e, e1, e2, hm⟩
  · refine ⟨(1, 0, X), (0, th X 1), ?_, Or.inr rfl, ?_, ?_, ?_, ?_⟩
    · unfold fX8_choice; rw [e1]; rfl
    · unfold fX9_choice; rw [e2]; rfl
    · exact th_rd X 1
    · intro q; exact absurd (show (1 : Nat) = 0 from q) (by decide)
    · exact ((quiet.refl X).thr 1).inv h
  · obtain ⟨n, t, Q, n1, hw, hR, ht, hQ⟩ := hm
    have hc := qX3_firstBut 0 (-1) X hw.s01
    have hr := q9_first (X := th X 0) (Y := X 0) (a := sSt (X 0)) (b := X 0 0 0 11) (c := X 0 0 0 12) hw
    refine ⟨(0, oI (sFirstBut (-1) (X 0)), X), (oI (sFirstBut (-1) (X 0)), th X 0), ?_, Or.inl rfl, ?_, ?_, ?_, ?_⟩
    · unfold fX8_choice; rw [e1]; simp only [Option.bind_some, if_true, hc.1]
    · unfold fX9_choice; rw [e2]
      simp only [Option.bind_some, if_true]
      rw [th_ro X 0 hR]
      show (fX9_first (ro (th X 0) (row (X 0) (sSt (X 0)) (X 0 0 0 11) (X 0 0 0 12)))).bind _ = _
      rw [hr]; rfl
    · exact th_rd X 0
    · intro _; rfl
    · exact ((quiet.refl X).thr 0).inv h
