/-! THE LAW'S MACHINE Z AND THE CLASS'S Y -/
def rA (n : Nat) (Y Z : pY) : Prop := Z 0 0 4 = nI n ∧ ∀ i, 5 ≤ i → i ≤ 9 → Z 0 0 i = Y 0 0 i
def rB (n : Nat) (Y Z : pY) : Prop := ∀ k, k < n → ∀ i, 2 ≤ i → i ≤ 8 → Z 5 k i = Y 5 k i
def rC (n : Nat) (Y Z : pY) : Prop := ∀ k, k < n → (Y 6 k 0 = 0 ∧ Z 6 k 1 = -1) ∨ (Y 6 k 0 = 1 ∧ ∀ i, 1 ≤ i → i ≤ 5 → Z 6 k i = Y 6 k i)
def rD (Y Z : pY) : Prop := Z 2 0 1 = Y 2 0 1 ∧ (¬ Y 2 0 1 = -1 → Z 2 0 2 = Y 2 0 2 ∧ ∀ i, 1 ≤ i → i ≤ 5 → Z 13 0 i = Y 6 6 i)
def rE (Y Z : pY) : Prop := ∀ i, i ≤ 6 → Z 11 0 (13 + i) = Y 4 0 i
def rF (Y Z : pY) : Prop := ∃ m, m < 1000000 ∧ Y 3 0 4 = nI m ∧ Z 14 0 0 = nI m ∧ Z 11 0 12 = nI m ∧ ∀ j, j < m → m ≤ j + 12 → Z 12 j 0 = Y 7 0 (j % 12) ∧ Z 12 j 1 = Y 8 0 (j % 12) ∧ Z 12 j 2 = Y 9 0 (j % 12) ∧ Z 12 j 3 = Y 10 0 (j % 12)
def rl (n : Nat) (Y Z : pY) : Prop := rA n Y Z ∧ rB n Y Z ∧ rC n Y Z ∧ rD Y Z ∧ rE Y Z ∧ rF Y Z
def rs (Y Z : pY) : Prop := Z 0 0 11 = Y 0 0 11 ∧ Z 0 0 12 = Y 0 0 12 ∧ Z 0 0 10 = sSt Y
theorem rl.a {n : Nat} {Y Z : pY} (h : rl n Y Z) : rA n Y Z := h.1
theorem rl.b {n : Nat} {Y Z : pY} (h : rl n Y Z) : rB n Y Z := h.2.1
theorem rl.c {n : Nat} {Y Z : pY} (h : rl n Y Z) : rC n Y Z := h.2.2.1
theorem rl.d {n : Nat} {Y Z : pY} (h : rl n Y Z) : rD Y Z := h.2.2.2.1
theorem rl.e {n : Nat} {Y Z : pY} (h : rl n Y Z) : rE Y Z := h.2.2.2.2.1
theorem rl.f {n : Nat} {Y Z : pY} (h : rl n Y Z) : rF Y Z := h.2.2.2.2.2
/-- the same of other contents that agree -/
theorem rA.of {n : Nat} {Y Z Y' Z' : pY} (h : rA n Y Z) (hY : ∀ i, 5 ≤ i → i ≤ 9 → Y' 0 0 i = Y 0 0 i) (hZ : ∀ i, 4 ≤ i → i ≤ 9 → Z' 0 0 i = Z 0 0 i) : rA n Y' Z' :=
  ⟨by rw [hZ 4 (by omega) (by omega)]; exact h.1, fun i a b => by rw [hZ i (by omega) b, hY i a b]; exact h.2 i a b⟩
theorem rB.of {n : Nat} {Y Z Y' Z' : pY} (h : rB n Y Z) (hY : ∀ k i, 2 ≤ i → i ≤ 8 → Y' 5 k i = Y 5 k i) (hZ : ∀ k i, 2 ≤ i → i ≤ 8 → Z' 5 k i = Z 5 k i) : rB n Y' Z' :=
  fun k hk i a b => by rw [hZ k i a b, hY k i a b]; exact h k hk i a b
theorem rC.of {n : Nat} {Y Z Y' Z' : pY} (h : rC n Y Z) (hY : ∀ k i, k < n → i ≤ 5 → Y' 6 k i = Y 6 k i) (hZ : ∀ k i, k < n → 1 ≤ i → i ≤ 5 → Z' 6 k i = Z 6 k i) : rC n Y' Z' := by
  intro k hk
  rcases h k hk with ⟨a, b⟩ | ⟨a, b⟩
  · left; exact ⟨by rw [hY k 0 hk (by omega)]; exact a, by rw [hZ k 1 hk (by omega) (by omega)]; exact b⟩
  · right; exact ⟨by rw [hY k 0 hk (by omega)]; exact a, fun i c d => by rw [hZ k i hk c d, hY k i hk d]; exact b i c d⟩
theorem rD.of {Y Z Y' Z' : pY} (h : rD Y Z) (hY1 : Y' 2 0 1 = Y 2 0 1) (hY2 : Y' 2 0 2 = Y 2 0 2) (hY : ∀ i, 1 ≤ i → i ≤ 5 → Y' 6 6 i = Y 6 6 i) (hZ1 : Z' 2 0 1 = Z 2 0 1) (hZ2 : Z' 2 0 2 = Z 2 0 2) (hZ : ∀ i, 1 ≤ i → i ≤ 5 → Z' 13 0 i = Z 13 0 i) : rD Y' Z' := by
  refine ⟨by rw [hZ1, hY1]; exact h.1, fun q => ?_⟩
  rw [hY1] at q
  obtain ⟨a, b⟩ := h.2 q
  exact ⟨by rw [hZ2, hY2]; exact a, fun i c d => by rw [hZ i c d, hY i c d]; exact b i c d⟩
theorem rE.of {Y Z Y' Z' : pY} (h : rE Y Z) (hY : ∀ i, i ≤ 6 → Y' 4 0 i = Y 4 0 i) (hZ : ∀ i, 13 ≤ i → i ≤ 19 → Z' 11 0 i = Z 11 0 i) : rE Y' Z' :=
  fun i a => by rw [hZ (13 + i) (by omega) (by omega), hY i a]; exact h i a
theorem rF.of {Y Z Y' Z' : pY} (h : rF Y Z) (hY0 : Y' 3 0 4 = Y 3 0 4) (hY : ∀ K i, 7 ≤ K → K ≤ 10 → Y' K 0 i = Y K 0 i) (hZ0 : Z' 14 0 0 = Z 14 0 0) (hZ1 : Z' 11 0 12 = Z 11 0 12) (hZ : ∀ j i, i ≤ 3 → Z' 12 j i = Z 12 j i) : rF Y' Z' := by
  obtain ⟨m, hm, a, b, c, d⟩ := h
  refine ⟨m, hm, by rw [hY0]; exact a, by rw [hZ0]; exact b, by rw [hZ1]; exact c, fun j e f => ?_⟩
  rw [hZ j 0 (by omega), hZ j 1 (by omega), hZ j 2 (by omega), hZ j 3 (by omega), hY 7 _ (by omega) (by omega), hY 8 _ (by omega) (by omega), hY 9 _ (by omega) (by omega), hY 10 _ (by omega) (by omega)]
  exact d j e f
/-! matched writes -/
theorem wr_y (Y : pY) (K j i : Nat) (v : Int32) {a b c : Nat} (h : ¬ (a = K ∧ b = j ∧ c = i)) : wr Y K j i v a b c = Y a b c := if_neg h
theorem wr_s (Y : pY) (K j i : Nat) (v : Int32) : wr Y K j i v K j i = v := if_pos ⟨rfl, rfl, rfl⟩
theorem rl.w5 {n : Nat} {Y Z : pY} (h : rl n Y Z) (k i : Nat) (v : Int32) : rl n (wr Y 5 k i v) (wr Z 5 k i v) := by
  refine ⟨h.a.of (fun _ _ _ => wr_y _ _ _ _ _ (by omega)) (fun _ _ _ => wr_y _ _ _ _ _ (by omega)), ?_, h.c.of (fun _ _ _ _ => wr_y _ _ _ _ _ (by omega)) (fun _ _ _ _ _ => wr_y _ _ _ _ _ (by omega)), h.d.of (wr_y _ _ _ _ _ (by omega)) (wr_y _ _ _ _ _ (by omega)) (fun _ _ _ => wr_y _ _ _ _ _ (by omega)) (wr_y _ _ _ _ _ (by omega)) (wr_y _ _ _ _ _ (by omega)) (fun _ _ _ => wr_y _ _ _ _ _ (by omega)), h.e.of (fun _ _ => wr_y _ _ _ _ _ (by omega)) (fun _ _ _ => wr_y _ _ _ _ _ (by omega)), h.f.of (wr_y _ _ _ _ _ (by omega)) (fun _ _ _ _ => wr_y _ _ _ _ _ (by omega)) (wr_y _ _ _ _ _ (by omega)) (wr_y _ _ _ _ _ (by omega)) (fun _ _ _ => wr_y _ _ _ _ _ (by omega))⟩
  intro q hq z a b
  rw [wr_rd, wr_rd]
  split
  · rfl
  · exact h.b q hq z a b
theorem rl.w0 {n : Nat} {Y Z : pY} (h : rl n Y Z) (i : Nat) (v : Int32) (h1 : 5 ≤ i) (h2 : i ≤ 9) : rl n (wr Y 0 0 i v) (wr Z 0 0 i v) := by
  refine ⟨⟨by rw [wr_y _ _ _ _ _ (by omega)]; exact h.a.1, fun q a b => ?_⟩, h.b.of (fun _ _ _ _ => wr_y _ _ _ _ _ (by omega)) (fun _ _ _ _ => wr_y _ _ _ _ _ (by omega)), h.c.of (fun _ _ _ _ => wr_y _ _ _ _ _ (by omega)) (fun _ _ _ _ _ => wr_y _ _ _ _ _ (by omega)), h.d.of (wr_y _ _ _ _ _ (by omega)) (wr_y _ _ _ _ _ (by omega)) (fun _ _ _ => wr_y _ _ _ _ _ (by omega)) (wr_y _ _ _ _ _ (by omega)) (wr_y _ _ _ _ _ (by omega)) (fun _ _ _ => wr_y _ _ _ _ _ (by omega)), h.e.of (fun _ _ => wr_y _ _ _ _ _ (by omega)) (fun _ _ _ => wr_y _ _ _ _ _ (by omega)), h.f.of (wr_y _ _ _ _ _ (by omega)) (fun _ _ _ _ => wr_y _ _ _ _ _ (by omega)) (wr_y _ _ _ _ _ (by omega)) (wr_y _ _ _ _ _ (by omega)) (fun _ _ _ => wr_y _ _ _ _ _ (by omega))⟩
  rw [wr_rd, wr_rd]
  split
  · rfl
  · exact h.a.2 q a b
theorem rl.y0 {n : Nat} {Y Z : pY} (h : rl n Y Z) (i : Nat) (v : Int32) (h1 : 10 ≤ i) : rl n (wr Y 0 0 i v) Z :=
  ⟨h.a.of (fun _ _ _ => wr_y _ _ _ _ _ (by omega)) (fun _ _ _ => rfl), h.b.of (fun _ _ _ _ => wr_y _ _ _ _ _ (by omega)) (fun _ _ _ _ => rfl), h.c.of (fun _ _ _ _ => wr_y _ _ _ _ _ (by omega)) (fun _ _ _ _ _ => rfl), h.d.of (wr_y _ _ _ _ _ (by omega)) (wr_y _ _ _ _ _ (by omega)) (fun _ _ _ => wr_y _ _ _ _ _ (by omega)) rfl rfl (fun _ _ _ => rfl), h.e.of (fun _ _ => wr_y _ _ _ _ _ (by omega)) (fun _ _ _ => rfl), h.f.of (wr_y _ _ _ _ _ (by omega)) (fun _ _ _ _ => wr_y _ _ _ _ _ (by omega)) rfl rfl (fun _ _ _ => rfl)⟩
theorem rl.z0 {n : Nat} {Y Z : pY} (h : rl n Y Z) (i : Nat) (v : Int32) (h1 : 10 ≤ i) : rl n Y (wr Z 0 0 i v) :=
  ⟨h.a.of (fun _ _ _ => rfl) (fun _ _ _ => wr_y _ _ _ _ _ (by omega)), h.b.of (fun _ _ _ _ => rfl) (fun _ _ _ _ => wr_y _ _ _ _ _ (by omega)), h.c.of (fun _ _ _ _ => rfl) (fun _ _ _ _ _ => wr_y _ _ _ _ _ (by omega)), h.d.of rfl rfl (fun _ _ _ => rfl) (wr_y _ _ _ _ _ (by omega)) (wr_y _ _ _ _ _ (by omega)) (fun _ _ _ => wr_y _ _ _ _ _ (by omega)), h.e.of (fun _ _ => rfl) (fun _ _ _ => wr_y _ _ _ _ _ (by omega)), h.f.of rfl (fun _ _ _ _ => rfl) (wr_y _ _ _ _ _ (by omega)) (wr_y _ _ _ _ _ (by omega)) (fun _ _ _ => wr_y _ _ _ _ _ (by omega))⟩
theorem rl.we {n : Nat} {Y Z : pY} (h : rl n Y Z) (i : Nat) (v : Int32) : rl n (wr Y 4 0 i v) (wr Z 11 0 (13 + i) v) := by
  refine ⟨h.a.of (fun _ _ _ => wr_y _ _ _ _ _ (by omega)) (fun _ _ _ => wr_y _ _ _ _ _ (by omega)), h.b.of (fun _ _ _ _ => wr_y _ _ _ _ _ (by omega)) (fun _ _ _ _ => wr_y _ _ _ _ _ (by omega)), h.c.of (fun _ _ _ _ => wr_y _ _ _ _ _ (by omega)) (fun _ _ _ _ _ => wr_y _ _ _ _ _ (by omega)), h.d.of (wr_y _ _ _ _ _ (by omega)) (wr_y _ _ _ _ _ (by omega)) (fun _ _ _ => wr_y _ _ _ _ _ (by omega)) (wr_y _ _ _ _ _ (by omega)) (wr_y _ _ _ _ _ (by omega)) (fun _ _ _ => wr_y _ _ _ _ _ (by omega)), ?_, h.f.of (wr_y _ _ _ _ _ (by omega)) (fun _ _ _ _ => wr_y _ _ _ _ _ (by omega)) (wr_y _ _ _ _ _ (by omega)) (wr_y _ _ _ _ _ (by omega)) (fun _ _ _ => wr_y _ _ _ _ _ (by omega))⟩
  intro q a
  rw [wr_rd, wr_rd]
  by_cases e : q = i
  · subst e; rw [if_pos ⟨rfl, rfl, rfl⟩, if_pos ⟨rfl, rfl, rfl⟩]
  · rw [if_neg (by omega), if_neg (by omega)]; exact h.e q a
/-! what is read -/
theorem rl.pn {n : Nat} {Y Z : pY} (h : rl n Y Z) (hn : n ≤ 6) : ln Z = n := by unfold ln; rw [h.a.1]; exact pu_ix n (by omega)
theorem rl.num {n : Nat} {Y Z : pY} (h : rl n Y Z) {i : Nat} (h1 : 5 ≤ i) (h2 : i ≤ 9) : Z 0 0 i = Y 0 0 i := h.a.2 i h1 h2
theorem rl.sl {n : Nat} {Y Z : pY} (h : rl n Y Z) {k i : Nat} (hk : k < n) (h1 : 2 ≤ i) (h2 : i ≤ 8) : Z 5 k i = Y 5 k i := h.b k hk i h1 h2
theorem rl.em {n : Nat} {Y Z : pY} (h : rl n Y Z) {k : Nat} (hk : k < n) (h1 : rng (Y 6 k 1) 0 99) : (Y 6 k 0 = 0 ∧ Z 6 k 1 = -1 ∧ ¬ 0 ≤ Z 6 k 1) ∨ (Y 6 k 0 = 1 ∧ ¬ Y 6 k 0 = 0 ∧ 0 ≤ Z 6 k 1 ∧ Z 6 k 1 = Y 6 k 1) := by
  rcases h.c k hk with ⟨a, b⟩ | ⟨a, b⟩
  · left; exact ⟨a, b, by rw [b]; decide⟩
  · right
    obtain ⟨v, _, hv, e⟩ := h1
    have e1 := b 1 (by omega) (by omega)
    exact ⟨a, by rw [a]; decide, by rw [e1, e, show (0 : Int32) = nI 0 from rfl, pu_le 0 v (by omega) (by omega)]; omega, e1⟩
theorem rl.im {n : Nat} {Y Z : pY} (h : rl n Y Z) {k i : Nat} (hk : k < n) (he : ¬ Y 6 k 0 = 0) (h1 : 1 ≤ i) (h2 : i ≤ 5) : Z 6 k i = Y 6 k i := by
  rcases h.c k hk with ⟨a, b⟩ | ⟨a, b⟩
  · exact absurd a he
  · exact b i h1 h2
theorem pz_in {k n : Nat} (hk : k < n) (hn : n ≤ 6) : bsIn (nI k) n := (pu_in k n (by omega)).mpr hk
theorem pz_le {k n : Nat} (hk : k < n) (hn : n ≤ 6) : ¬ nI n ≤ nI k := by rw [pu_le n k (by omega) (by omega)]; omega
theorem pz_nn (n : Nat) : nI n ≤ nI n := Int32.le_refl _
/-- isEmpty, why -/
theorem hq_emp {n k : Nat} {X : bsX} {Y Z : pY} (h : rl n Y Z) (hk : k < n) (h1 : rng (Y 6 k 1) 0 99) : hX10_isEmpty k X Z = some (b2 (Y 6 k 0 = 0), X, Z) := by
  unfold hX10_isEmpty
  rcases h.em hk h1 with ⟨a, _, c⟩ | ⟨_, b, c, _⟩
  · rw [if_neg c, decide_eq_true a, b2_t]
  · rw [if_pos c, decide_eq_false b, b2_f]
theorem hq_why {Q n t k : Nat} {X : bsX} {Y Z : pY} (hw : wm Q n t Y) (h : rl n Y Z) (hk : k < n) : hX11_why (nI k) X Z = some (sWhy Y k, X, Z) := by
  have h6 := hw.hn
  have hs := hw.sl k (by omega)
  have hl := h.pn h6
  unfold hX11_why hX11_why_68
  rw [hl, if_pos (pz_in hk h6), pu_ix k (by omega), hq_emp h hk hs.2.2.2.2.2.2.1]
  simp only [Option.bind_some]
  unfold sWhy
  by_cases e : Y 6 k 0 = 0
  · rw [decide_eq_true e, b2_t, if_neg (by decide), if_pos e]
  · rw [decide_eq_false e, b2_f, if_pos rfl, if_neg e]
    rw [hl, if_pos hk, h.im hk e (i := 4) (by omega) (by omega), h.num (i := 8) (by omega) (by omega), h.im hk e (i := 1) (by omega) (by omega), h.sl hk (i := 2) (by omega) (by omega), h.sl hk (i := 4) (by omega) (by omega), h.sl hk (i := 3) (by omega) (by omega)]
    have h4 := hs.2.1
    by_cases e4 : Y 6 k 4 = 1
    · rw [if_pos e4, if_pos (by rw [e4]; decide)]
    · have e5 : Y 6 k 4 = 0 := h4.resolve_right e4
      rw [if_neg e4, if_neg (show ¬ (Y 6 k 4 ≠ 0) from fun q => q e5)]
      by_cases e1 : Y 0 0 8 ≤ Y 6 k 1
      · rw [if_pos e1, if_neg (pu_nlt.mpr e1)]
        by_cases e2 : Y 5 k 2 = 0
        · rw [if_pos e2, if_pos e2]
        · rw [if_neg e2, if_neg e2]
          by_cases e3 : Y 5 k 4 = 0
          · rw [if_pos e3]
            by_cases e6 : Y 5 k 3 ≤ 0
            · rw [if_pos e6, if_neg (fun q => by rcases q with q | q; exact q e3; exact pu_nlt.mpr e6 q)]
            · rw [if_neg e6, if_pos (Or.inr (pu_nle.mp e6))]
          · rw [if_neg e3, if_pos (Or.inl e3)]
      · rw [if_neg e1, if_pos (pu_nle.mp e1)]
theorem hq_boot0 {Q n t k : Nat} {Y : pY} (hw : wm Q n t Y) (hk : k < 6) : sWhy Y k = 0 ↔ sBoot Y k = true := by
  have hs := hw.sl k hk
  have hp := hs.2.2.2.2.1
  unfold sWhy sBoot sBootF
  by_cases e : Y 6 k 0 = 0
  · simp [e]
  · by_cases e4 : Y 6 k 4 = 0
    · by_cases e1 : Y 6 k 1 < Y 0 0 8
      · have g := pu_nle.mpr e1
        simp [e, e4, e1, g]
      · have g := pu_nlt.mp e1
        by_cases e2 : Y 5 k 2 = 0
        · simp [e, e4, e1, e2]
        · have g2 : 0 < Y 5 k 2 := by
            obtain ⟨p, _, hp, e⟩ := hp
            rw [e] at e2 ⊢
            rw [show (0 : Int32) = nI 0 from rfl, pu_lt 0 p (by omega) (by omega)]
            exact Nat.pos_of_ne_zero fun z => e2 (by rw [z]; rfl)
          by_cases e3 : Y 5 k 4 ≠ 0 ∨ 0 < Y 5 k 3
          · simp [e, e4, e1, e2, e3, g, g2]
          · simp [e, e4, e1, e2, e3, g, g2]
    · simp [e, e4]
