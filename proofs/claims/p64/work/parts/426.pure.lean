/-! CHANGES: the law's machine goes along -/
theorem and_nn (x : Int32) : ∃ m, m < 2147483648 ∧ x &&& (2147483647 : Int32) = nI m := by
  have h : (x &&& (2147483647 : Int32)).toBitVec.msb = false := by
    rw [Int32.toBitVec_and, BitVec.msb_and, show (2147483647 : Int32).toBitVec.msb = false from by decide, Bool.and_false]
  have h2 := BitVec.toInt_nonneg_of_msb_false h
  exact pu_of (by rw [Int32.le_iff_toInt_le, show (0 : Int32).toInt = 0 from by decide]; exact h2)
theorem dv_in (xs : Nat → Int32) (L D a b : Nat) (h : a ≤ b) (hb : b < 1000) : ∃ k, a ≤ k ∧ k ≤ b ∧ dVal xs L D (nI a) (nI b) = nI k := by
  obtain ⟨m, hm, e⟩ : ∃ m, m < 2147483648 ∧ (if D < L then xs D &&& (2147483647 : Int32) else 0) = nI m := by
    by_cases c : D < L
    · obtain ⟨m, a, b⟩ := and_nn (xs D)
      exact ⟨m, a, by rw [if_pos c]; exact b⟩
    · exact ⟨0, by omega, by rw [if_neg c]; rfl⟩
  have hlt := Nat.mod_lt m (show 0 < b - a + 1 by omega)
  have hdm := Nat.div_add_mod m (b - a + 1)
  rw [Nat.mul_comm] at hdm
  have hmm : m - m / (b - a + 1) * (b - a + 1) = m % (b - a + 1) := by omega
  refine ⟨a + m % (b - a + 1), by omega, by omega, ?_⟩
  unfold dVal
  rw [e, pu_sub b a h, pu_succ]
  try dsimp only
  rw [pu_div m (b - a + 1) hm (by omega) (by omega), pu_mul, pu_sub m _ (Nat.div_mul_le_self m _), pu_add, hmm]
theorem rng_in {x : Int32} {a b : Nat} (h : rng x a b) (hb : b < 1000) : nI a ≤ x ∧ x ≤ nI b := by
  obtain ⟨k, h1, h2, rfl⟩ := h
  exact ⟨(pu_le a k (by omega) (by omega)).mpr h1, (pu_le k b (by omega) (by omega)).mpr h2⟩
theorem dv_rng (xs : Nat → Int32) (L D a b : Nat) (h : a ≤ b) (hb : b < 1000) : rng (dVal xs L D (nI a) (nI b)) a b := by
  obtain ⟨k, h1, h2, e⟩ := dv_in xs L D a b h hb
  exact ⟨k, h1, h2, e⟩
theorem rl.tot {n : Nat} {Y Z : pY} (h : rl n Y Z) : Z 11 0 12 = Y 3 0 4 := by
  obtain ⟨m, _, a, _, c, _⟩ := h.f
  rw [a, c]
-- cut
theorem sCut_y {Y : pY} {K j i : Nat} (h : ¬ (K = 2 ∧ j = 0 ∧ 1 ≤ i ∧ i ≤ 3)) (h2 : ¬ (K = 6 ∧ j = 6)) (h3 : ¬ (K = 0 ∧ j = 0 ∧ 10 ≤ i ∧ i ≤ 12)) : sCut Y K j i = Y K j i := by
  unfold sCut sStop sImg
  rw [wr_y _ _ _ _ _ (by omega), wr_y _ _ _ _ _ (by omega), wr_y _ _ _ _ _ (by omega), wr_y _ _ _ _ _ (by omega), wr_y _ _ _ _ _ (by omega), wr_y _ _ _ _ _ (by omega), wr_y _ _ _ _ _ (by omega), wr_y _ _ _ _ _ (by omega), wr_y _ _ _ _ _ (by omega), wr_y _ _ _ _ _ (by omega), wr_y _ _ _ _ _ (by omega), wr_y _ _ _ _ _ (by omega), wr_y _ _ _ _ _ (by omega)]
theorem sCut_21 {Y : pY} : sCut Y 2 0 1 = -1 := by
  unfold sCut sStop sImg
  rw [wr_y _ _ _ _ _ (by omega), wr_y _ _ _ _ _ (by omega), wr_y _ _ _ _ _ (by omega), wr_y _ _ _ _ _ (by omega), wr_y _ _ _ _ _ (by omega), wr_y _ _ _ _ _ (by omega), wr_y _ _ _ _ _ (by omega), wr_y _ _ _ _ _ (by omega), wr_y _ _ _ _ _ (by omega), wr_s]
theorem rl.cut {n : Nat} {Y Z : pY} (h : rl n Y Z) (hn : n ≤ 6) : rl n (sCut Y) (wr (wr (wr (wr Z 2 0 1 (-1)) 0 0 10 0) 0 0 11 (-1)) 0 0 12 0) := by
  have z : ∀ K j i, ¬ (K = 2 ∧ j = 0 ∧ i = 1) → ¬ (K = 0 ∧ j = 0 ∧ 10 ≤ i ∧ i ≤ 12) → (wr (wr (wr (wr Z 2 0 1 (-1)) 0 0 10 0) 0 0 11 (-1)) 0 0 12 0) K j i = Z K j i := fun K j i a b => by
    rw [wr_y _ _ _ _ _ (by omega), wr_y _ _ _ _ _ (by omega), wr_y _ _ _ _ _ (by omega), wr_y _ _ _ _ _ (by omega)]
  refine ⟨h.a.of (fun _ _ _ => sCut_y (by omega) (by omega) (by omega)) (fun _ _ _ => z _ _ _ (by omega) (by omega)), h.b.of (fun _ _ _ _ => sCut_y (by omega) (by omega) (by omega)) (fun _ _ _ _ => z _ _ _ (by omega) (by omega)), h.c.of (fun _ _ _ _ => sCut_y (by omega) (by omega) (by omega)) (fun _ _ _ _ _ => z _ _ _ (by omega) (by omega)), ⟨?_, fun q => absurd sCut_21 q⟩, h.e.of (fun _ _ => sCut_y (by omega) (by omega) (by omega)) (fun _ _ _ => z _ _ _ (by omega) (by omega)), h.f.of (sCut_y (by omega) (by omega) (by omega)) (fun _ _ _ _ => sCut_y (by omega) (by omega) (by omega)) (z _ _ _ (by omega) (by omega)) (z _ _ _ (by omega) (by omega)) (fun _ _ _ => z _ _ _ (by omega) (by omega))⟩
  rw [sCut_21, wr_y _ _ _ _ _ (by omega), wr_y _ _ _ _ _ (by omega), wr_y _ _ _ _ _ (by omega), wr_s]
-- begin
theorem sBeg_y {k : Nat} {v s c m : Int32} {Y : pY} {K j i : Nat} (h : K ≠ 2) (h6 : ¬ (K = 6 ∧ j = 6)) : sBeg k v s c m Y K j i = sEmp k Y K j i := by
  unfold sBeg sImg
  rw [wr_y _ _ _ _ _ (by omega), wr_y _ _ _ _ _ (by omega), wr_y _ _ _ _ _ (by omega), wr_y _ _ _ _ _ (by omega), wr_y _ _ _ _ _ (by omega), wr_y _ _ _ _ _ (by omega), wr_y _ _ _ _ _ (by omega), wr_y _ _ _ _ _ (by omega), wr_y _ _ _ _ _ (by omega)]
theorem sEmp_y {k : Nat} {Y : pY} {K j i : Nat} (h : ¬ (j = k ∧ (K = 5 ∨ K = 6))) : sEmp k Y K j i = Y K j i := by rw [sEmp_rd, if_neg (by omega)]
theorem zBeg_y {f : Nat → Int32} {k : Nat} {Z : pY} {a b : Int32} {K j i : Nat} (h : K ≠ 13) (h2 : K ≠ 2) : zCom f (wr (wr (zEmp k Z) 2 0 1 a) 2 0 2 b) K j i = zEmp k Z K j i := by
  unfold zCom
  rw [wr_y _ _ _ _ _ (by omega), wr_y _ _ _ _ _ (by omega), wr_y _ _ _ _ _ (by omega), wr_y _ _ _ _ _ (by omega), wr_y _ _ _ _ _ (by omega), wr_y _ _ _ _ _ (by omega), wr_y _ _ _ _ _ (by omega)]
theorem rl.beg {n k : Nat} {Y Z : pY} (h : rl n Y Z) (hn : n ≤ 6) (hk : k < n) {v s c m : Int32} {f : Nat → Int32} (f0 : f 0 = v) (f1 : f 1 = s) (f2 : f 2 = c) (f3 : f 3 = 0) (f4 : f 4 = 0) :
    rl n (sBeg k v s c m Y) (zCom f (wr (wr (zEmp k Z) 2 0 1 (nI k)) 2 0 2 m)) := by
  have y : ∀ K j i, K ≠ 2 → K ≠ 5 → K ≠ 6 → sBeg k v s c m Y K j i = Y K j i := fun K j i a b d => by rw [sBeg_y a (by omega), sEmp_y (by omega)]
  have z : ∀ K j i, K ≠ 13 → K ≠ 2 → K ≠ 5 → K ≠ 6 → zCom f (wr (wr (zEmp k Z) 2 0 1 (nI k)) 2 0 2 m) K j i = Z K j i := fun K j i a b d e => by rw [zBeg_y a b, zEmp_no (by omega) (by omega)]
  have i2 : sBeg k v s c m Y 2 0 1 = nI k ∧ sBeg k v s c m Y 2 0 2 = m := by
    constructor <;> simp [sBeg, sImg, wr_rd]
  have j2 : zCom f (wr (wr (zEmp k Z) 2 0 1 (nI k)) 2 0 2 m) 2 0 1 = nI k ∧ zCom f (wr (wr (zEmp k Z) 2 0 1 (nI k)) 2 0 2 m) 2 0 2 = m := by
    constructor <;> simp [zCom, wr_rd]
  refine ⟨h.a.of (fun _ _ _ => y _ _ _ (by omega) (by omega) (by omega)) (fun _ _ _ => z _ _ _ (by omega) (by omega) (by omega) (by omega)), ?_, ?_, ⟨by rw [i2.1, j2.1], fun _ => ⟨by rw [i2.2, j2.2], ?_⟩⟩, h.e.of (fun _ _ => y _ _ _ (by omega) (by omega) (by omega)) (fun _ _ _ => z _ _ _ (by omega) (by omega) (by omega) (by omega)), h.f.of (y _ _ _ (by omega) (by omega) (by omega)) (fun _ _ _ _ => y _ _ _ (by omega) (by omega) (by omega)) (z _ _ _ (by omega) (by omega) (by omega) (by omega)) (z _ _ _ (by omega) (by omega) (by omega) (by omega)) (fun _ _ _ => z _ _ _ (by omega) (by omega) (by omega) (by omega))⟩
  · intro q hq i a b
    rw [zBeg_y (by omega) (by omega), sBeg_y (by omega) (by omega), sEmp_rd, zEmp_rd]
    by_cases e : q = k
    · by_cases w : i ≤ 5
      · have : i = 2 ∨ i = 3 ∨ i = 4 ∨ i = 5 := by omega
        rcases this with rfl | rfl | rfl | rfl <;> simp [e]
      · rw [if_neg (by omega), if_neg (by omega), if_neg (by omega), if_neg (by omega), if_neg (by omega), if_neg (by omega), if_neg (by omega), if_neg (by omega), if_neg (by omega), if_neg (by omega)]
        exact h.b q hq i a b
    · rw [if_neg (by omega), if_neg (by omega), if_neg (by omega), if_neg (by omega), if_neg (by omega), if_neg (by omega), if_neg (by omega), if_neg (by omega), if_neg (by omega), if_neg (by omega)]
      exact h.b q hq i a b
  · intro q hq
    by_cases e : q = k
    · left
      rw [zBeg_y (by omega) (by omega), sBeg_y (by omega) (by omega), sEmp_rd, zEmp_rd]
      constructor <;> simp [e]
    · have y6 : ∀ i, sBeg k v s c m Y 6 q i = Y 6 q i := fun i => by rw [sBeg_y (by omega) (by omega), sEmp_y (by omega)]
      have z6 : ∀ i, zCom f (wr (wr (zEmp k Z) 2 0 1 (nI k)) 2 0 2 m) 6 q i = Z 6 q i := fun i => by rw [zBeg_y (by omega) (by omega), zEmp_no (by omega) (by omega)]
      rw [y6, z6]
      rcases h.c q hq with w | ⟨w1, w2⟩
      · exact Or.inl w
      · exact Or.inr ⟨w1, fun i a b => by rw [y6, z6]; exact w2 i a b⟩
  · intro i a b
    have : i = 1 ∨ i = 2 ∨ i = 3 ∨ i = 4 ∨ i = 5 := by omega
    rcases this with rfl | rfl | rfl | rfl | rfl <;> simp [zCom, sBeg, sImg, wr_rd, f0, f1, f2, f3, f4]
-- spoil
theorem rl.w6 {n k i : Nat} {Y Z : pY} (h : rl n Y Z) (hn : n ≤ 6) (v : Int32) (hk : k < n) (h2 : 2 ≤ i) : rl n (wr Y 6 k i v) (wr Z 6 k i v) := by
  refine ⟨h.a.of (fun _ _ _ => wr_y _ _ _ _ _ (by omega)) (fun _ _ _ => wr_y _ _ _ _ _ (by omega)), h.b.of (fun _ _ _ _ => wr_y _ _ _ _ _ (by omega)) (fun _ _ _ _ => wr_y _ _ _ _ _ (by omega)), ?_, h.d.of (wr_y _ _ _ _ _ (by omega)) (wr_y _ _ _ _ _ (by omega)) (fun _ _ _ => wr_y _ _ _ _ _ (by omega)) (wr_y _ _ _ _ _ (by omega)) (wr_y _ _ _ _ _ (by omega)) (fun _ _ _ => wr_y _ _ _ _ _ (by omega)), h.e.of (fun _ _ => wr_y _ _ _ _ _ (by omega)) (fun _ _ _ => wr_y _ _ _ _ _ (by omega)), h.f.of (wr_y _ _ _ _ _ (by omega)) (fun _ _ _ _ => wr_y _ _ _ _ _ (by omega)) (wr_y _ _ _ _ _ (by omega)) (wr_y _ _ _ _ _ (by omega)) (fun _ _ _ => wr_y _ _ _ _ _ (by omega))⟩
  intro q hq
  rw [wr_y Y _ _ _ _ (by omega), wr_y Z _ _ _ _ (by omega)]
  rcases h.c q hq with w | ⟨w1, w2⟩
  · exact Or.inl w
  · refine Or.inr ⟨w1, fun a b d => ?_⟩
    rw [wr_rd, wr_rd]
    split
    · rfl
    · exact w2 a b d
theorem rl.w66 {n i : Nat} {Y Z : pY} (h : rl n Y Z) (hn : n ≤ 6) (v : Int32) : rl n (wr Y 6 6 i v) (wr Z 13 0 i v) := by
  refine ⟨h.a.of (fun _ _ _ => wr_y _ _ _ _ _ (by omega)) (fun _ _ _ => wr_y _ _ _ _ _ (by omega)), h.b.of (fun _ _ _ _ => wr_y _ _ _ _ _ (by omega)) (fun _ _ _ _ => wr_y _ _ _ _ _ (by omega)), h.c.of (fun _ _ _ _ => wr_y _ _ _ _ _ (by omega)) (fun _ _ _ _ _ => wr_y _ _ _ _ _ (by omega)), ?_, h.e.of (fun _ _ => wr_y _ _ _ _ _ (by omega)) (fun _ _ _ => wr_y _ _ _ _ _ (by omega)), h.f.of (wr_y _ _ _ _ _ (by omega)) (fun _ _ _ _ => wr_y _ _ _ _ _ (by omega)) (wr_y _ _ _ _ _ (by omega)) (wr_y _ _ _ _ _ (by omega)) (fun _ _ _ => wr_y _ _ _ _ _ (by omega))⟩
  refine ⟨by rw [wr_y _ _ _ _ _ (by omega), wr_y _ _ _ _ _ (by omega)]; exact h.d.1, fun q => ?_⟩
  rw [wr_y _ _ _ _ _ (by omega)] at q
  obtain ⟨d1, d2⟩ := h.d.2 q
  refine ⟨by rw [wr_y _ _ _ _ _ (by omega), wr_y _ _ _ _ _ (by omega)]; exact d1, fun a b d => ?_⟩
  rw [wr_rd, wr_rd]
  by_cases e : a = i
  · rw [if_pos ⟨rfl, rfl, e⟩, if_pos ⟨rfl, rfl, e⟩]
  · rw [if_neg (by omega), if_neg (by omega)]
    exact d2 a b d
theorem sSpo_0 {u : Nat} {Y : pY} : sSpo u 0 Y = wr Y 6 u 4 1 ∧ sSpoA u 0 Y = 1 + 2 * Y 6 u 5 := by
  unfold sSpo sSpoA
  rw [if_neg (show ¬ (0 : Int32) = 1 by decide), if_pos rfl]
  refine ⟨?_, rfl⟩
  rw [wr_id (wr Y 6 u 4 1) (a := 6) (b := u) (c := 5) (by rw [wr_y _ _ _ _ _ (by omega)])]
theorem sSpo_1 {u : Nat} {Y : pY} : sSpo u 1 Y = wr Y 6 u 5 1 ∧ sSpoA u 1 Y = Y 6 u 4 + 2 * 1 := by
  unfold sSpo sSpoA
  rw [if_pos rfl, if_neg (show ¬ (1 : Int32) = 0 by decide)]
  refine ⟨?_, rfl⟩
  rw [wr_id Y (a := 6) (b := u) (c := 4) rfl]
theorem sSpo_2 {u : Nat} {Y : pY} : sSpo u 2 Y = wr (wr Y 6 u 4 1) 6 u 5 1 ∧ sSpoA u 2 Y = 1 + 2 * 1 := by
  unfold sSpo sSpoA
  rw [if_neg (show ¬ (2 : Int32) = 1 by decide), if_neg (show ¬ (2 : Int32) = 0 by decide)]
  exact ⟨rfl, rfl⟩
