/-- slot u's image, or the install's (u = 6), is spoilt -/
def sSpo (u : Nat) (h : Int32) (Y : pY) : pY := wr (wr Y 6 u 4 (if h = 1 then Y 6 u 4 else 1)) 6 u 5 (if h = 0 then Y 6 u 5 else 1)
def sSpoA (u : Nat) (h : Int32) (Y : pY) : Int32 := (if h = 1 then Y 6 u 4 else 1) + 2 * (if h = 0 then Y 6 u 5 else 1)
theorem qX8_bit {a : Int32} {X : bsX} (h : is01 a) : fX8_bit a X = some (a, X) := by
  unfold fX8_bit
  rcases h with rfl | rfl
  · rfl
  · rfl
theorem is01_ite {p : Prop} [Decidable p] {a b : Int32} (h1 : is01 a) (h2 : is01 b) : is01 (if p then a else b) := by
  by_cases e : p
  · rw [if_pos e]; exact h1
  · rw [if_neg e]; exact h2
theorem qX8_spo {u : Nat} {h : Int32} {R : bsX} (h4 : is01 (R 0 6 u 4)) (h5 : is01 (R 0 6 u 5)) :
    (if (R 0 6 u 4) = 0 then (if h = (1 : Int32) then (fX8_spoil_102 h u u (0 : Int32) R) else (fX8_spoil_97 h u u R)) else (fX8_spoil_97 h u u R)) = some (0, sSpoA u h (R 0), up R 0 (sSpo u h (R 0))) := by
  have c10 : ¬ (1 : Int32) = 0 := by decide
  have o1 : is01 (1 : Int32) := Or.inr rfl
  have key : ∀ y : Int32, is01 y → y = (if h = 1 then R 0 6 u 4 else 1) → fX8_spoil_102 h u u y R = some (0, sSpoA u h (R 0), up R 0 (sSpo u h (R 0))) := by
    intro y hy he
    have hd : is01 (if h = 0 then R 0 6 u 5 else 1) := is01_ite h5 o1
    have key2 : ∀ z : Int32, z = (if h = 0 then R 0 6 u 5 else 1) → fX8_spoil_124 u u z (bsWr R 0 6 u 4 y) = some (0, sSpoA u h (R 0), up R 0 (sSpo u h (R 0))) := by
      intro z hz
      have hz1 : is01 z := by rw [hz]; exact hd
      have a4 : (bsWr (bsWr R 0 6 u 4 y) 0 6 u 5 z) 0 6 u 4 = y := by simp [b2_t, b2_f, up_at, up_up, up_id, bsWr]
      have a5 : (bsWr (bsWr R 0 6 u 4 y) 0 6 u 5 z) 0 6 u 5 = z := by simp [b2_t, b2_f, up_at, up_up, up_id, bsWr]
      unfold fX8_spoil_124
      rw [if_pos (show z = 0 ∨ z = 1 from hz1), a4, qX8_bit hy]
      simp only [Option.bind_some, a5]
      rw [qX8_bit hz1]
      simp only [Option.bind_some]
      unfold sSpoA sSpo
      rw [← he, ← hz, up_wr, up_wr, up_at, up_up]
    have a5 : (bsWr R 0 6 u 4 y) 0 6 u 5 = R 0 6 u 5 := by simp [b2_t, b2_f, up_at, up_up, up_id, bsWr]
    unfold fX8_spoil_102 fX8_spoil_119
    rw [if_pos (show y = 0 ∨ y = 1 from hy), a5]
    by_cases e5 : R 0 6 u 5 = 0
    · rw [if_pos e5]
      by_cases e0 : h = 0
      · rw [if_pos e0]; exact key2 0 (by rw [if_pos e0, e5])
      · rw [if_neg e0]; exact key2 1 (by rw [if_neg e0])
    · rw [if_neg e5]
      have e51 : R 0 6 u 5 = 1 := h5.resolve_left e5
      exact key2 1 (by by_cases e0 : h = 0
                       · rw [if_pos e0, e51]
                       · rw [if_neg e0])
  unfold fX8_spoil_97
  by_cases e4 : R 0 6 u 4 = 0
  · rw [if_pos e4]
    by_cases e1 : h = 1
    · rw [if_pos e1]; exact key 0 (Or.inl rfl) (by rw [if_pos e1, e4])
    · rw [if_neg e1]; exact key 1 o1 (by rw [if_neg e1])
  · rw [if_neg e4]
    have e41 : R 0 6 u 4 = 1 := h4.resolve_left e4
    exact key 1 o1 (by by_cases e1 : h = 1
                       · rw [if_pos e1, e41]
                       · rw [if_neg e1])
theorem q9_spo94 {h : Int32} {p : Nat} (hp : p + 1 < 160) {X : bsX} {R : Nat → Int32} :
    fX9_spoil_94 h (nI p) (ro X R) = some ((if h = 1 then R p else 1) + 2 * (if h = 0 then R (p + 1) else 1), ro X (pt (pt R p (if h = 1 then R p else 1)) (p + 1) (if h = 0 then R (p + 1) else 1))) := by
  have b0 : bsIn (nI p) 160 = True := pu_inT (by omega) (by decide)
  have b1 : bsIn (nI (p + 1)) 160 = True := pu_inT (by omega) (by decide)
  have x0 : bsIx (nI p) = p := pu_ix p (by omega)
  have x1 : bsIx (nI (p + 1)) = p + 1 := pu_ix (p + 1) (by omega)
  have e1 : ∀ v, pt R p v (p + 1) = R (p + 1) := by intro v; unfold pt; rw [if_neg (by omega)]
  have e2 : ∀ v w, pt (pt R p v) (p + 1) w p = v := by intro v w; unfold pt; rw [if_neg (by omega), if_pos rfl]
  have e3 : ∀ v w, pt (pt R p v) (p + 1) w (p + 1) = w := by intro v w; unfold pt; rw [if_pos rfl]
  unfold fX9_spoil_94 fX9_spoil_118 fX9_spoil_144
  simp only [pu_succ, b0, b1, x0, x1, if_true, ro_rd, ro_wr, e1, e2, e3]
  by_cases h1 : h = 1
  · have h0 : ¬ h = 0 := by rw [h1]; decide
    simp only [h1, if_true]
    have h0' : ¬ (1 : Int32) = 0 := by decide
    simp only [h0', if_false, e2, e3]
  · simp only [h1, if_false]
    by_cases h0 : h = 0
    · simp only [h0, if_true, e1, e2, e3]
    · simp only [h0, if_false, e2, e3]
theorem rw_slot4 {k : Nat} (hk : k < 6) {Y : pY} {a b c v : Int32} : pt (row Y a b c) (80 + 13 * k + 11) v = row (wr Y 6 k 4 v) a b c :=
  rw_put (K := 6) (i := 4) hk (by decide) (by decide) (by
    intro k2 w2 _ hw2
    revert w2
    refine eS_cases ?_ ?_ ?_ ?_ ?_ ?_ ?_ ?_ ?_ ?_ ?_ ?_ ?_ <;> simp [b2_t, b2_f, up_at, up_up, up_id, eS, wr_rd])
theorem rw_slot5 {k : Nat} (hk : k < 6) {Y : pY} {a b c v : Int32} : pt (row Y a b c) (80 + 13 * k + 12) v = row (wr Y 6 k 5 v) a b c :=
  rw_put (K := 6) (i := 5) hk (by decide) (by decide) (by
    intro k2 w2 _ hw2
    revert w2
    refine eS_cases ?_ ?_ ?_ ?_ ?_ ?_ ?_ ?_ ?_ ?_ ?_ ?_ ?_ <;> simp [b2_t, b2_f, up_at, up_up, up_id, eS, wr_rd])
theorem rw_inst {Y : pY} {a b c u d : Int32} (hi : Y 2 0 1 ≠ -1) : pt (pt (row Y a b c) 25 u) 26 d = row (wr (wr Y 6 6 4 u) 6 6 5 d) a b c := by
  funext i
  have hE : ∀ i, eN (wr (wr Y 6 6 4 u) 6 6 5 d) i = if i = 26 then d else if i = 25 then u else eN Y i := by
    intro i
    refine eN_cases (P := fun i => eN (wr (wr Y 6 6 4 u) 6 6 5 d) i = if i = 26 then d else if i = 25 then u else eN Y i) (fun q hq => by rw [eN_big hq, eN_big hq]; repeat rw [if_neg (by omega)]) ?_ ?_ ?_ ?_ ?_ ?_ ?_ ?_ ?_ ?_ ?_ ?_ ?_ ?_ ?_ ?_ ?_ ?_ ?_ ?_ ?_ ?_ ?_ ?_ ?_ ?_ ?_ ?_ ?_ i
    all_goals simp [b2_t, b2_f, up_at, up_up, up_id, eN, wr_rd, hi]
  unfold pt row
  rw [hE i, eL_wr (by omega) (by omega), eL_wr (by omega) (by omega)]
  by_cases h25 : i = 25
  · subst h25; simp [b2_t, b2_f, up_at, up_up, up_id]
  · by_cases h26 : i = 26
    · subst h26; simp [b2_t, b2_f, up_at, up_up, up_id]
    · simp only [h25, h26, if_false]
      by_cases d80 : 80 ≤ i ∧ i < 158
      · rw [eS_wr6 (by omega), eS_wr6 (by omega)]
      · simp only [d80, if_false]
theorem sSpo_rd {u : Nat} {h : Int32} {Y : pY} {K j i : Nat} : sSpo u h Y K j i = if K = 6 ∧ j = u ∧ i = 5 then (if h = 0 then Y 6 u 5 else 1) else if K = 6 ∧ j = u ∧ i = 4 then (if h = 1 then Y 6 u 4 else 1) else Y K j i := rfl
theorem enc_spo (u : Nat) (h : Int32) (Y : pY) : row (sSpo u h Y) (sSt Y) (Y 0 0 11) (Y 0 0 12) = enc (sSpo u h Y) := by
  unfold enc sSt
  simp [b2_t, b2_f, up_at, up_up, up_id, sSpo_rd]
theorem q9_spoS {k : Nat} (hk : k < 6) {h : Int32} {X : bsX} {Y : pY} : fX9_spoil_94 h (((80 : Int32) + ((13 : Int32) * nI k)) + (11 : Int32)) (ro X (enc Y)) = some (sSpoA k h Y, ro X (enc (sSpo k h Y))) := by
  have ha : ((80 : Int32) + ((13 : Int32) * nI k)) + (11 : Int32) = nI (80 + 13 * k + 11) := rw_adr k 11
  have r11 : enc Y (80 + 13 * k + 11) = Y 6 k 4 := rw_at (w := 11) hk (by decide)
  have r12 : enc Y (80 + 13 * k + 11 + 1) = Y 6 k 5 := rw_at (w := 12) hk (by decide)
  rw [ha, q9_spo94 (by omega), r11, r12, ← enc_spo]
  unfold enc
  rw [rw_slot4 hk]
  have := rw_slot5 hk (Y := wr Y 6 k 4 (if h = 1 then Y 6 k 4 else 1)) (a := sSt Y) (b := Y 0 0 11) (c := Y 0 0 12) (v := if h = 0 then Y 6 k 5 else 1)
  rw [show 80 + 13 * k + 11 + 1 = 80 + 13 * k + 12 from rfl, this]
  rfl
theorem q9_spoI {h : Int32} {X : bsX} {Y : pY} (hi : Y 2 0 1 ≠ -1) : fX9_spoil_94 h (25 : Int32) (ro X (enc Y)) = some (sSpoA 6 h Y, ro X (enc (sSpo 6 h Y))) := by
  have r11 : enc Y 25 = Y 6 6 4 := if_neg hi
  have r12 : enc Y (25 + 1) = Y 6 6 5 := if_neg hi
  rw [show (25 : Int32) = nI 25 from rfl, q9_spo94 (by decide), r11, r12, ← enc_spo]
  unfold enc
  rw [rw_inst hi]
  rfl
theorem wm_spo {Q n t k : Nat} {Y : pY} {v : Int32} (h : wm Q n t Y) (hk : k < n) (hp : Y 6 k 0 ≠ 0) : wm Q n t (sSpo k v Y) := by
  have h6 := h.hn
  have o1 : is01 (1 : Int32) := Or.inr rfl
  have e6 : ¬ 6 = k := by omega
  refine h.of (by simp [b2_t, b2_f, up_at, up_up, up_id, sSpo_rd]) (by simpa [b2_t, b2_f, up_at, up_up, up_id, sSpo_rd] using h.flo) (by simpa [b2_t, b2_f, up_at, up_up, up_id, sSpo_rd] using h.tim) (by simpa [b2_t, b2_f, up_at, up_up, up_id, sSpo_rd] using h.age) (by simpa [b2_t, b2_f, up_at, up_up, up_id, sSpo_rd] using h.tot) (by simp [b2_t, b2_f, up_at, up_up, up_id, sSpo_rd, e6]) ?_ (by simp [b2_t, b2_f, up_at, up_up, up_id, sSpo_rd]) (fun q h1 h2 => by simpa [b2_t, b2_f, up_at, up_up, up_id, sSpo_rd] using (h.hi q h1 h2).2) (by simp [b2_t, b2_f, up_at, up_up, up_id, sSpo_rd]) (Nat.le_refl _)
  intro q hq
  have hs := h.sl q hq
  by_cases e : q = k
  · subst e
    have a4 : is01 (if v = 1 then Y 6 q 4 else 1) := is01_ite hs.2.1 o1
    have a5 : is01 (if v = 0 then Y 6 q 5 else 1) := is01_ite hs.2.2.1 o1
    simp_all [wS, sSpo_rd]
  · simpa [b2_t, b2_f, up_at, up_up, up_id, wS, sSpo_rd, e] using hs
theorem wm_spo6 {Q n t : Nat} {Y : pY} {v : Int32} (h : wm Q n t Y) : wm Q n t (sSpo 6 v Y) := by
  have h6 := h.hn
  have o1 : is01 (1 : Int32) := Or.inr rfl
  have a4 : is01 (if v = 1 then Y 6 6 4 else 1) := is01_ite h.pim.2.1 o1
  have a5 : is01 (if v = 0 then Y 6 6 5 else 1) := is01_ite h.pim.2.2 o1
  have r0 : ∀ K i, K ≠ 6 → sSpo 6 v Y K 0 i = Y K 0 i := by intro K i a; simp [b2_t, b2_f, up_at, up_up, up_id, sSpo_rd, a]
  have r5 : ∀ q i, sSpo 6 v Y 5 q i = Y 5 q i := by intro q i; simp [b2_t, b2_f, up_at, up_up, up_id, sSpo_rd]
  have r6 : ∀ q i, q < 6 → sSpo 6 v Y 6 q i = Y 6 q i := by
    intro q i hq
    have : ¬ q = 6 := by omega
    simp [b2_t, b2_f, up_at, up_up, up_id, sSpo_rd, this]
  have p0 : ∀ i, i ≠ 4 → i ≠ 5 → sSpo 6 v Y 6 6 i = Y 6 6 i := by intro i a b; simp [b2_t, b2_f, up_at, up_up, up_id, sSpo_rd, a, b]
  have p4 : sSpo 6 v Y 6 6 4 = if v = 1 then Y 6 6 4 else 1 := by simp [b2_t, b2_f, up_at, up_up, up_id, sSpo_rd]
  have p5 : sSpo 6 v Y 6 6 5 = if v = 0 then Y 6 6 5 else 1 := by simp [b2_t, b2_f, up_at, up_up, up_id, sSpo_rd]
  refine ⟨h.hn, ?_, ?_, ?_, ?_, ?_, ?_, ?_, ?_, ?_, ?_, ?_, ?_, ?_, ?_, ?_⟩
  · rw [r0 0 4 (by decide)]; exact h.sz
  · intro q hq
    have hs := h.sl q hq
    unfold wS at hs ⊢
    simp only [r5, r6 q _ hq]
    exact hs
  · intro q q1 q2
    have := h.hi q q1 q2
    simp only [r5, r6 q _ q2]
    exact this
  · rw [r0 0 10 (by decide)]; exact h.on
  · rw [r0 0 10 (by decide), r0 0 11 (by decide)]
    rcases h.run with e | ⟨r, a1, a2, a3, b⟩
    · exact Or.inl e
    · exact Or.inr ⟨r, a1, a2, a3, by rw [r6 r 0 (by omega)]; exact b⟩
  · rw [r0 0 5 (by decide)]; exact h.wat
  · rw [r0 0 6 (by decide)]; exact h.lim
  · rw [r0 0 7 (by decide)]; exact h.ret
  · rw [r0 0 8 (by decide)]; exact h.flo
  · rw [r0 0 9 (by decide)]; exact h.tim
  · rw [r0 0 12 (by decide)]; exact h.age
  · rw [r0 3 4 (by decide)]; exact h.tot
  · rw [p0 0 (by decide) (by decide), p4, p5]; exact ⟨h.pim.1, a4, a5⟩
  · rw [r0 2 1 (by decide), r0 2 2 (by decide), r0 2 3 (by decide), p0 0 (by decide) (by decide), p0 1 (by decide) (by decide), p0 2 (by decide) (by decide), p0 3 (by decide) (by decide), p4, p5, r0 0 10 (by decide), r0 0 11 (by decide)]
    rcases h.ins with e | ⟨z, z1, z2, z3, z4, z5, z6, z7, z8, z9, z10, z11, z12, z13⟩
    · exact Or.inl e
    · exact Or.inr ⟨z, z1, z2, z3, z4, z5, a4, a5, z8, z9, z10, z11, by rw [r6 z 0 (by omega)]; exact z12, z13⟩
  · intro i hi
    rw [r0 7 i (by decide), r0 8 i (by decide), r0 10 i (by decide)]
    exact h.log i hi
