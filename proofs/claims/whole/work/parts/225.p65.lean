/-! APPEND -/
theorem and_255 {x y : Int32} (h : ∀ i, i < 8 → x.toBitVec.getLsbD i = y.toBitVec.getLsbD i) : x &&& 255 = y &&& 255 := by
  apply Int32.toBitVec.inj
  rw [Int32.toBitVec_and, Int32.toBitVec_and]
  apply BitVec.eq_of_getLsbD_eq
  intro i hi
  rw [BitVec.getLsbD_and, BitVec.getLsbD_and]
  by_cases h8 : i < 8
  · rw [h i h8]
  · have e : (255 : Int32).toBitVec.getLsbD i = false := by
      have : ∀ i, i < 32 → ¬ i < 8 → (255 : Int32).toBitVec.getLsbD i = false := by decide
      exact this i hi h8
    rw [e, Bool.and_false, Bool.and_false]
def byC (a : Int32) (s : Nat) : Int32 := vp_nar .byte (((a.toUInt32 >>> ((nI s).toUInt32 &&& Int32.toUInt32 31)).toInt32).toInt8.toInt32)
def byR (a : Int32) (s : Nat) : Int32 := (a >>> (nI s &&& 31)) &&& 255
theorem byC_eq (a : Int32) {s : Nat} (hs : s = 24 ∨ s = 16 ∨ s = 8 ∨ s = 0) : byC a s &&& 255 = byR a s := by
  unfold byC byR
  rw [vp_nar_byte]
  apply and_255
  intro i hi
  have i32 : i < 32 := by omega
  have i32' : ¬ 32 ≤ i := by omega
  rcases hs with rfl | rfl | rfl | rfl
  · have e1 : (nI 24).toUInt32 &&& Int32.toUInt32 31 = 24 := by decide
    have e2 : nI 24 &&& 31 = 24 := by decide
    have i3 : 24 + i < 32 := by omega
    rw [e1, e2]
    simp [b2_t, b2_f, up_at, up_up, up_id, BitVec.getLsbD_signExtend, BitVec.getLsbD_setWidth, BitVec.getLsbD_ushiftRight, BitVec.getLsbD_sshiftRight, BitVec.getElem_signExtend, BitVec.getElem_sshiftRight, hi, i32, i32', i3]
  · have e1 : (nI 16).toUInt32 &&& Int32.toUInt32 31 = 16 := by decide
    have e2 : nI 16 &&& 31 = 16 := by decide
    have i3 : 16 + i < 32 := by omega
    rw [e1, e2]
    simp [b2_t, b2_f, up_at, up_up, up_id, BitVec.getLsbD_signExtend, BitVec.getLsbD_setWidth, BitVec.getLsbD_ushiftRight, BitVec.getLsbD_sshiftRight, BitVec.getElem_signExtend, BitVec.getElem_sshiftRight, hi, i32, i32', i3]
  · have e1 : (nI 8).toUInt32 &&& Int32.toUInt32 31 = 8 := by decide
    have e2 : nI 8 &&& 31 = 8 := by decide
    have i3 : 8 + i < 32 := by omega
    rw [e1, e2]
    simp [b2_t, b2_f, up_at, up_up, up_id, BitVec.getLsbD_signExtend, BitVec.getLsbD_setWidth, BitVec.getLsbD_ushiftRight, BitVec.getLsbD_sshiftRight, BitVec.getElem_signExtend, BitVec.getElem_sshiftRight, hi, i32, i32', i3]
  · have e1 : (nI 0).toUInt32 &&& Int32.toUInt32 31 = 0 := by decide
    have e2 : nI 0 &&& 31 = 0 := by decide
    rw [e1, e2]
    simp [b2_t, b2_f, up_at, up_up, up_id, BitVec.getLsbD_signExtend, BitVec.getLsbD_setWidth, BitVec.getLsbD_ushiftRight, BitVec.getLsbD_sshiftRight, BitVec.getElem_signExtend, hi, i32, i32']
/-- the class behind k bytes more -/
def apC (X : bsX) (f : Nat) (v : Nat → Int32) (k : Nat) : bsX := fun a b c d => if a = 13 ∧ b = 1 ∧ c = 0 ∧ d = 3 then nI (f + k) else if a = 13 ∧ b = 6 ∧ c = 0 ∧ f ≤ d ∧ d < f + k then v (d - f) else X a b c d
def apR (X : bsX) (f : Nat) (v : Nat → Int32) (k : Nat) : bsX := fun a b c d => if a = 14 ∧ b = 4 ∧ c = 0 ∧ f ≤ d ∧ d < f + k then v (d - f) else X a b c d
theorem apC_3 (X : bsX) (f : Nat) (v : Nat → Int32) (k : Nat) : apC X f v k 13 1 0 3 = nI (f + k) := by unfold apC; rw [if_pos ⟨rfl, rfl, rfl, rfl⟩]
theorem apC_step {X : bsX} {f k : Nat} {v : Nat → Int32} : bsWr (bsWr (apC X f v k) 13 6 0 (f + k) (v k)) 13 1 0 3 (nI (f + k + 1)) = apC X f v (k + 1) := by
  funext a b c d
  unfold bsWr apC
  by_cases e1 : a = 13 ∧ b = 1 ∧ c = 0 ∧ d = 3
  · rw [if_pos e1, if_pos e1, Nat.add_assoc]
  · simp only [e1, if_false]
    by_cases e2 : a = 13 ∧ b = 6 ∧ c = 0 ∧ d = f + k
    · rw [if_pos e2, if_pos (by omega), e2.2.2.2, Nat.add_sub_cancel_left]
    · rw [if_neg e2]
      by_cases e3 : a = 13 ∧ b = 6 ∧ c = 0 ∧ f ≤ d ∧ d < f + k
      · rw [if_pos e3, if_pos (by omega)]
      · rw [if_neg e3, if_neg (by omega)]
theorem apR_step {X : bsX} {f k : Nat} {v : Nat → Int32} : bsWr (apR X f v k) 14 4 0 (f + k) (v k) = apR X f v (k + 1) := by
  funext a b c d
  unfold bsWr apR
  by_cases e2 : a = 14 ∧ b = 4 ∧ c = 0 ∧ d = f + k
  · rw [if_pos e2, if_pos (by omega), e2.2.2.2, Nat.add_sub_cancel_left]
  · rw [if_neg e2]
    by_cases e3 : a = 14 ∧ b = 4 ∧ c = 0 ∧ f ≤ d ∧ d < f + k
    · rw [if_pos e3, if_pos (by omega)]
    · rw [if_neg e3, if_neg (by omega)]
theorem four_step {X : bsX} {f k m s : Nat} {a : Int32} {v : Nat → Int32} {y : Int32} (hs : s ≤ 24) (hf : f + k < 600) (hv : v k = byC a s) (hy : nI s + (-8 : Int32) = y) :
    fX4_addFour_3 (m + 1) a (nI s) (apC X f v k) = fX4_addFour_3 m a y (apC X f v (k + 1)) := by
  have r3 := apC_3 X f v k
  have r4 : ∀ w, bsWr (apC X f v k) 13 6 0 (f + k) w 13 1 0 3 = nI (f + k) := by intro w; unfold bsWr; rw [if_neg (by omega)]; exact r3
  have hb : vp_nar .byte (((a.toUInt32 >>> ((nI s).toUInt32 &&& Int32.toUInt32 31)).toInt32).toInt8.toInt32) = v k := by rw [hv]; rfl
  rw [fX4_addFour_3, if_neg (pu_neg s (by omega)), r3, if_neg (pu_neg _ (by omega)), if_neg (show ¬ (600 : Int32) ≤ nI (f + k) from fun q => by have := (pu_le 600 (f + k) (by omega) (by decide)).mp q; omega), if_pos ((pu_in _ 600 (by omega)).mpr hf), pu_ix _ (by omega), r4, pu_succ, hb, apC_step]
  unfold fX4_addFour_47
  rw [hy]
theorem four_ok {X : bsX} {f k : Nat} {a : Int32} {v : Nat → Int32} (hf : f + k + 4 ≤ 600) (h0 : v k = byC a 24) (h1 : v (k + 1) = byC a 16) (h2 : v (k + 2) = byC a 8) (h3 : v (k + 3) = byC a 0) :
    fX4_addFour a (apC X f v k) = some (apC X f v (k + 4)) := by
  obtain ⟨m, hm⟩ := bsF_5
  unfold fX4_addFour
  rw [hm, show (24 : Int32) = nI 24 from rfl, four_step (s := 24) (y := nI 16) (by omega) (by omega) h0 (by decide), four_step (s := 16) (y := nI 8) (by omega) (by omega) h1 (by decide), four_step (s := 8) (y := nI 0) (by omega) (by omega) h2 (by decide), four_step (s := 0) (y := -8) (by omega) (by omega) h3 (by decide), fX4_addFour_3, if_pos (show (-8 : Int32) < 0 by decide)]
def five (a b c d e : Int32) (q : Nat) : Int32 := if q = 0 then a else if q = 1 then b else if q = 2 then c else if q = 3 then d else e
theorem sh_cases (k : Nat) : 24 - 8 * (k % 4) = 24 ∨ 24 - 8 * (k % 4) = 16 ∨ 24 - 8 * (k % 4) = 8 ∨ 24 - 8 * (k % 4) = 0 := by omega
theorem app_step {X : bsX} {f k m : Nat} {a b c d e : Int32} (hk : k < 20) (h7 : X 14 0 0 7 = nI f) (hf : f + 20 ≤ 600) :
    fX9_append_23 (m + 1) a b c d e (nI k) (apR X f (fun i => byR (five a b c d e (i / 4)) (24 - 8 * (i % 4))) k) = fX9_append_23 m a b c d e (nI (k + 1)) (apR X f (fun i => byR (five a b c d e (i / 4)) (24 - 8 * (i % 4))) (k + 1)) := by
  have h76 : ∀ y0, y0 = five a b c d e (k / 4) → fX9_append_76 (fX9_append_23 m) a b c d e (nI k) y0 (apR X f (fun i => byR (five a b c d e (i / 4)) (24 - 8 * (i % 4))) k) = fX9_append_23 m a b c d e (nI (k + 1)) (apR X f (fun i => byR (five a b c d e (i / 4)) (24 - 8 * (i % 4))) (k + 1)) := by
    intro y0 hy
    have r7 : apR X f (fun i => byR (five a b c d e (i / 4)) (24 - 8 * (i % 4))) k 14 0 0 7 = nI f := by unfold apR; rw [if_neg (by omega)]; exact h7
    have hsh : (24 : Int32) - ((8 : Int32) * (nI k - nI k / (4 : Int32) * (4 : Int32))) = nI (24 - 8 * (k % 4)) := by
      rw [show (4 : Int32) = nI 4 from rfl, pu_div k 4 (by omega) (by decide) (by decide), pu_mul, pu_sub _ _ (Nat.div_mul_le_self k 4), show (8 : Int32) = nI 8 from rfl, pu_mul, show (24 : Int32) = nI 24 from rfl, pu_sub _ _ (by omega)]
      congr 1; omega
    have hb : (y0 >>> (((24 : Int32) - ((8 : Int32) * (nI k - nI k / (4 : Int32) * (4 : Int32)))) &&& 31)) &&& (255 : Int32) = (fun i => byR (five a b c d e (i / 4)) (24 - 8 * (i % 4))) k := by
      rw [hsh, hy]; rfl
    unfold fX9_append_76
    rw [r7, pu_add, if_pos ((pu_in _ 600 (by omega)).mpr (by omega)), pu_ix _ (by omega), hb, apR_step, pu_succ]
  have le : ∀ q : Nat, q < 1000 → ((nI q ≤ nI k) ↔ q ≤ k) := fun q hq => pu_le q k (by omega) (by omega)
  rw [fX9_append_23, if_neg (show ¬ (20 : Int32) ≤ nI k from fun q => by have := (le 20 (by decide)).mp q; omega)]
  by_cases c4 : 4 ≤ k
  · rw [if_pos (show (4 : Int32) ≤ nI k from (le 4 (by decide)).mpr c4)]
    by_cases c8 : 8 ≤ k
    · rw [if_pos (show (8 : Int32) ≤ nI k from (le 8 (by decide)).mpr c8)]
      by_cases c12 : 12 ≤ k
      · rw [if_pos (show (12 : Int32) ≤ nI k from (le 12 (by decide)).mpr c12)]
        by_cases c16 : 16 ≤ k
        · rw [if_pos (show (16 : Int32) ≤ nI k from (le 16 (by decide)).mpr c16)]
          exact h76 e (by unfold five; rw [if_neg (by omega), if_neg (by omega), if_neg (by omega), if_neg (by omega)])
        · rw [if_neg (show ¬ (16 : Int32) ≤ nI k from fun q => c16 ((le 16 (by decide)).mp q))]
          exact h76 d (by unfold five; rw [if_neg (by omega), if_neg (by omega), if_neg (by omega), if_pos (by omega)])
      · rw [if_neg (show ¬ (12 : Int32) ≤ nI k from fun q => c12 ((le 12 (by decide)).mp q))]
        exact h76 c (by unfold five; rw [if_neg (by omega), if_neg (by omega), if_pos (by omega)])
    · rw [if_neg (show ¬ (8 : Int32) ≤ nI k from fun q => c8 ((le 8 (by decide)).mp q))]
      exact h76 b (by unfold five; rw [if_neg (by omega), if_pos (by omega)])
  · rw [if_neg (show ¬ (4 : Int32) ≤ nI k from fun q => c4 ((le 4 (by decide)).mp q))]
    exact h76 a (by unfold five; rw [if_pos (by omega)])
theorem app_loop {X : bsX} {f : Nat} {a b c d e : Int32} (h7 : X 14 0 0 7 = nI f) (hf : f + 20 ≤ 600) : ∀ (q k m : Nat), k + q = 20 → q < m →
    fX9_append_23 m a b c d e (nI k) (apR X f (fun i => byR (five a b c d e (i / 4)) (24 - 8 * (i % 4))) k) = some (nI (f + 20), bsWr (apR X f (fun i => byR (five a b c d e (i / 4)) (24 - 8 * (i % 4))) 20) 14 0 0 7 (nI (f + 20))) := by
  intro q
  induction q with
  | zero =>
    intro k m hk hm
    obtain ⟨m, rfl⟩ : ∃ z, m = z + 1 := ⟨m - 1, by omega⟩
    obtain rfl : k = 20 := by omega
    have r7 : apR X f (fun i => byR (five a b c d e (i / 4)) (24 - 8 * (i % 4))) 20 14 0 0 7 = nI f := by unfold apR; rw [if_neg (by omega)]; exact h7
    have ha : nI f + (20 : Int32) = nI (f + 20) := pu_add f 20
    rw [fX9_append_23, if_pos (show (20 : Int32) ≤ nI 20 by decide), r7, ha]
    congr 2
  | succ q ih =>
    intro k m hk hm
    obtain ⟨m, rfl⟩ : ∃ z, m = z + 1 := ⟨m - 1, by omega⟩
    rw [app_step (by omega) h7 hf]
    exact ih (k + 1) m (by omega) (by omega)
theorem sim_append_ok : sim_append Inv := by
  intro j X a b c d e hj h
  obtain ⟨f, f1, f2, f3, f4, f5, f6⟩ := h.2.2.2.2.2.2.2.1
  have t20 : nI f + (20 : Int32) = nI (f + 20) := pu_add f 20
  have hle : (nI (f + 20) ≤ (600 : Int32)) ↔ f + 20 ≤ 600 := pu_le (f + 20) 600 (by decide) (by omega)
  have hth : ∀ W : bsX, bsWr W 14 0 0 0 (0 : Int32) = th W 0 := fun _ => rfl
  have th7 : ∀ W : bsX, th W 0 14 0 0 7 = W 14 0 0 7 := by intro W; unfold th bsWr; rw [if_neg (by omega)]
  by_cases hb : f + 20 ≤ 600
  · generalize hv : (fun i => byC (five a b c d e (i / 4)) (24 - 8 * (i % 4))) = v
    have v0 : ∀ k q s, k / 4 = q → 24 - 8 * (k % 4) = s → v k = byC (five a b c d e q) s := by intro k q s e1 e2; rw [← hv, ← e1, ← e2]
    have z0 : apC X f v 0 = X := by
      funext A B C D; unfold apC
      by_cases e1 : A = 13 ∧ B = 1 ∧ C = 0 ∧ D = 3
      · rw [if_pos e1, e1.1, e1.2.1, e1.2.2.1, e1.2.2.2, f2, Nat.add_zero]
      · rw [if_neg e1, if_neg (by omega)]
    have w14 : apC X f v 20 14 = X 14 := by funext B C D; unfold apC; rw [if_neg (by omega), if_neg (by omega)]
    have hcls : fX8_append a b c d e X = some (nI (f + 20), apC X f v 20) := by
      have c1 := four_ok (X := X) (f := f) (k := 0) (a := a) (v := v) (by omega) (v0 0 0 24 rfl rfl) (v0 1 0 16 rfl rfl) (v0 2 0 8 rfl rfl) (v0 3 0 0 rfl rfl)
      have c2 := four_ok (X := X) (f := f) (k := 4) (a := b) (v := v) (by omega) (v0 4 1 24 rfl rfl) (v0 5 1 16 rfl rfl) (v0 6 1 8 rfl rfl) (v0 7 1 0 rfl rfl)
      have c3 := four_ok (X := X) (f := f) (k := 8) (a := c) (v := v) (by omega) (v0 8 2 24 rfl rfl) (v0 9 2 16 rfl rfl) (v0 10 2 8 rfl rfl) (v0 11 2 0 rfl rfl)
      have c4 := four_ok (X := X) (f := f) (k := 12) (a := d) (v := v) (by omega) (v0 12 3 24 rfl rfl) (v0 13 3 16 rfl rfl) (v0 14 3 8 rfl rfl) (v0 15 3 0 rfl rfl)
      have c5 := four_ok (X := X) (f := f) (k := 16) (a := e) (v := v) (by omega) (v0 16 4 24 rfl rfl) (v0 17 4 16 rfl rfl) (v0 18 4 8 rfl rfl) (v0 19 4 0 rfl rfl)
      rw [z0] at c1
      unfold fX8_append
      rw [f2, t20, if_pos (hle.mpr hb), c1, Option.bind_some, c2, Option.bind_some, c3, Option.bind_some, c4, Option.bind_some, c5, Option.bind_some, apC_3]
    generalize hw : (fun i => byR (five a b c d e (i / 4)) (24 - 8 * (i % 4))) = w
    have hwv : ∀ i, v i &&& 255 = w i := by intro i; rw [← hv, ← hw]; exact byC_eq _ (sh_cases i)
    have r0 : apR (th (apC X f v 20) 0) f w 0 = th (apC X f v 20) 0 := by
      funext A B C D; unfold apR; rw [if_neg (by omega)]
    have t7 : th (apC X f v 20) 0 14 0 0 7 = nI f := by rw [th7, w14]; exact f3
    have href := app_loop (X := th (apC X f v 20) 0) (f := f) (a := a) (b := b) (c := c) (d := d) (e := e) t7 hb 20 0 bsF (by omega) (by unfold bsF; omega)
    rw [hw, r0] at href
    generalize hZ : bsWr (apR (th (apC X f v 20) 0) f w 20) 14 0 0 7 (nI (f + 20)) = Z at href
    refine ⟨(nI (f + 20), apC X f v 20), (nI (f + 20), Z), hcls, ?_, rfl, ?_⟩
    · show fX9_append a b c d e (apC X f v 20) = _
      unfold fX9_append
      rw [hth, t7, t20, if_pos (hle.mpr hb)]
      exact href
    · show Inv (j + 1) Z
      obtain ⟨a1, a2, a3, a4, ⟨np, ck, u1, u2, u3, u4, u5, u6⟩, a6, ⟨tl, t1, t2, t3, t4⟩, _, a9⟩ := h
      have zg : ∀ g, g ≠ 13 → g ≠ 14 → Z g = X g := by
        intro g p q; rw [← hZ]; funext B C D; unfold bsWr apR; rw [if_neg (by omega), if_neg (by omega), th_g _ _ q]; unfold apC; rw [if_neg (by omega), if_neg (by omega)]
      have z13 : ∀ K q i, ¬ (K = 1 ∧ q = 0 ∧ i = 3) → ¬ (K = 6 ∧ q = 0) → Z 13 K q i = X 13 K q i := by
        intro K q i p r; rw [← hZ]; unfold bsWr apR; rw [if_neg (by omega), if_neg (by omega), th_g _ _ (by decide)]; unfold apC; rw [if_neg (by omega), if_neg (by omega)]
      have z0' : ∀ i, i ≠ 0 → i ≠ 7 → Z 14 0 0 i = X 14 0 0 i := by
        intro i p q; rw [← hZ]; unfold bsWr apR; rw [if_neg (by omega), if_neg (by omega)]; unfold th bsWr; rw [if_neg (by omega), w14]
      have zK : ∀ K, K ≠ 0 → K ≠ 4 → Z 14 K 0 = X 14 K 0 := by
        intro K p q; funext i; rw [← hZ]; unfold bsWr apR; rw [if_neg (by omega), if_neg (by omega), th_K _ _ p, w14]
      refine ⟨by rw [z0' 1 (by decide) (by decide)]; exact a1, by rw [z13 _ _ _ (by omega) (by omega), z0' 1 (by decide) (by decide)]; exact a2, ?_, by rw [zK 1 (by decide) (by decide)]; exact a4, ⟨np, ck, u1, u2, by rw [z13 _ _ _ (by omega) (by omega)]; exact u3, by rw [z13 _ _ _ (by omega) (by omega)]; exact u4, by rw [z0' 4 (by decide) (by decide)]; exact u5, ?_⟩, ?_, ⟨tl, t1, by rw [z13 _ _ _ (by omega) (by omega)]; exact t2, by rw [z0' 20 (by decide) (by decide)]; exact t3, ?_⟩, ⟨f + 20, hb, ?_, ?_, by rw [z13 _ _ _ (by omega) (by omega), z0' 8 (by decide) (by decide)]; exact f4, by rw [z13 _ _ _ (by omega) (by omega), z0' 9 (by decide) (by decide)]; exact f5, ?_⟩, by rw [zg 12 (by decide) (by decide)]; exact a9⟩
      · intro e
        rw [z0' 1 (by decide) (by decide)] at e
        rw [zg 0 (by decide) (by decide), zK 1 (by decide) (by decide)]
        exact (a3 e).up
      · intro i hi
        have : stRow Z i = stRow X i := by unfold stRow; rw [zK 2 (by decide) (by decide)]
        rw [zg _ (by omega) (by omega), this]
        exact (u6 i hi).up
      · refine InvS.keep a6 ?_
        intro i hi
        refine ⟨by rw [zK 3 (by decide) (by decide)], by rw [z13 _ _ _ (by omega) (by omega)], by rw [zg _ (by omega) (by omega)], by unfold stRow; rw [zK 2 (by decide) (by decide)]⟩
      · intro i hi; rw [z13 _ _ _ (by omega) (by omega), zK 6 (by decide) (by decide)]; exact t4 i hi
      · rw [← hZ]; unfold bsWr apR; rw [if_neg (by omega), if_neg (by omega), th_g _ _ (by decide)]; exact apC_3 X f v 20
      · rw [← hZ]; unfold bsWr; rw [if_pos ⟨rfl, rfl, rfl, rfl⟩]
      · intro i hi
        have zr : Z 13 6 0 i = apC X f v 20 13 6 0 i := by
          rw [← hZ]; unfold bsWr apR; rw [if_neg (by omega), if_neg (by omega), th_g _ _ (by decide)]
        have zl : Z 14 4 0 i = apR (th (apC X f v 20) 0) f w 20 14 4 0 i := by
          rw [← hZ]; unfold bsWr; rw [if_neg (by omega)]
        rw [zr, zl]
        unfold apR
        by_cases e1 : f ≤ i ∧ i < f + 20
        · rw [if_pos ⟨rfl, rfl, rfl, e1⟩, ← hwv]
          unfold apC
          rw [if_neg (by omega), if_pos ⟨rfl, rfl, rfl, e1⟩]
        · rw [if_neg (by omega), th_K _ _ (show (4 : Nat) ≠ 0 by decide), w14, f6 i hi]
          unfold apC
          rw [if_neg (by omega), if_neg (by omega)]
  · refine ⟨(-1, X), (-1, th X 0), ?_, ?_, rfl, ((quiet.refl X).thr 0).inv h⟩
    · unfold fX8_append; rw [f2, t20, if_neg (fun q => hb (hle.mp q))]
    · show fX9_append a b c d e X = _
      unfold fX9_append
      rw [hth, th7, f3, t20, if_neg (fun q => hb (hle.mp q))]
