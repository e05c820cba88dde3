/-! THE LAW TELLS ITS TEXT -/
theorem lo8 {c j : Nat} (h : c < 256) (hj : 8 ≤ j) : (nI c).toBitVec.getLsbD j = false := by
  show (BitVec.ofNat 32 c).getLsbD j = false
  have hp : 2 ^ 8 ≤ 2 ^ j := Nat.pow_le_pow_right (by decide) hj
  rw [BitVec.getLsbD_ofNat, Nat.testBit_lt_two_pow (show c < 2 ^ j by omega), Bool.and_false]
theorem sh8 (x : Int32) {c j : Nat} (hc : c < 256) (hj : j < 32) : ((x <<< ((8 : Int32) &&& 31)) ||| nI c).toBitVec.getLsbD j = if j < 8 then (nI c).toBitVec.getLsbD j else x.toBitVec.getLsbD (j - 8) := by
  have e2 : (8 : Int32) &&& 31 = 8 := by decide
  rw [e2, Int32.toBitVec_or, BitVec.getLsbD_or]
  by_cases h : j < 8
  · rw [if_pos h]
    have : (x <<< (8 : Int32)).toBitVec.getLsbD j = false := by
      simp [BitVec.getLsbD_shiftLeft, hj, h]
    rw [this, Bool.false_or]
  · rw [if_neg h, lo8 hc (by omega), Bool.or_false]
    simp [BitVec.getLsbD_shiftLeft, hj, h]
    exact (BitVec.getLsbD_eq_getElem (by omega)).symm
theorem lo255 : ∀ c, c < 256 → nI c &&& 255 = nI c := by decide +kernel
def wd4 (a b c d : Nat) : Int32 := ((((((0 : Int32) <<< ((8 : Int32) &&& 31)) ||| nI a) <<< ((8 : Int32) &&& 31) ||| nI b) <<< ((8 : Int32) &&& 31)) ||| nI c) <<< ((8 : Int32) &&& 31) ||| nI d
theorem sr8 (x : Int32) {s i : Nat} (hs : s = 24 ∨ s = 16 ∨ s = 8 ∨ s = 0) (hi : i < 8) : (x >>> (nI s &&& 31)).toBitVec.getLsbD i = x.toBitVec.getLsbD (s + i) := by
  have i32 : i < 32 := by omega
  have i32' : ¬ 32 ≤ i := by omega
  rcases hs with rfl | rfl | rfl | rfl
  · have e2 : nI 24 &&& 31 = 24 := by decide
    have i3 : 24 + i < 32 := by omega
    rw [e2]
    simp [BitVec.getLsbD_sshiftRight, BitVec.getElem_sshiftRight, i32, i32', i3]
  · have e2 : nI 16 &&& 31 = 16 := by decide
    have i3 : 16 + i < 32 := by omega
    rw [e2]
    simp [BitVec.getLsbD_sshiftRight, BitVec.getElem_sshiftRight, i32, i32', i3]
  · have e2 : nI 8 &&& 31 = 8 := by decide
    have i3 : 8 + i < 32 := by omega
    rw [e2]
    simp [BitVec.getLsbD_sshiftRight, BitVec.getElem_sshiftRight, i32, i32', i3]
  · have e2 : nI 0 &&& 31 = 0 := by decide
    rw [e2]
    simp [i32, i32']
theorem by_w {x : Int32} {c s : Nat} (hs : s = 24 ∨ s = 16 ∨ s = 8 ∨ s = 0) (hc : c < 256) (h : ∀ i, i < 8 → x.toBitVec.getLsbD (s + i) = (nI c).toBitVec.getLsbD i) : bytC x s &&& 255 = nI c := by
  rw [bytC_eq x hs]
  unfold bytR
  rw [← lo255 c hc]
  exact and_255 (fun i hi => by rw [sr8 x hs hi]; exact h i hi)
theorem by4 {a b c d : Nat} (ha : a < 256) (hb : b < 256) (hc : c < 256) (hd : d < 256) : bytC (wd4 a b c d) 24 &&& 255 = nI a ∧ bytC (wd4 a b c d) 16 &&& 255 = nI b ∧ bytC (wd4 a b c d) 8 &&& 255 = nI c ∧ bytC (wd4 a b c d) 0 &&& 255 = nI d := by
  unfold wd4
  refine ⟨by_w (by omega) ha (fun i hi => ?_), by_w (by omega) hb (fun i hi => ?_), by_w (by omega) hc (fun i hi => ?_), by_w (by omega) hd (fun i hi => ?_)⟩
  · rw [sh8 _ hd (by omega), if_neg (by omega), sh8 _ hc (by omega), if_neg (by omega), sh8 _ hb (by omega), if_neg (by omega), sh8 _ ha (by omega), if_pos (by omega)]
    congr 1
    omega
  · rw [sh8 _ hd (by omega), if_neg (by omega), sh8 _ hc (by omega), if_neg (by omega), sh8 _ hb (by omega), if_pos (by omega)]
    congr 1
    omega
  · rw [sh8 _ hd (by omega), if_neg (by omega), sh8 _ hc (by omega), if_pos (by omega)]
    congr 1
    omega
  · rw [sh8 _ hd (by omega), if_pos (by omega)]
    congr 1
    omega
def chT (t : Nat → Nat) (n i : Nat) : Nat := if i < n then t i else 32
theorem chT_nI {t : Nat → Nat} {n i : Nat} : (if i < n then nI (t i) else 32) = nI (chT t n i) := by
  unfold chT
  split
  · rfl
  · rfl
theorem hWrd_q {t : Nat → Nat} {n i q : Nat} (hq : q < 5) : hWrd t n i 20 q = wd4 (chT t n (i + 4 * q)) (chT t n (i + 4 * q + 1)) (chT t n (i + 4 * q + 2)) (chT t n (i + 4 * q + 3)) := by
  unfold wd4
  rw [← chT_nI, ← chT_nI, ← chT_nI, ← chT_nI]
  have : q = 0 ∨ q = 1 ∨ q = 2 ∨ q = 3 ∨ q = 4 := by omega
  rcases this with rfl | rfl | rfl | rfl | rfl <;> rfl
def vB (t : Nat → Nat) (n d : Nat) : Int32 := bytC (hWrd t n (20 * (d / 20)) 20 (d % 20 / 4)) (24 - 8 * (d % 4))
theorem vB_at {t : Nat → Nat} {n m q r : Nat} (hq : q < 5) (hr : r < 4) : vB t n (20 * m + 4 * q + r) = bytC (hWrd t n (20 * m) 20 q) (24 - 8 * r) := by
  unfold vB
  rw [show (20 * m + 4 * q + r) / 20 = m by omega, show (20 * m + 4 * q + r) % 20 / 4 = q by omega, show (20 * m + 4 * q + r) % 4 = r by omega]
theorem vB_t {t : Nat → Nat} {n d : Nat} (ht : ∀ i, i < n → t i < 256) (hd : d < n) : vB t n d &&& 255 = nI (t d) := by
  have hc : ∀ i, chT t n i < 256 := fun i => by
    unfold chT
    split
    · exact ht i (by assumption)
    · decide
  obtain ⟨m, q, r, hq, hr, e⟩ : ∃ m q r, q < 5 ∧ r < 4 ∧ d = 20 * m + 4 * q + r := ⟨d / 20, d % 20 / 4, d % 4, by omega, by omega, by omega⟩
  have hcd : chT t n d = t d := by unfold chT; rw [if_pos hd]
  rw [← hcd, e, vB_at hq hr, hWrd_q hq]
  obtain ⟨b0, b1, b2', b3⟩ := by4 (hc (20 * m + 4 * q)) (hc (20 * m + 4 * q + 1)) (hc (20 * m + 4 * q + 2)) (hc (20 * m + 4 * q + 3))
  have : r = 0 ∨ r = 1 ∨ r = 2 ∨ r = 3 := by omega
  rcases this with rfl | rfl | rfl | rfl
  · exact b0
  · exact b1
  · exact b2'
  · exact b3
theorem app_ok {t : Nat → Nat} {n m : Nat} {X : bsX} (hm : 20 * m + 20 ≤ 600) : fX8_append (hWrd t n (20 * m) 20 0) (hWrd t n (20 * m) 20 1) (hWrd t n (20 * m) 20 2) (hWrd t n (20 * m) 20 3) (hWrd t n (20 * m) 20 4) (apC X 0 (vB t n) (20 * m)) = some (nI (20 * m + 20), apC X 0 (vB t n) (20 * m + 20)) := by
  have e20 : nI (0 + 20 * m) + (20 : Int32) ≤ 600 := by
    rw [show (20 : Int32) = nI 20 from rfl, pu_add]
    exact (pu_le _ 600 (by omega) (by omega)).mpr (by omega)
  have fo : ∀ q, q < 5 → fX4_addFour (hWrd t n (20 * m) 20 q) (apC X 0 (vB t n) (20 * m + 4 * q)) = some (apC X 0 (vB t n) (20 * m + 4 * q + 4)) := fun q hq =>
    four_ok (by omega) (vB_at (r := 0) hq (by omega)) (vB_at (r := 1) hq (by omega)) (vB_at (r := 2) hq (by omega)) (vB_at (r := 3) hq (by omega))
  unfold fX8_append
  rw [apC_3, if_pos e20, show fX4_addFour (hWrd t n (20 * m) 20 0) (apC X 0 (vB t n) (20 * m)) = _ from fo 0 (by omega)]
  simp only [Option.bind_some]
  rw [show fX4_addFour (hWrd t n (20 * m) 20 1) (apC X 0 (vB t n) (20 * m + 4 * 0 + 4)) = _ from fo 1 (by omega)]
  simp only [Option.bind_some]
  rw [show fX4_addFour (hWrd t n (20 * m) 20 2) (apC X 0 (vB t n) (20 * m + 4 * 1 + 4)) = _ from fo 2 (by omega)]
  simp only [Option.bind_some]
  rw [show fX4_addFour (hWrd t n (20 * m) 20 3) (apC X 0 (vB t n) (20 * m + 4 * 2 + 4)) = _ from fo 3 (by omega)]
  simp only [Option.bind_some]
  rw [show fX4_addFour (hWrd t n (20 * m) 20 4) (apC X 0 (vB t n) (20 * m + 4 * 3 + 4)) = _ from fo 4 (by omega)]
  simp only [Option.bind_some]
  rw [apC_3, show 0 + (20 * m + 4 * 4 + 4) = 20 * m + 20 by omega, show 20 * m + 4 * 4 + 4 = 20 * m + 20 by omega]
theorem fd_ok {t : Nat → Nat} {n : Nat} {X : bsX} (hn : n ≤ 512) : ∀ (d m f : Nat), n ≤ 20 * (m + d) → d < f → 20 * m < n + 20 → ∃ M, n ≤ 20 * M ∧ 20 * M < n + 20 ∧ hFd t n f (20 * m) (apC X 0 (vB t n) (20 * m)) = some (1, apC X 0 (vB t n) (20 * M)) := by
  intro d
  induction d with
  | zero =>
    intro m f h hf h2
    obtain ⟨f, rfl⟩ : ∃ z, f = z + 1 := ⟨f - 1, by omega⟩
    exact ⟨m, by omega, by omega, by rw [hFd, if_neg (by omega)]⟩
  | succ d ih =>
    intro m f h hf h2
    obtain ⟨f, rfl⟩ : ∃ z, f = z + 1 := ⟨f - 1, by omega⟩
    by_cases c : 20 * m < n
    · obtain ⟨M, a, b, e⟩ := ih (m + 1) f (by omega) (by omega) (by omega)
      refine ⟨M, a, b, ?_⟩
      rw [hFd, if_pos c, app_ok (by omega)]
      simp only [Option.bind_some]
      rw [if_pos (nn_nI (by omega)), show 20 * m + 20 = 20 * (m + 1) by omega]
      exact e
    · exact ⟨m, by omega, by omega, by rw [hFd, if_neg c]⟩
theorem apC_0 {X : bsX} {v : Nat → Int32} (h : X 13 1 0 3 = 0) : apC X 0 v 0 = X := by
  funext a b c d
  unfold apC
  by_cases e : a = 13 ∧ b = 1 ∧ c = 0 ∧ d = 3
  · rw [if_pos e]
    obtain ⟨rfl, rfl, rfl, rfl⟩ := e
    exact h.symm
  · rw [if_neg e, if_neg (by omega)]
