/-! tell -/
def zS (D : Nat → Nat → Nat) (k : Nat) (Z : pY) : Prop := (D k 0 = 0 → Z 6 k 1 = -1) ∧ (D k 0 ≠ 0 → ∀ i, 1 ≤ i → i ≤ 5 → Z 6 k i = vD D k i) ∧ ∀ i, 2 ≤ i → i ≤ 8 → Z 5 k i = wD D k i
def zW (w l f o n : Nat) (D : Nat → Nat → Nat) (Z : pY) : Prop := (Z 0 0 4 = nI n ∧ Z 0 0 5 = nI w ∧ Z 0 0 6 = nI l ∧ Z 0 0 7 = nI f ∧ Z 0 0 8 = nI o) ∧ (Z 0 0 9 = 0 ∧ Z 0 0 10 = 0 ∧ Z 0 0 11 = -1 ∧ Z 0 0 12 = 0 ∧ Z 2 0 1 = -1 ∧ Z 14 0 0 = 0) ∧ (∀ i, 12 ≤ i → i ≤ 19 → Z 11 0 i = 0) ∧ ∀ k, k < n → zS D k Z
theorem load_ok {X : bsX} {w l f o n N F : Nat} {D : Nat → Nat → Nat} {Z : pY} (ha : alike (X 12) blankY) (hN : N = (lawL w l f o n D).length) (hN6 : N ≤ 600) (hT : ∀ i, i < N → X 13 6 0 i &&& 255 = (lawL w l f o n D).getD i 0)
    (w1 : 1 ≤ w) (w2 : w < 100) (l1 : 1 ≤ l) (l2 : l ≤ 9) (f2 : f ≤ 7) (o2 : o < 100) (n1 : 1 ≤ n) (n6 : n ≤ 6) (hD : ∀ k, k < n → okD D k) (hF : X 13 1 0 3 = nI F) (hNF : N ≤ F) (hF6 : F ≤ 600) (hZ : zW w l f o n D Z) :
    ∃ X', fX8_load (nI N) X = some (0, nI n, X') ∧ AI n 0 0 0 X' Z ∧ X' 13 1 0 8 = 0 ∧ X' 13 1 0 9 = -1 := by
  obtain ⟨kd, q, r, mk, Y, e, hm, y5, y6, y7, y8, y3, y4, yJ⟩ := parse_t ha hN hN6 hT w1 w2 l1 l2 f2 o2 n1 n6 hD
  generalize bsWr (bsWr X 13 1 0 3 0) 13 1 0 4 (nI N) = Xb at e
  obtain ⟨⟨z4, z5, z6, z7, z8⟩, ⟨z9, z10, z11, z12, z21, z14⟩, zc, zs⟩ := hZ
  have hc := qX3_copy (g := 0) (g2 := 1) (Q := 0) (n := n) (t := 0) (X := cst Xb kd q r 0 (-1) mk Y) (by decide) (by rw [cqY]; exact hm.1)
  rw [cqY] at hc
  have hal := sCopy_alike Y (cst Xb kd q r 0 (-1) mk Y 0)
  generalize sCopy Y (cst Xb kd q r 0 (-1) mk Y 0) = S at hc hal
  have hw := wm_alike hm.1 hal
  have hld := load75 (X := bsWr (bsWr (bsWr (up (cst Xb kd q r 0 (-1) mk Y) 0 S) 13 0 0 7 1) 13 0 0 8 0) 13 0 0 9 0)
  have k0 : bsWr (bsWr (bsWr (bsWr (bsWr (up (cst Xb kd q r 0 (-1) mk Y) 0 S) 13 0 0 7 1) 13 0 0 8 0) 13 0 0 9 0) 13 5 0 0 0) 13 5 0 1 0 0 = S := by
    funext b c d
    unfold bsWr
    rw [if_neg (by omega), if_neg (by omega), if_neg (by omega), if_neg (by omega), if_neg (by omega), up_at]
  have k04 : bsWr (bsWr (bsWr (up (cst Xb kd q r 0 (-1) mk Y) 0 S) 13 0 0 7 1) 13 0 0 8 0) 13 0 0 9 0 0 0 0 4 = nI n := by
    unfold bsWr
    rw [if_neg (by omega), if_neg (by omega), if_neg (by omega), up_at]
    exact hw.sz
  have k7 : bsWr (bsWr (bsWr (bsWr (bsWr (up (cst Xb kd q r 0 (-1) mk Y) 0 S) 13 0 0 7 1) 13 0 0 8 0) 13 0 0 9 0) 13 5 0 0 0) 13 5 0 1 0 13 0 0 7 = 1 := by
    unfold bsWr
    rw [if_neg (by omega), if_neg (by omega), if_neg (by omega), if_neg (by omega), if_pos (by omega)]
  have k8 : bsWr (bsWr (bsWr (bsWr (bsWr (up (cst Xb kd q r 0 (-1) mk Y) 0 S) 13 0 0 7 1) 13 0 0 8 0) 13 0 0 9 0) 13 5 0 0 0) 13 5 0 1 0 13 0 0 8 = 0 := by
    unfold bsWr
    rw [if_neg (by omega), if_neg (by omega), if_neg (by omega), if_pos (by omega)]
  have k9 : bsWr (bsWr (bsWr (bsWr (bsWr (up (cst Xb kd q r 0 (-1) mk Y) 0 S) 13 0 0 7 1) 13 0 0 8 0) 13 0 0 9 0) 13 5 0 0 0) 13 5 0 1 0 13 0 0 9 = 0 := by
    unfold bsWr
    rw [if_neg (by omega), if_neg (by omega), if_pos (by omega)]
  have kp : ∀ i, bsWr (bsWr (bsWr (bsWr (bsWr (up (cst Xb kd q r 0 (-1) mk Y) 0 S) 13 0 0 7 1) 13 0 0 8 0) 13 0 0 9 0) 13 5 0 0 0) 13 5 0 1 0 13 1 0 i = cst Xb kd q r 0 (-1) mk Y 13 1 0 i := fun i => by
    unfold bsWr
    rw [if_neg (by omega), if_neg (by omega), if_neg (by omega), if_neg (by omega), if_neg (by omega), up_ne _ _ (by decide)]
  have al : ∀ K j i, real K j i → S K j i = Y K j i := hal
  refine ⟨_, ?_, ⟨⟨k7, 0, 0, by omega, by omega, k8, k9⟩, n1, ?_, ?_, ?_, ?_⟩, ?_, ?_⟩
  · unfold fX8_load
    rw [if_neg (pu_neg N (by omega)), hF, if_pos ((pu_le N F (by omega) (by omega)).mpr hNF), e]
    simp only [Option.bind_some]
    rw [cq8, if_pos rfl, hc]
    simp only [Option.bind_some]
    unfold fX8_forgetChanges
    simp only [Option.bind_some]
    rw [hld, k04]
  · rw [k0]; exact hw
  · rw [k0]
    refine ⟨⟨z4, fun i i1 i2 => ?_⟩, fun k hk i i1 i2 => ?_, fun k hk => ?_, ⟨?_, fun h => ?_⟩, fun i hi => ?_, ⟨0, by omega, ?_, z14, zc 12 (by omega) (by omega), fun j hj => by omega⟩⟩
    · have : i = 5 ∨ i = 6 ∨ i = 7 ∨ i = 8 ∨ i = 9 := by omega
      rcases this with rfl | rfl | rfl | rfl | rfl
      · rw [z5, al 0 0 5 (by unfold real; omega), y5]
      · rw [z6, al 0 0 6 (by unfold real; omega), y6]
      · rw [z7, al 0 0 7 (by unfold real; omega), y7]
      · rw [z8, al 0 0 8 (by unfold real; omega), y8]
      · rw [z9, hw.tim]; rfl
    · rw [(zs k hk).2.2 i i1 i2, al 5 k i (by unfold real; omega), (yJ k hk).2.2 i i1 i2]
    · have h6 : ∀ i, i ≤ 5 → S 6 k i = Y 6 k i := fun i hi => al 6 k i (by unfold real; omega)
      by_cases c : D k 0 = 0
      · left
        exact ⟨by rw [h6 0 (by omega)]; exact (yJ k hk).1 c, (zs k hk).1 c⟩
      · right
        exact ⟨by rw [h6 0 (by omega)]; exact ((yJ k hk).2.1 c).1, fun i i1 i2 => by rw [h6 i i2, (zs k hk).2.1 c i i1 i2, ((yJ k hk).2.1 c).2 i i1 i2]⟩
    · rw [z21, al 2 0 1 (by unfold real; omega), hm.2.2.2]
    · exact absurd (by rw [al 2 0 1 (by unfold real; omega), hm.2.2.2]) h
    · rw [zc (13 + i) (by omega) (by omega), al 4 0 i (by unfold real; omega), y4 i hi]
    · rw [al 3 0 4 (by unfold real; omega), y3]; rfl
  · rw [k0]
    refine ⟨?_, ?_, ?_⟩
    · rw [z11, al 0 0 11 (by unfold real; omega), hm.2.2.1]
    · obtain ⟨a, _, a0, ea⟩ := hw.age
      rw [z12, ea, show a = 0 by omega]; rfl
    · rw [z10]
      unfold sSt
      rw [if_pos (by rw [al 0 0 10 (by unfold real; omega)]; exact hm.2.1)]
  · rw [k0, al 3 0 4 (by unfold real; omega), y3]; rfl
  · rw [kp, cq8]
  · rw [kp, cq9]
/-- the law's text, told and loaded -/
theorem tell_ok {X : bsX} {w l f o n N : Nat} {t : Nat → Nat} {D : Nat → Nat → Nat} {Z : pY} (ha : alike (X 12) blankY) (h3 : X 13 1 0 3 = 0) (ht : tl t N = lawL w l f o n D) (hb : ∀ i, i < N → t i < 256) (hN : N ≤ 512)
    (w1 : 1 ≤ w) (w2 : w < 100) (l1 : 1 ≤ l) (l2 : l ≤ 9) (f2 : f ≤ 7) (o2 : o < 100) (n1 : 1 ≤ n) (n6 : n ≤ 6) (hD : ∀ k, k < n → okD D k) (hZ : zW w l f o n D Z) :
    ∃ X', hL_tell t N X = some (nI n, X') ∧ AI n 0 0 0 X' Z ∧ X' 13 1 0 8 = 0 ∧ X' 13 1 0 9 = -1 := by
  obtain ⟨M, m1, m2, e⟩ := fd_ok (t := t) (n := N) (X := X) hN 26 0 27 (by omega) (by omega) (by omega)
  have e0 : hL_feeds t N X = some (1, apC X 0 (vB t N) (20 * M)) := by
    have : hFd t N 27 0 (apC X 0 (vB t N) 0) = some (1, apC X 0 (vB t N) (20 * M)) := e
    rw [apC_0 h3] at this
    exact this
  have hlen : N = (lawL w l f o n D).length := by rw [← ht, tl_len]
  obtain ⟨X', a1, a2, a3, a4⟩ := load_ok (X := apC X 0 (vB t N) (20 * M)) (F := 20 * M) (Z := Z) (by
      have : apC X 0 (vB t N) (20 * M) 12 = X 12 := by
        funext b c d
        unfold apC
        rw [if_neg (by omega), if_neg (by omega)]
      rw [this]
      exact ha) hlen (by omega) (fun i hi => by
      have : apC X 0 (vB t N) (20 * M) 13 6 0 i = vB t N i := by
        unfold apC
        rw [if_neg (by omega), if_pos (by omega), Nat.sub_zero]
      rw [this, vB_t hb hi, ← ht, tl_get hi]) w1 w2 l1 l2 f2 o2 n1 n6 hD (by rw [apC_3, Nat.zero_add]) m1 (by omega) hZ
  refine ⟨X', ?_, a2, a3, a4⟩
  unfold hL_tell
  rw [e0]
  simp only [Option.bind_some]
  rw [if_neg (show ¬ (1 : Int32) = 0 by decide), a1]
  simp only [Option.bind_some, if_true]
/-- the calls before a state is loaded -/
theorem pre_ok {X : bsX} (h7 : X 13 0 0 7 = 0) (h9 : X 13 0 0 9 = 0) (h2 : X 13 2 0 1 = 0) : fX8_count 0 X = some (1, 0, X) ∧ fX8_tick 1 X = some (1, 0, X) ∧ fX8_power X = some (1, 0, X) ∧ fX8_textByte 0 X = some (2, 0, X) ∧ fX8_undo X = some (1, 0, X) ∧ fX8_undoable X = some (0, X) := by
  have r := q8_req0 h7
  have c10 : ((1 : Nat) = 0) = False := eq_false (by decide)
  refine ⟨?_, ?_, ?_, ?_, ?_, ?_⟩
  · unfold fX8_count
    rw [r]
    simp only [Option.bind_some, c10, if_false]
  · unfold fX8_tick
    rw [r]
    simp only [Option.bind_some, c10, if_false]
  · unfold fX8_power
    rw [r]
    simp only [Option.bind_some, c10, if_false]
  · unfold fX8_textByte
    rw [if_neg (show ¬ (0 : Int32) < 0 by decide), h2, if_neg (show ¬ (0 : Int32) < 0 by decide)]
  · unfold fX8_undo
    rw [h9, if_neg (show ¬ (0 : Int32) < 0 by decide)]
  · unfold fX8_undoable
    rw [h9]
