/-! THE CLASS ASKED, when a machine is loaded -/
theorem q8_req {X : bsX} (h : X 13 0 0 7 = 1) : fX8_requireLoaded X = some (0, 0, X) := by
  unfold fX8_requireLoaded
  rw [if_neg (by rw [h]; decide)]
theorem q8_req0 {X : bsX} (h : X 13 0 0 7 = 0) : fX8_requireLoaded X = some (1, 0, X) := by
  unfold fX8_requireLoaded
  rw [if_pos h]
theorem n00 : ((0 : Nat) = 0) = True := eq_true rfl
theorem q8_slot {Q n t k : Nat} {X : bsX} (h : X 13 0 0 7 = 1) (hw : wm Q n t (X 0)) (hk : k < n) : fX8_requireSlot (nI k) X = some (0, 0, X) := by
  have h6 := hw.hn
  unfold fX8_requireSlot
  rw [q8_req h]
  simp only [Option.bind_some, if_true, hw.sz]
  rw [if_neg (pu_neg k (by omega)), if_neg (by rw [show (6 : Int32) = nI 6 from rfl, pu_le 6 k (by omega) (by omega)]; omega), if_pos ((pu_lt k n (by omega) (by omega)).mpr hk)]
theorem q8_slotX {Q n t : Nat} {X : bsX} (h : X 13 0 0 7 = 1) (hw : wm Q n t (X 0)) : fX8_requireSlot (nI n) X = some (2, 0, X) ∧ fX8_requireSlot (-1) X = some (2, 0, X) := by
  have h6 := hw.hn
  unfold fX8_requireSlot
  rw [q8_req h]
  simp only [Option.bind_some, if_true, hw.sz]
  constructor
  · rw [if_neg (pu_neg n (by omega))]
    split
    · rfl
    · rw [if_neg (by rw [pu_lt n n (by omega) (by omega)]; omega)]
  · rw [if_pos (by decide)]
def cntV (w : Nat) (Y : pY) : Int32 := match w with
  | 0 => Y 0 0 4 | 1 => Y 0 0 9 | 2 => Y 0 0 5 | 3 => Y 0 0 6 | 4 => Y 0 0 7 | 5 => Y 0 0 8 | 6 => sSt Y | 7 => Y 0 0 11 | 8 => Y 0 0 12
  | 9 => sCnt (sBoot Y) | 10 => sCnt (fun k => Y 5 k 4 ≠ 0) | 11 => sSum (fun k => Y 5 k 3) | 12 => Y 3 0 4
  | 13 => Y 4 0 0 | 14 => Y 4 0 1 | 15 => Y 4 0 2 | 16 => Y 4 0 3 | 17 => Y 4 0 4 | 18 => Y 4 0 5 | _ => Y 4 0 6
theorem q8_count {Q n t w : Nat} {X : bsX} (h : X 13 0 0 7 = 1) (hw : wm Q n t (X 0)) (h20 : w < 20) : fX8_count (nI w) X = some (0, cntV w (X 0), X) := by
  have hw20 : w = 0 ∨ w = 1 ∨ w = 2 ∨ w = 3 ∨ w = 4 ∨ w = 5 ∨ w = 6 ∨ w = 7 ∨ w = 8 ∨ w = 9 ∨ w = 10 ∨ w = 11 ∨ w = 12 ∨ w = 13 ∨ w = 14 ∨ w = 15 ∨ w = 16 ∨ w = 17 ∨ w = 18 ∨ w = 19 := by omega
  have e : ∀ a : Int32, ¬ (a.toInt < 0 ∨ 19 < a.toInt) → fX8_count a X = fX8_count a X := fun _ _ => rfl
  rcases hw20 with rfl | rfl | rfl | rfl | rfl | rfl | rfl | rfl | rfl | rfl | rfl | rfl | rfl | rfl | rfl | rfl | rfl | rfl | rfl | rfl
  · show fX8_count (0 : Int32) X = _
    unfold fX8_count; rw [q8_req h]; rfl
  · show fX8_count (1 : Int32) X = _
    unfold fX8_count; rw [q8_req h]; rfl
  · show fX8_count (2 : Int32) X = _
    unfold fX8_count; rw [q8_req h]; rfl
  · show fX8_count (3 : Int32) X = _
    unfold fX8_count; rw [q8_req h]; rfl
  · show fX8_count (4 : Int32) X = _
    unfold fX8_count; rw [q8_req h]; rfl
  · show fX8_count (5 : Int32) X = _
    unfold fX8_count; rw [q8_req h]; rfl
  · show fX8_count (6 : Int32) X = _
    unfold fX8_count; rw [q8_req h]; simp [qX3_state (g := 0) hw, cntV]
  · show fX8_count (7 : Int32) X = _
    unfold fX8_count; rw [q8_req h]; simp [cntV]
  · show fX8_count (8 : Int32) X = _
    unfold fX8_count; rw [q8_req h]; simp [cntV]
  · show fX8_count (9 : Int32) X = _
    unfold fX8_count; rw [q8_req h]; simp [qX3_bootableSlots, cntV]
  · show fX8_count (10 : Int32) X = _
    unfold fX8_count; rw [q8_req h]; simp [qX3_goodSlots, cntV]
  · show fX8_count (11 : Int32) X = _
    unfold fX8_count; rw [q8_req h]; simp [qX3_allTries, cntV]
  · show fX8_count (12 : Int32) X = _
    unfold fX8_count; rw [q8_req h]; simp [cntV]
  · show fX8_count (13 : Int32) X = _
    unfold fX8_count; rw [q8_req h]; simp [cntV]
  · show fX8_count (14 : Int32) X = _
    unfold fX8_count; rw [q8_req h]; simp [cntV]
  · show fX8_count (15 : Int32) X = _
    unfold fX8_count; rw [q8_req h]; simp [cntV]
  · show fX8_count (16 : Int32) X = _
    unfold fX8_count; rw [q8_req h]; simp [cntV]
  · show fX8_count (17 : Int32) X = _
    unfold fX8_count; rw [q8_req h]; simp [cntV]
  · show fX8_count (18 : Int32) X = _
    unfold fX8_count; rw [q8_req h]; simp [cntV]
  · show fX8_count (19 : Int32) X = _
    unfold fX8_count; rw [q8_req h]; simp [cntV]
theorem q8_countX {X : bsX} (h : X 13 0 0 7 = 1) : fX8_count 20 X = some (3, 0, X) := by
  unfold fX8_count
  rw [q8_req h]
  simp only [Option.bind_some, if_true]
  rw [if_pos (by decide)]
def slV (k w : Nat) (Y : pY) : Int32 := match w with
  | 0 => Y 6 k 0 | 1 => Y 5 k 2 | 2 => Y 5 k 3 | 3 => Y 5 k 4 | 4 => Y 5 k 5 | 5 => b2 (sBoot Y k) | 6 => Y 5 k 6 | 7 => Y 5 k 7 | _ => Y 5 k 8
theorem q8_bit {x : Int32} {X : bsX} (hx : is01 x) : fX8_bit x X = some (x, X) := by
  unfold fX8_bit
  rcases hx with e | e <;> rw [e]
  · rw [if_pos rfl]
  · rw [if_neg (by decide)]
theorem q8_sl {Q n t k w : Nat} {X : bsX} (h : X 13 0 0 7 = 1) (hw : wm Q n t (X 0)) (hk : k < n) (h9 : w < 9) : fX8_slot (nI k) (nI w) X = some (0, slV k w (X 0), X) := by
  have h6 := hw.hn
  have hk6 : k < 6 := by omega
  have hs := hw.sl k hk6
  have hw9 : w = 0 ∨ w = 1 ∨ w = 2 ∨ w = 3 ∨ w = 4 ∨ w = 5 ∨ w = 6 ∨ w = 7 ∨ w = 8 := by omega
  rcases hw9 with rfl | rfl | rfl | rfl | rfl | rfl | rfl | rfl | rfl
  · show fX8_slot (nI k) (0 : Int32) X = _
    unfold fX8_slot; rw [q8_slot h hw hk]; simp [pu_inT hk6 (by decide), pu_ix6 hk6, q8_bit hs.1, slV]
  · show fX8_slot (nI k) (1 : Int32) X = _
    unfold fX8_slot; rw [q8_slot h hw hk]; simp [pu_inT hk6 (by decide), pu_ix6 hk6, slV]
  · show fX8_slot (nI k) (2 : Int32) X = _
    unfold fX8_slot; rw [q8_slot h hw hk]; simp [pu_inT hk6 (by decide), pu_ix6 hk6, slV]
  · show fX8_slot (nI k) (3 : Int32) X = _
    unfold fX8_slot; rw [q8_slot h hw hk]; simp [pu_inT hk6 (by decide), pu_ix6 hk6, q8_bit hs.2.2.2.1, slV]
  · show fX8_slot (nI k) (4 : Int32) X = _
    unfold fX8_slot; rw [q8_slot h hw hk]; simp [pu_inT hk6 (by decide), pu_ix6 hk6, slV]
  · show fX8_slot (nI k) (5 : Int32) X = _
    unfold fX8_slot; rw [q8_slot h hw hk]; simp [pu_inT hk6 (by decide), pu_ix6 hk6, qX3_boot, q8_bit (b2_01 _), slV]
  · show fX8_slot (nI k) (6 : Int32) X = _
    unfold fX8_slot; rw [q8_slot h hw hk]; simp [pu_inT hk6 (by decide), pu_ix6 hk6, slV]
  · show fX8_slot (nI k) (7 : Int32) X = _
    unfold fX8_slot; rw [q8_slot h hw hk]; simp [pu_inT hk6 (by decide), pu_ix6 hk6, slV]
  · show fX8_slot (nI k) (8 : Int32) X = _
    unfold fX8_slot; rw [q8_slot h hw hk]; simp [pu_inT hk6 (by decide), pu_ix6 hk6, slV]
theorem q8_slX {Q n t : Nat} {X : bsX} (h : X 13 0 0 7 = 1) (hw : wm Q n t (X 0)) (n1 : 1 ≤ n) : fX8_slot (nI n) 0 X = some (2, 0, X) ∧ fX8_slot 0 9 X = some (3, 0, X) := by
  have c20 : ¬ (2 : Nat) = 0 := by decide
  constructor
  · unfold fX8_slot
    rw [(q8_slotX h hw).1]
    simp only [Option.bind_some, c20, if_false]
  · unfold fX8_slot
    rw [show (0 : Int32) = nI 0 from rfl, q8_slot h hw (k := 0) (by omega)]
    simp only [Option.bind_some, if_true]
    rw [if_pos (by decide), if_pos (by decide)]
theorem q8_im {Q n t k w : Nat} {X : bsX} (h : X 13 0 0 7 = 1) (hw : wm Q n t (X 0)) (hk : k < n) (h5 : w < 5) : fX8_image (nI k) (nI w) X = some (0, if X 0 6 k 0 = 0 then -1 else X 0 6 k (w + 1), X) := by
  have h6 := hw.hn
  have hk6 : k < 6 := by omega
  have hs := hw.sl k hk6
  have g4 : (0 : Int32) ≤ nI w ∧ nI w ≤ 4 := ⟨(pu_le 0 w (by omega) (by decide)).mpr (Nat.zero_le _), (pu_le w 4 (by decide) (by omega)).mpr (by omega)⟩
  have hwi : fX8_requireWithin (nI w) 0 4 X = some (0, 0, X) := by rw [rw_within, if_pos g4]
  unfold fX8_image
  rw [q8_slot h hw hk]
  simp only [Option.bind_some, if_true, hwi, pu_inT hk6 (show (6 : Nat) < 2147483648 by decide), pu_ix6 hk6]
  by_cases q : X 0 6 k 0 = 0
  · rw [if_pos q, if_pos q]
  · rw [if_neg q, if_neg q]
    have hw5 : w = 0 ∨ w = 1 ∨ w = 2 ∨ w = 3 ∨ w = 4 := by omega
    rcases hw5 with rfl | rfl | rfl | rfl | rfl
    · rw [if_neg (by decide), if_pos (by decide)]
    · rw [if_neg (by decide), if_neg (by decide), if_pos (by decide)]
    · rw [if_neg (by decide), if_neg (by decide), if_neg (by decide), if_pos (by decide)]
    · rw [if_neg (by decide), if_neg (by decide), if_neg (by decide), if_neg (by decide), if_pos (by decide), q8_bit hs.2.1]; rfl
    · rw [if_pos (by decide), q8_bit hs.2.2.1]; rfl
theorem q8_imX {Q n t : Nat} {X : bsX} (h : X 13 0 0 7 = 1) (hw : wm Q n t (X 0)) (n1 : 1 ≤ n) : fX8_image (-1) 0 X = some (2, 0, X) ∧ fX8_image 0 5 X = some (3, 0, X) := by
  have c20 : ¬ (2 : Nat) = 0 := by decide
  have c30 : ¬ (3 : Nat) = 0 := by decide
  constructor
  · unfold fX8_image
    rw [(q8_slotX h hw).2]
    simp only [Option.bind_some, c20, if_false]
  · unfold fX8_image
    rw [show (0 : Int32) = nI 0 from rfl, q8_slot h hw (k := 0) (by omega)]
    simp only [Option.bind_some, if_true]
    rw [show fX8_requireWithin 5 (nI 0) 4 X = some (3, 0, X) by rw [rw_within, if_neg (by decide)]]
    simp only [Option.bind_some, c30, if_false]
def insV (w : Nat) (Y : pY) : Int32 := match w with
  | 0 => Y 2 0 1 | 1 => Y 2 0 2 | 2 => Y 6 6 1 | _ => Y 2 0 3
theorem wm.hor {Q n t : Nat} {Y : pY} (hw : wm Q n t Y) : Y 2 0 1 = -1 ∨ (¬ Y 2 0 1 < 0 ∧ ¬ Y 2 0 1 = -1) := by
  have h6 := hw.hn
  rcases hw.ins with q | ⟨z, hz, q, _⟩
  · exact Or.inl q
  · right; rw [q]; exact ⟨pu_neg z (by omega), pu_m1 z (by omega)⟩
theorem q8_ins {Q n t w : Nat} {X : bsX} (h : X 13 0 0 7 = 1) (hw : wm Q n t (X 0)) (h4 : w < 4) : fX8_install (nI w) X = some (0, if X 0 2 0 1 = -1 then -1 else insV w (X 0), X) := by
  have g3 : (0 : Int32) ≤ nI w ∧ nI w ≤ 3 := ⟨(pu_le 0 w (by omega) (by decide)).mpr (Nat.zero_le _), (pu_le w 3 (by decide) (by omega)).mpr (by omega)⟩
  have hwi : fX8_requireWithin (nI w) 0 3 X = some (0, 0, X) := by rw [rw_within, if_pos g3]
  have c10 : ¬ (1 : Int32) = 0 := by decide
  unfold fX8_install
  rw [q8_req h]
  simp only [Option.bind_some, if_true, hwi]
  unfold fX2_isOn
  rcases hw.hor with q | ⟨q1, q2⟩
  · rw [q]
    simp
  · simp only [q1, if_false, Option.bind_some, c10, q2]
    have hw4 : w = 0 ∨ w = 1 ∨ w = 2 ∨ w = 3 := by omega
    rcases hw4 with rfl | rfl | rfl | rfl
    · rw [if_neg (by decide), if_pos (by decide)]; rfl
    · rw [if_neg (by decide), if_neg (by decide), if_pos (by decide)]; rfl
    · rw [if_neg (by decide), if_neg (by decide), if_neg (by decide), if_pos (by decide)]; rfl
    · rw [if_pos (by decide)]; rfl
theorem q8_insX {X : bsX} (h : X 13 0 0 7 = 1) : fX8_install 4 X = some (3, 0, X) := by
  have c30 : ¬ (3 : Nat) = 0 := by decide
  unfold fX8_install
  rw [q8_req h]
  simp only [Option.bind_some, if_true]
  rw [show fX8_requireWithin 4 0 3 X = some (3, 0, X) by rw [rw_within, if_neg (by decide)]]
  simp only [Option.bind_some, c30, if_false]
theorem q8_kept {T : Nat} {X : bsX} (e : X 0 3 0 4 = nI T) (hT : T < 1000000) : fX0_kept 0 X = some (nI (min T 12), X) := by unfold fX0_kept; rw [e, pu_min12 (by omega)]
theorem q8_boot {T m w : Nat} {X : bsX} (h : X 13 0 0 7 = 1) (e : X 0 3 0 4 = nI T) (hT : T < 1000000) (hm : m < 1000) (h4 : w < 4) : fX8_boot (nI m) (nI w) X = some (0, if m < min T 12 then X 0 (7 + w) 0 ((T - 1 - m) % 12) else -2, X) := by
  have hwi : (0 : Int32) ≤ nI w ∧ nI w ≤ 3 := ⟨(pu_le 0 w (by omega) (by decide)).mpr (Nat.zero_le _), (pu_le w 3 (by decide) (by omega)).mpr (by omega)⟩
  have hrw : fX8_requireWithin (nI w) 0 3 X = some (0, 0, X) := by rw [rw_within, if_pos hwi]
  have cm : (-1 : Int32) < 0 := by decide
  have a0 : ¬ nI m < 0 := pu_neg m (by omega)
  unfold fX8_boot
  rw [q8_req h]
  simp only [Option.bind_some, if_true, hrw]
  by_cases hk : m < min T 12
  · have hrow : fX0_rowOf 0 (nI m) X = some (nI ((T - 1 - m) % 12), X) := by
      have hs2 : nI T - (1 : Int32) - nI m = nI (T - 1 - m) := by rw [show (1 : Int32) = nI 1 from rfl, pu_sub _ _ (by omega), pu_sub _ _ (by omega)]
      unfold fX0_rowOf
      rw [if_neg a0, q8_kept e hT]
      simp only [Option.bind_some]
      rw [if_pos ((pu_lt m (min T 12) (by omega) (by omega)).mpr hk), e, hs2, pu_mod _ (by omega)]
    have b12 : bsIn (nI ((T - 1 - m) % 12)) 12 = True := pu_inT (by omega) (by decide)
    have x12 : bsIx (nI ((T - 1 - m) % 12)) = (T - 1 - m) % 12 := pu_ix _ (by omega)
    have l12 : (nI ((T - 1 - m) % 12) < (12 : Int32)) = True := eq_true ((pu_lt ((T - 1 - m) % 12) 12 (by decide) (by omega)).mpr (by omega))
    simp only [hrow, Option.bind_some, pu_neg ((T - 1 - m) % 12) (show (T - 1 - m) % 12 < 2147483648 by omega), if_false, l12, if_true, b12, x12, hk]
    have : w = 0 ∨ w = 1 ∨ w = 2 ∨ w = 3 := by omega
    rcases this with rfl | rfl | rfl | rfl
    · rw [if_neg (by decide), if_pos (show nI 0 = (0 : Int32) from rfl)]
    · rw [if_neg (by decide), if_neg (by decide), if_pos (show nI 1 = (1 : Int32) from rfl)]
    · rw [if_neg (by decide), if_neg (by decide), if_neg (by decide), if_pos (show nI 2 = (2 : Int32) from rfl)]
    · rw [if_pos (by decide)]
  · have hrow : fX0_rowOf 0 (nI m) X = some (-1, X) := by
      unfold fX0_rowOf
      rw [if_neg a0, q8_kept e hT]
      simp only [Option.bind_some]
      rw [if_neg (fun q => hk ((pu_lt m (min T 12) (by omega) (by omega)).mp q))]
    simp only [hrow, Option.bind_some, cm, if_true, hk, if_false]
theorem q8_bootX {T : Nat} {X : bsX} (h : X 13 0 0 7 = 1) : fX8_boot (-1) 0 X = some (0, -2, X) ∧ fX8_boot 0 4 X = some (3, 0, X) := by
  have c30 : ¬ (3 : Nat) = 0 := by decide
  have cm : (-1 : Int32) < 0 := by decide
  constructor
  · unfold fX8_boot
    rw [q8_req h]
    simp only [Option.bind_some, if_true]
    rw [show fX8_requireWithin 0 0 3 X = some (0, 0, X) by rw [rw_within, if_pos (by decide)]]
    simp only [Option.bind_some, if_true]
    unfold fX0_rowOf
    simp only [cm, if_true, Option.bind_some]
  · unfold fX8_boot
    rw [q8_req h]
    simp only [Option.bind_some, if_true]
    rw [show fX8_requireWithin 4 0 3 X = some (3, 0, X) by rw [rw_within, if_neg (by decide)]]
    simp only [Option.bind_some, c30, if_false]
