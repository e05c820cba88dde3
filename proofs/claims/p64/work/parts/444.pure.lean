/-! THE PARSER: the class reads (whole's lemmas) -/
def pt (R : Nat → Int32) (i : Nat) (v : Int32) : Nat → Int32 := fun d => if d = i then v else R d
theorem and_255 {x y : Int32} (h : ∀ i, i < 8 → x.toBitVec.getLsbD i = y.toBitVec.getLsbD i) : x &&& 255 = y &&& 255 := by
  apply Int32.toBitVec.inj
  rw [Int32.toBitVec_and, Int32.toBitVec_and]
  apply BitVec.eq_of_getLsbD_eq
  intro i hi
  rw [BitVec.getLsbD_and, BitVec.getLsbD_and]
  by_cases h8 : i < 8
  · rw [h i h8]
  · have e : (255 : Int32).toBitVec.getLsbD i = false := by
      have : ∀ i, i < 32 → ¬ i < 8 → (255 : Int32).toBitVec.getLsbD i = false := by decide
      exact this i hi h8
    rw [e, Bool.and_false, Bool.and_false]
def bytC (a : Int32) (s : Nat) : Int32 := vp_nar .byte (((a.toUInt32 >>> ((nI s).toUInt32 &&& Int32.toUInt32 31)).toInt32).toInt8.toInt32)
def bytR (a : Int32) (s : Nat) : Int32 := (a >>> (nI s &&& 31)) &&& 255
theorem bytC_eq (a : Int32) {s : Nat} (hs : s = 24 ∨ s = 16 ∨ s = 8 ∨ s = 0) : bytC a s &&& 255 = bytR a s := by
  unfold bytC bytR
  rw [vp_nar_byte]
  apply and_255
  intro i hi
  have i32 : i < 32 := by omega
  have i32' : ¬ 32 ≤ i := by omega
  rcases hs with rfl | rfl | rfl | rfl
  · have e1 : (nI 24).toUInt32 &&& Int32.toUInt32 31 = 24 := by decide
    have e2 : nI 24 &&& 31 = 24 := by decide
    have i3 : 24 + i < 32 := by omega
    rw [e1, e2]
    simp [b2_t, b2_f, up_at, up_up, up_id, BitVec.getLsbD_signExtend, BitVec.getLsbD_setWidth, BitVec.getLsbD_ushiftRight, BitVec.getLsbD_sshiftRight, BitVec.getElem_signExtend, BitVec.getElem_sshiftRight, hi, i32, i32', i3]
  · have e1 : (nI 16).toUInt32 &&& Int32.toUInt32 31 = 16 := by decide
    have e2 : nI 16 &&& 31 = 16 := by decide
    have i3 : 16 + i < 32 := by omega
    rw [e1, e2]
    simp [b2_t, b2_f, up_at, up_up, up_id, BitVec.getLsbD_signExtend, BitVec.getLsbD_setWidth, BitVec.getLsbD_ushiftRight, BitVec.getLsbD_sshiftRight, BitVec.getElem_signExtend, BitVec.getElem_sshiftRight, hi, i32, i32', i3]
  · have e1 : (nI 8).toUInt32 &&& Int32.toUInt32 31 = 8 := by decide
    have e2 : nI 8 &&& 31 = 8 := by decide
    have i3 : 8 + i < 32 := by omega
    rw [e1, e2]
    simp [b2_t, b2_f, up_at, up_up, up_id, BitVec.getLsbD_signExtend, BitVec.getLsbD_setWidth, BitVec.getLsbD_ushiftRight, BitVec.getLsbD_sshiftRight, BitVec.getElem_signExtend, BitVec.getElem_sshiftRight, hi, i32, i32', i3]
  · have e1 : (nI 0).toUInt32 &&& Int32.toUInt32 31 = 0 := by decide
    have e2 : nI 0 &&& 31 = 0 := by decide
    rw [e1, e2]
    simp [b2_t, b2_f, up_at, up_up, up_id, BitVec.getLsbD_signExtend, BitVec.getLsbD_setWidth, BitVec.getLsbD_ushiftRight, BitVec.getLsbD_sshiftRight, BitVec.getElem_signExtend, hi, i32, i32']
/-- the class behind k bytes more -/
def apC (X : bsX) (f : Nat) (v : Nat → Int32) (k : Nat) : bsX := fun a b c d => if a = 13 ∧ b = 1 ∧ c = 0 ∧ d = 3 then nI (f + k) else if a = 13 ∧ b = 6 ∧ c = 0 ∧ f ≤ d ∧ d < f + k then v (d - f) else X a b c d
theorem apC_3 (X : bsX) (f : Nat) (v : Nat → Int32) (k : Nat) : apC X f v k 13 1 0 3 = nI (f + k) := by unfold apC; rw [if_pos ⟨rfl, rfl, rfl, rfl⟩]
theorem apC_step {X : bsX} {f k : Nat} {v : Nat → Int32} : bsWr (bsWr (apC X f v k) 13 6 0 (f + k) (v k)) 13 1 0 3 (nI (f + k + 1)) = apC X f v (k + 1) := by
  funext a b c d
  unfold bsWr apC
  by_cases e1 : a = 13 ∧ b = 1 ∧ c = 0 ∧ d = 3
  · rw [if_pos e1, if_pos e1, Nat.add_assoc]
  · simp only [e1, if_false]
    by_cases e2 : a = 13 ∧ b = 6 ∧ c = 0 ∧ d = f + k
    · rw [if_pos e2, if_pos (by omega), e2.2.2.2, Nat.add_sub_cancel_left]
    · rw [if_neg e2]
      by_cases e3 : a = 13 ∧ b = 6 ∧ c = 0 ∧ f ≤ d ∧ d < f + k
      · rw [if_pos e3, if_pos (by omega)]
      · rw [if_neg e3, if_neg (by omega)]
theorem four_step {X : bsX} {f k m s : Nat} {a : Int32} {v : Nat → Int32} {y : Int32} (hs : s ≤ 24) (hf : f + k < 600) (hv : v k = bytC a s) (hy : nI s + (-8 : Int32) = y) :
    fX4_addFour_3 (m + 1) a (nI s) (apC X f v k) = fX4_addFour_3 m a y (apC X f v (k + 1)) := by
  have r3 := apC_3 X f v k
  have r4 : ∀ w, bsWr (apC X f v k) 13 6 0 (f + k) w 13 1 0 3 = nI (f + k) := by intro w; unfold bsWr; rw [if_neg (by omega)]; exact r3
  have hb : vp_nar .byte (((a.toUInt32 >>> ((nI s).toUInt32 &&& Int32.toUInt32 31)).toInt32).toInt8.toInt32) = v k := by rw [hv]; rfl
  rw [fX4_addFour_3, if_neg (pu_neg s (by omega)), r3, if_neg (pu_neg _ (by omega)), if_neg (show ¬ (600 : Int32) ≤ nI (f + k) from fun q => by have := (pu_le 600 (f + k) (by omega) (by decide)).mp q; omega), if_pos ((pu_in _ 600 (by omega)).mpr hf), pu_ix _ (by omega), r4, pu_succ, hb, apC_step]
  unfold fX4_addFour_47
  rw [hy]
theorem four_ok {X : bsX} {f k : Nat} {a : Int32} {v : Nat → Int32} (hf : f + k + 4 ≤ 600) (h0 : v k = bytC a 24) (h1 : v (k + 1) = bytC a 16) (h2 : v (k + 2) = bytC a 8) (h3 : v (k + 3) = bytC a 0) :
    fX4_addFour a (apC X f v k) = some (apC X f v (k + 4)) := by
  obtain ⟨m, hm⟩ := bsF_5
  unfold fX4_addFour
  rw [hm, show (24 : Int32) = nI 24 from rfl, four_step (s := 24) (y := nI 16) (by omega) (by omega) h0 (by decide), four_step (s := 16) (y := nI 8) (by omega) (by omega) h1 (by decide), four_step (s := 8) (y := nI 0) (by omega) (by omega) h2 (by decide), four_step (s := 0) (y := -8) (by omega) (by omega) h3 (by decide), fX4_addFour_3, if_pos (show (-8 : Int32) < 0 by decide)]
def five (a b c d e : Int32) (q : Nat) : Int32 := if q = 0 then a else if q = 1 then b else if q = 2 then c else if q = 3 then d else e
theorem sh_cases (k : Nat) : 24 - 8 * (k % 4) = 24 ∨ 24 - 8 * (k % 4) = 16 ∨ 24 - 8 * (k % 4) = 8 ∨ 24 - 8 * (k % 4) = 0 := by omega
def cst (X : bsX) (kd ts te er ep : Int32) (mk : Nat → Int32) (Y : pY) : bsX := fun a b c d => if a = 13 ∧ b = 1 ∧ c = 0 ∧ d = 5 then kd else if a = 13 ∧ b = 1 ∧ c = 0 ∧ d = 6 then ts else if a = 13 ∧ b = 1 ∧ c = 0 ∧ d = 7 then te else if a = 13 ∧ b = 1 ∧ c = 0 ∧ d = 8 then er else if a = 13 ∧ b = 1 ∧ c = 0 ∧ d = 9 then ep else if a = 13 ∧ b = 7 ∧ c = 0 ∧ d < 6 then mk d else if a = 1 then Y b c d else X a b c d
theorem cq4 {X : bsX} {kd ts te er ep : Int32} {mk : Nat → Int32} {Y : pY} : cst X kd ts te er ep mk Y 13 1 0 4 = X 13 1 0 4 := by unfold cst; simp [b2_t, b2_f, up_at, up_up, up_id]
theorem cq5 {X : bsX} {kd ts te er ep : Int32} {mk : Nat → Int32} {Y : pY} : cst X kd ts te er ep mk Y 13 1 0 5 = kd := by unfold cst; simp [b2_t, b2_f, up_at, up_up, up_id]
theorem cq6 {X : bsX} {kd ts te er ep : Int32} {mk : Nat → Int32} {Y : pY} : cst X kd ts te er ep mk Y 13 1 0 6 = ts := by unfold cst; simp [b2_t, b2_f, up_at, up_up, up_id]
theorem cq7 {X : bsX} {kd ts te er ep : Int32} {mk : Nat → Int32} {Y : pY} : cst X kd ts te er ep mk Y 13 1 0 7 = te := by unfold cst; simp [b2_t, b2_f, up_at, up_up, up_id]
theorem cq8 {X : bsX} {kd ts te er ep : Int32} {mk : Nat → Int32} {Y : pY} : cst X kd ts te er ep mk Y 13 1 0 8 = er := by unfold cst; simp [b2_t, b2_f, up_at, up_up, up_id]
theorem cq9 {X : bsX} {kd ts te er ep : Int32} {mk : Nat → Int32} {Y : pY} : cst X kd ts te er ep mk Y 13 1 0 9 = ep := by unfold cst; simp [b2_t, b2_f, up_at, up_up, up_id]
theorem cqB {X : bsX} {kd ts te er ep : Int32} {mk : Nat → Int32} {Y : pY} (i : Nat) : cst X kd ts te er ep mk Y 13 6 0 i = X 13 6 0 i := by unfold cst; simp [b2_t, b2_f, up_at, up_up, up_id]
theorem cqM {X : bsX} {kd ts te er ep : Int32} {mk : Nat → Int32} {Y : pY} {i : Nat} (h : i < 6) : cst X kd ts te er ep mk Y 13 7 0 i = mk i := by unfold cst; simp [b2_t, b2_f, up_at, up_up, up_id, h]
theorem cqY {X : bsX} {kd ts te er ep : Int32} {mk : Nat → Int32} {Y : pY} : cst X kd ts te er ep mk Y 1 = Y := by funext b c d; unfold cst; simp [b2_t, b2_f, up_at, up_up, up_id]
theorem cqg {X : bsX} {kd ts te er ep : Int32} {mk : Nat → Int32} {Y : pY} {g : Nat} (h1 : g ≠ 1) (h2 : g ≠ 13) : cst X kd ts te er ep mk Y g = X g := by funext b c d; unfold cst; simp [b2_t, b2_f, up_at, up_up, up_id, h1, h2]
theorem cw5 {X : bsX} {kd ts te er ep : Int32} {mk : Nat → Int32} {Y : pY} {v : Int32} : bsWr (cst X kd ts te er ep mk Y) 13 1 0 5 v = cst X v ts te er ep mk Y := by
  funext a b c d; unfold bsWr cst
  by_cases h : a = 13 ∧ b = 1 ∧ c = 0 ∧ d = 5
  · obtain ⟨rfl, rfl, rfl, rfl⟩ := h; simp [b2_t, b2_f, up_at, up_up, up_id]
  · simp only [h, if_false]
theorem cw6 {X : bsX} {kd ts te er ep : Int32} {mk : Nat → Int32} {Y : pY} {v : Int32} : bsWr (cst X kd ts te er ep mk Y) 13 1 0 6 v = cst X kd v te er ep mk Y := by
  funext a b c d; unfold bsWr cst
  by_cases h : a = 13 ∧ b = 1 ∧ c = 0 ∧ d = 6
  · obtain ⟨rfl, rfl, rfl, rfl⟩ := h; simp [b2_t, b2_f, up_at, up_up, up_id]
  · simp only [h, if_false]
theorem cw7 {X : bsX} {kd ts te er ep : Int32} {mk : Nat → Int32} {Y : pY} {v : Int32} : bsWr (cst X kd ts te er ep mk Y) 13 1 0 7 v = cst X kd ts v er ep mk Y := by
  funext a b c d; unfold bsWr cst
  by_cases h : a = 13 ∧ b = 1 ∧ c = 0 ∧ d = 7
  · obtain ⟨rfl, rfl, rfl, rfl⟩ := h; simp [b2_t, b2_f, up_at, up_up, up_id]
  · simp only [h, if_false]
theorem cw8 {X : bsX} {kd ts te er ep : Int32} {mk : Nat → Int32} {Y : pY} {v : Int32} : bsWr (cst X kd ts te er ep mk Y) 13 1 0 8 v = cst X kd ts te v ep mk Y := by
  funext a b c d; unfold bsWr cst
  by_cases h : a = 13 ∧ b = 1 ∧ c = 0 ∧ d = 8
  · obtain ⟨rfl, rfl, rfl, rfl⟩ := h; simp [b2_t, b2_f, up_at, up_up, up_id]
  · simp only [h, if_false]
theorem cw9 {X : bsX} {kd ts te er ep : Int32} {mk : Nat → Int32} {Y : pY} {v : Int32} : bsWr (cst X kd ts te er ep mk Y) 13 1 0 9 v = cst X kd ts te er v mk Y := by
  funext a b c d; unfold bsWr cst
  by_cases h : a = 13 ∧ b = 1 ∧ c = 0 ∧ d = 9
  · obtain ⟨rfl, rfl, rfl, rfl⟩ := h; simp [b2_t, b2_f, up_at, up_up, up_id]
  · simp only [h, if_false]
theorem cwM {X : bsX} {kd ts te er ep : Int32} {mk : Nat → Int32} {Y : pY} {v : Int32} {k : Nat} (hk : k < 6) : bsWr (cst X kd ts te er ep mk Y) 13 7 0 k v = cst X kd ts te er ep (pt mk k v) Y := by
  funext a b c d; unfold bsWr cst
  by_cases h : a = 13 ∧ b = 7 ∧ c = 0 ∧ d = k
  · obtain ⟨rfl, rfl, rfl, rfl⟩ := h; simp [b2_t, b2_f, up_at, up_up, up_id, hk, pt]
  · simp only [h, if_false]
    by_cases h2 : a = 13 ∧ b = 7 ∧ c = 0 ∧ d < 6
    · obtain ⟨rfl, rfl, rfl, h3⟩ := h2
      have hd : d ≠ k := fun q => h ⟨rfl, rfl, rfl, q⟩
      simp [b2_t, b2_f, up_at, up_up, up_id, h3, pt, hd]
    · simp only [h2, if_false]
theorem cw1 {X : bsX} {kd ts te er ep : Int32} {mk : Nat → Int32} {Y : pY} {v : Int32} {K j i : Nat} : bsWr (cst X kd ts te er ep mk Y) 1 K j i v = cst X kd ts te er ep mk (wr Y K j i v) := by
  funext a b c d; unfold bsWr cst
  by_cases h : a = 1
  · subst h
    by_cases h2 : b = K ∧ c = j ∧ d = i
    · simp [b2_t, b2_f, up_at, up_up, up_id, h2, wr_rd]
    · simp [b2_t, b2_f, up_at, up_up, up_id, h2, wr_rd]
  · simp [b2_t, b2_f, up_at, up_up, up_id, h]
theorem cup {X : bsX} {kd ts te er ep : Int32} {mk : Nat → Int32} {Y Z : pY} : up (cst X kd ts te er ep mk Y) 1 Z = cst X kd ts te er ep mk Z := by
  funext a b c d; unfold up cst
  by_cases h : a = 1
  · subst h; simp [b2_t, b2_f, up_at, up_up, up_id]
  · simp [b2_t, b2_f, up_at, up_up, up_id, h]
/-- the byte at i, -1 behind the end -/
def sn (X : bsX) (e i : Nat) : Int32 := if i < e then X 13 6 0 i &&& 255 else -1
def PX (X : bsX) (e : Nat) : Prop := X 13 1 0 4 = nI e ∧ e ≤ 600
theorem and255_ne (x : Int32) : x &&& 255 ≠ -1 := by
  intro h
  have h2 : (x &&& 255) &&& 256 = (-1 : Int32) &&& 256 := by rw [h]
  rw [Int32.and_assoc, show (255 : Int32) &&& 256 = 0 by decide, Int32.and_zero] at h2
  exact absurd h2 (by decide)
theorem sn_m1 {X : bsX} {e i : Nat} : sn X e i = -1 ↔ e ≤ i := by
  unfold sn
  by_cases h : i < e
  · rw [if_pos h]
    exact ⟨fun q => absurd q (and255_ne _), fun q => by omega⟩
  · rw [if_neg h]
    exact ⟨fun _ => by omega, fun _ => rfl⟩
theorem byte_c {X : bsX} {e i : Nat} {kd ts te er ep : Int32} {mk : Nat → Int32} {Y : pY} (hX : PX X e) (hi : i < 2147483648) : fX4_byteAt (nI i) (cst X kd ts te er ep mk Y) = some (sn X e i, cst X kd ts te er ep mk Y) := by
  obtain ⟨h1, h2⟩ := hX
  unfold fX4_byteAt sn
  rw [if_neg (pu_neg i hi), cq4, h1]
  by_cases h : i < e
  · rw [if_neg (fun q => by have := (pu_le e i hi (by omega)).mp q; omega), if_neg (show ¬ (600 : Int32) ≤ nI i from fun q => by have := (pu_le 600 i hi (by decide)).mp q; omega), if_pos ((pu_in i 600 hi).mpr (by omega)), pu_ix i hi, cqB, if_pos h]
  · rw [if_pos ((pu_le e i hi (by omega)).mpr (by omega)), if_neg h]
def isSm (c : Int32) : Bool := (97 ≤ c) && (c ≤ 122)
def isDg (c : Int32) : Bool := (48 ≤ c) && (c ≤ 57)
/-- the class's kind of a byte -/
def kdO (c : Int32) : Int32 := if c = -1 then 0 else if isSm c = true then 2 else if isDg c = true then 3 else if c = 32 then 1 else if c = 59 then 4 else 5
theorem kind_c {c : Int32} {X : bsX} : fX4_kindOf c X = some (kdO c, X) := by
  unfold fX4_kindOf fX4_kindOf_21 fX4_kindOf_35 kdO isSm isDg
  by_cases h0 : c = -1
  · rw [if_pos h0, if_pos h0]
  · rw [if_neg h0, if_neg h0]
    by_cases h1 : c < 97
    · have g1 : ¬ (97 : Int32) ≤ c := pu_nle.mpr h1
      rw [if_pos h1]
      simp only [g1, decide_false, Bool.false_and, Bool.false_eq_true, if_false]
      by_cases h2 : c < 48
      · have g2 : ¬ (48 : Int32) ≤ c := pu_nle.mpr h2
        rw [if_pos h2]
        simp only [g2, decide_false, Bool.false_and, Bool.false_eq_true, if_false]
        by_cases h4 : c = 32
        · rw [if_pos h4, if_pos h4]
        · rw [if_neg h4, if_neg h4]
          by_cases h5 : c = 59
          · rw [if_pos h5, if_pos h5]
          · rw [if_neg h5, if_neg h5]
      · have g2 : (48 : Int32) ≤ c := pu_nlt.mp h2
        rw [if_neg h2]
        by_cases h3 : (57 : Int32) < c
        · have g3 : ¬ c ≤ (57 : Int32) := pu_nle.mpr h3
          rw [if_pos h3]
          simp only [g2, g3, decide_true, decide_false, Bool.and_false, Bool.false_eq_true, if_false]
          by_cases h4 : c = 32
          · rw [if_pos h4, if_pos h4]
          · rw [if_neg h4, if_neg h4]
            by_cases h5 : c = 59
            · rw [if_pos h5, if_pos h5]
            · rw [if_neg h5, if_neg h5]
        · have g3 : c ≤ (57 : Int32) := pu_nlt.mp h3
          rw [if_neg h3]
          simp only [g2, g3, decide_true, Bool.and_self, if_true]
    · have g1 : (97 : Int32) ≤ c := pu_nlt.mp h1
      rw [if_neg h1]
      by_cases h2 : (122 : Int32) < c
      · have g2 : ¬ c ≤ (122 : Int32) := pu_nle.mpr h2
        rw [if_pos h2]
        have k1 : ¬ c < 48 := pu_nlt.mpr (Int32.le_trans (by decide : (48 : Int32) ≤ 97) g1)
        have k2 : (57 : Int32) < c := Int32.lt_of_lt_of_le (by decide : (57 : Int32) < 97) g1
        have k3 : ¬ c ≤ (57 : Int32) := pu_nle.mpr k2
        rw [if_neg k1, if_pos k2]
        simp only [g1, g2, k3, decide_true, decide_false, Bool.and_false, Bool.false_eq_true, if_false]
        by_cases h4 : c = 32
        · rw [if_pos h4, if_pos h4]
        · rw [if_neg h4, if_neg h4]
          by_cases h5 : c = 59
          · rw [if_pos h5, if_pos h5]
          · rw [if_neg h5, if_neg h5]
      · have g2 : c ≤ (122 : Int32) := pu_nlt.mp h2
        rw [if_neg h2]
        simp only [g1, g2, decide_true, Bool.and_self, if_true]
theorem kd2 {c : Int32} : kdO c = 2 ↔ isSm c = true := by
  unfold kdO
  by_cases h0 : c = -1
  · rw [if_pos h0, h0]; decide
  · rw [if_neg h0]
    by_cases h1 : isSm c = true
    · rw [if_pos h1]; exact ⟨fun _ => h1, fun _ => rfl⟩
    · rw [if_neg h1]
      refine ⟨fun q => ?_, fun q => absurd q h1⟩
      exfalso
      by_cases h2 : isDg c = true
      · rw [if_pos h2] at q; exact absurd q (by decide)
      · rw [if_neg h2] at q
        by_cases h3 : c = 32
        · rw [if_pos h3] at q; exact absurd q (by decide)
        · rw [if_neg h3] at q
          by_cases h4 : c = 59
          · rw [if_pos h4] at q; exact absurd q (by decide)
          · rw [if_neg h4] at q; exact absurd q (by decide)
theorem dg_sm {c : Int32} (h : isDg c = true) : isSm c = false := by
  unfold isDg at h
  unfold isSm
  simp only [Bool.and_eq_true, decide_eq_true_eq] at h
  have : ¬ (97 : Int32) ≤ c := fun q => absurd (Int32.le_trans q h.2) (by decide)
  simp [b2_t, b2_f, up_at, up_up, up_id, this]
theorem kd3 {c : Int32} : kdO c = 3 ↔ isDg c = true := by
  unfold kdO
  by_cases h0 : c = -1
  · rw [if_pos h0, h0]; decide
  · rw [if_neg h0]
    by_cases h1 : isSm c = true
    · rw [if_pos h1]
      refine ⟨fun q => absurd q (by decide), fun q => ?_⟩
      rw [dg_sm q] at h1; exact absurd h1 (by decide)
    · rw [if_neg h1]
      by_cases h2 : isDg c = true
      · rw [if_pos h2]; exact ⟨fun _ => h2, fun _ => rfl⟩
      · rw [if_neg h2]
        refine ⟨fun q => ?_, fun q => absurd q h2⟩
        exfalso
        by_cases h3 : c = 32
        · rw [if_pos h3] at q; exact absurd q (by decide)
        · rw [if_neg h3] at q
          by_cases h4 : c = 59
          · rw [if_pos h4] at q; exact absurd q (by decide)
          · rw [if_neg h4] at q; exact absurd q (by decide)
theorem rt158 {X : bsX} {q r : Nat} {kd er ep : Int32} {mk : Nat → Int32} {Y : pY} (hq : q ≤ r) (hr : r ≤ 600) :
    fX4_readToken_158 (cst X kd (nI q) (nI r) er ep mk Y) = some (cst X (if (kd = 2 ∧ 8 < r - q) ∨ (kd = 3 ∧ 2 < r - q) then 5 else kd) (nI q) (nI r) er ep mk Y) := by
  have c32 : ¬ (3 : Int32) = 2 := by decide
  have c23 : ¬ (2 : Int32) = 3 := by decide
  unfold fX4_readToken_158 fX4_readToken_182 fX4_readToken_195
  rw [cq5, cq6, cq7, pu_sub r q hq, cw5]
  by_cases k2 : kd = 2
  · rw [if_pos k2]
    by_cases l : 8 < r - q
    · rw [if_pos (show (8 : Int32) < nI (r - q) from (pu_lt 8 (r - q) (by omega) (by decide)).mpr l), if_pos (Or.inl ⟨k2, l⟩)]
    · have hn : ¬ ((kd = 2 ∧ 8 < r - q) ∨ (kd = 3 ∧ 2 < r - q)) := by
        rintro (q1 | q1)
        · exact l q1.2
        · rw [k2] at q1; exact c23 q1.1
      rw [if_neg (show ¬ (8 : Int32) < nI (r - q) from fun z => l ((pu_lt 8 (r - q) (by omega) (by decide)).mp z)), if_neg hn, if_neg (by rw [k2]; exact c23)]
  · rw [if_neg k2]
    by_cases k3 : kd = 3
    · rw [if_pos k3]
      by_cases l : 2 < r - q
      · rw [if_neg (show ¬ nI (r - q) ≤ (2 : Int32) from fun z => by have := (pu_le (r - q) 2 (by decide) (by omega)).mp z; omega), if_pos (Or.inr ⟨k3, l⟩)]
      · have hn : ¬ ((kd = 2 ∧ 8 < r - q) ∨ (kd = 3 ∧ 2 < r - q)) := by
          rintro (q1 | q1)
          · exact k2 q1.1
          · exact l q1.2
        rw [if_pos (show nI (r - q) ≤ (2 : Int32) from (pu_le (r - q) 2 (by decide) (by omega)).mpr (by omega)), if_neg hn]
    · have hn : ¬ ((kd = 2 ∧ 8 < r - q) ∨ (kd = 3 ∧ 2 < r - q)) := by
        rintro (q1 | q1)
        · exact k2 q1.1
        · exact k3 q1.1
      rw [if_neg k3, if_neg hn]
theorem rt115 {X : bsX} {e q r : Nat} {kd er ep : Int32} {mk : Nat → Int32} {Y : pY} (hX : PX X e) (hr : r ≤ e) (hk0 : kd ≠ 0) (hend : kdO (sn X e r) ≠ kd) : ∀ (d i f : Nat), i + d = r → d < f → (∀ j, i ≤ j → j < r → kdO (sn X e j) = kd) →
    fX4_readToken_115 f 1 (nI i) (cst X kd (nI q) (nI i) er ep mk Y) = fX4_readToken_158 (cst X kd (nI q) (nI r) er ep mk Y) := by
  have he := hX.2
  have c10 : ¬ (1 : Int32) = 0 := by decide
  have kz : kdO (-1) = 0 := by decide
  intro d
  induction d with
  | zero =>
    intro i f hi hf hj
    obtain ⟨f, rfl⟩ : ∃ z, f = z + 1 := ⟨f - 1, by omega⟩
    obtain rfl : i = r := by omega
    rw [fX4_readToken_115, if_neg c10, cq4, hX.1]
    by_cases h : e ≤ i
    · rw [if_pos ((pu_le e i (by omega) (by omega)).mpr h)]
    · rw [if_neg (fun z => h ((pu_le e i (by omega) (by omega)).mp z)), byte_c hX (by omega), Option.bind_some, kind_c, Option.bind_some]
      simp only [cq5, hend, if_false]
  | succ d ih =>
    intro i f hi hf hj
    obtain ⟨f, rfl⟩ : ∃ z, f = z + 1 := ⟨f - 1, by omega⟩
    have h1 := hj i (Nat.le_refl i) (by omega)
    have h : ¬ e ≤ i := fun z => hk0 (by rw [← h1, sn_m1.mpr z]; exact kz)
    rw [fX4_readToken_115, if_neg c10, cq4, hX.1, if_neg (fun z => h ((pu_le e i (by omega) (by omega)).mp z)), byte_c hX (by omega), Option.bind_some, kind_c, Option.bind_some]
    simp only [cq5, h1, if_true, cq7, pu_succ, cw7]
    exact ih (i + 1) f (by omega) (by omega) (fun j a b => hj j (by omega) b)
theorem rt47 {X : bsX} {e q : Nat} {kd te er ep : Int32} {mk : Nat → Int32} {Y : pY} (hX : PX X e) (hq : q ≤ e) :
    fX4_readToken_47 (cst X kd (nI q) te er ep mk Y) = if kdO (sn X e q) = 0 then some (cst X (kdO (sn X e q)) (nI q) (nI q) er ep mk Y) else fX4_readToken_115 bsF (if kdO (sn X e q) = 2 ∨ kdO (sn X e q) = 3 then 1 else 0) (nI (q + 1)) (cst X (kdO (sn X e q)) (nI q) (nI (q + 1)) er ep mk Y) := by
  have he := hX.2
  unfold fX4_readToken_47 fX4_readToken_104 fX4_readToken_109
  rw [cq6, byte_c hX (by omega), Option.bind_some, kind_c, Option.bind_some]
  dsimp only
  generalize kdO (sn X e q) = k
  rw [cw5, cq6, cw7, cq5, cq7, pu_succ, cw7, cq5, cq7]
  by_cases h0 : k = 0
  · rw [if_pos h0, if_pos h0]
  · rw [if_neg h0, if_neg h0]
    by_cases h2 : k = 2
    · rw [if_pos h2, if_pos (Or.inl h2)]
    · rw [if_neg h2]
      by_cases h3 : k = 3
      · rw [if_pos h3, if_pos (Or.inr h3)]
      · rw [if_neg h3, if_neg (fun z => z.elim h2 h3)]
theorem rt13 {X : bsX} {e q : Nat} {kd te er ep : Int32} {mk : Nat → Int32} {Y : pY} (hX : PX X e) (hq : q ≤ e) (hend : sn X e q ≠ 32) : ∀ (d i f : Nat), i + d = q → d < f → (∀ j, i ≤ j → j < q → sn X e j = 32) →
    fX4_readToken_13 f (nI i) (cst X kd (nI i) te er ep mk Y) = fX4_readToken_47 (cst X kd (nI q) te er ep mk Y) := by
  have he := hX.2
  intro d
  induction d with
  | zero =>
    intro i f hi hf hj
    obtain ⟨f, rfl⟩ : ∃ z, f = z + 1 := ⟨f - 1, by omega⟩
    obtain rfl : i = q := by omega
    rw [fX4_readToken_13, cq4, hX.1]
    by_cases h : e ≤ i
    · rw [if_pos ((pu_le e i (by omega) (by omega)).mpr h)]
    · rw [if_neg (fun z => h ((pu_le e i (by omega) (by omega)).mp z)), byte_c hX (by omega), Option.bind_some, if_neg hend]
  | succ d ih =>
    intro i f hi hf hj
    obtain ⟨f, rfl⟩ : ∃ z, f = z + 1 := ⟨f - 1, by omega⟩
    have h1 := hj i (Nat.le_refl i) (by omega)
    have h : ¬ e ≤ i := fun z => by rw [sn_m1.mpr z] at h1; exact absurd h1 (by decide)
    rw [fX4_readToken_13, cq4, hX.1, if_neg (fun z => h ((pu_le e i (by omega) (by omega)).mp z)), byte_c hX (by omega), Option.bind_some, if_pos h1]
    dsimp only
    rw [cq6, pu_succ, cw6]
    exact ih (i + 1) f (by omega) (by omega) (fun j a b => hj j (by omega) b)
/-- the number behind k digits from q on -/
def nmF (X : bsX) (e q : Nat) : Nat → Int32
  | 0 => 0
  | 1 => ((10 : Int32) * 0) + sn X e q - 48
  | 2 => ((10 : Int32) * (((10 : Int32) * 0) + sn X e q - 48)) + sn X e (q + 1) - 48
  | _ => 0
def wAll (X : bsX) (e q t : Nat) : Nat → Nat → Bool
  | 0, _ => true
  | d + 1, i => if sn X e (q + i) = bsChr t i then wAll X e q t d (i + 1) else false
def isW (X : bsX) (e q r t : Nat) (kd : Int32) : Bool := if kd = 2 then (if r - q = bsSl.getD t 0 then wAll X e q t (bsSl.getD t 0) 0 else false) else false
theorem word_cL {X : bsX} {e q t : Nat} {kd te er ep : Int32} {mk : Nat → Int32} {Y : pY} (hX : PX X e) (hq : q ≤ e) : ∀ (d i f : Nat), i + d = bsSl.getD t 0 → d < f →
    fX4_isWord_28 t f (nI i) (cst X kd (nI q) te er ep mk Y) = some (b2 (wAll X e q t d i), cst X kd (nI q) te er ep mk Y) := by
  have he := hX.2
  have h9 := sl_9 t
  intro d
  induction d with
  | zero =>
    intro i f hi hf
    obtain ⟨f, rfl⟩ : ∃ z, f = z + 1 := ⟨f - 1, by omega⟩
    rw [fX4_isWord_28, if_pos (show bsLen t ≤ nI i from (pu_le (bsSl.getD t 0) i (by omega) (by omega)).mpr (by omega))]
    rfl
  | succ d ih =>
    intro i f hi hf
    obtain ⟨f, rfl⟩ : ∃ z, f = z + 1 := ⟨f - 1, by omega⟩
    rw [fX4_isWord_28, if_neg (show ¬ bsLen t ≤ nI i from fun z => by have := (pu_le (bsSl.getD t 0) i (by omega) (by omega)).mp z; omega), cq6, pu_add, byte_c hX (by omega), Option.bind_some, if_pos ((pu_in i _ (by omega)).mpr (by omega)), pu_ix i (by omega)]
    unfold wAll
    by_cases h : sn X e (q + i) = bsChr t i
    · rw [if_pos h, if_pos h, pu_succ]
      exact ih (i + 1) f (by omega) (by omega)
    · rw [if_neg h, if_neg h]; rfl
theorem word_c {X : bsX} {e q r t : Nat} {kd er ep : Int32} {mk : Nat → Int32} {Y : pY} (hX : PX X e) (hq : q ≤ r) (hr : r ≤ e) :
    fX4_isWord t (cst X kd (nI q) (nI r) er ep mk Y) = some (b2 (isW X e q r t kd), cst X kd (nI q) (nI r) er ep mk Y) := by
  have he := hX.2
  have h9 := sl_9 t
  unfold fX4_isWord isW
  rw [cq5, cq6, cq7, pu_sub r q hq]
  by_cases h2 : kd = 2
  · rw [if_pos h2, if_pos h2]
    by_cases hl : r - q = bsSl.getD t 0
    · rw [if_pos (show nI (r - q) = bsLen t by rw [hl]; rfl), if_pos hl]
      exact word_cL hX (by omega) _ 0 bsF (by omega) (by unfold bsF; omega)
    · rw [if_neg (show ¬ nI (r - q) = bsLen t from fun z => hl ((pu_eq _ _ (by omega) (by omega)).mp z)), if_neg hl]; rfl
  · rw [if_neg h2, if_neg h2]; rfl
/-- a number in the class -/
theorem num_c {X : bsX} {e q r : Nat} {er ep lo hi : Int32} {mk : Nat → Int32} {Y : pY} (hX : PX X e) (hr : r ≤ e) (hqr : r = q + 1 ∨ r = q + 2) :
    fX4_numberWithin lo hi (cst X 3 (nI q) (nI r) er ep mk Y) = if lo ≤ nmF X e q (r - q) ∧ nmF X e q (r - q) ≤ hi then some (nmF X e q (r - q), cst X 3 (nI q) (nI r) er ep mk Y) else fX4_numberWithin_63 (cst X 3 (nI q) (nI r) er ep mk Y) := by
  have he := hX.2
  obtain ⟨f, hf⟩ := bsF_5
  have fin : ∀ (m : Nat) (v : Int32), fX4_numberWithin_23 (m + 1) lo hi v (nI r) (cst X 3 (nI q) (nI r) er ep mk Y) = if lo ≤ v ∧ v ≤ hi then some (v, cst X 3 (nI q) (nI r) er ep mk Y) else fX4_numberWithin_63 (cst X 3 (nI q) (nI r) er ep mk Y) := by
    intro m v
    rw [fX4_numberWithin_23, cq7, if_pos (Int32.le_refl _)]
    by_cases h1 : v < lo
    · rw [if_pos h1, if_neg (fun z => absurd z.1 (pu_nle.mpr h1))]
    · rw [if_neg h1]
      by_cases h2 : v ≤ hi
      · rw [if_pos h2, if_pos ⟨pu_nlt.mp h1, h2⟩]
      · rw [if_neg h2, if_neg (fun z => h2 z.2)]
  have step : ∀ (m i : Nat) (v : Int32), i < r → fX4_numberWithin_23 (m + 1) lo hi v (nI i) (cst X 3 (nI q) (nI r) er ep mk Y) = fX4_numberWithin_23 m lo hi (((v * (10 : Int32)) + sn X e i) - 48) (nI (i + 1)) (cst X 3 (nI q) (nI r) er ep mk Y) := by
    intro m i v hi'
    rw [fX4_numberWithin_23, cq7, if_neg (fun z => by have := (pu_le r i (by omega) (by omega)).mp z; omega), byte_c hX (by omega), Option.bind_some, pu_succ]
  unfold fX4_numberWithin
  rw [cq5, if_pos rfl, cq6, hf]
  rcases hqr with rfl | rfl
  · have e1 : q + 1 - q = 1 := by omega
    rw [step _ q _ (by omega), fin, e1]
    have : ((0 : Int32) * 10 + sn X e q) - 48 = nmF X e q 1 := by rw [Int32.mul_comm]; rfl
    rw [this]
  · have e1 : q + 2 - q = 2 := by omega
    rw [step _ q _ (by omega), step _ (q + 1) _ (by omega), fin, e1]
    have : ((((0 : Int32) * 10 + sn X e q) - 48) * 10 + sn X e (q + 1)) - 48 = nmF X e q 2 := by
      rw [Int32.mul_comm 0 10, Int32.mul_comm _ 10]; rfl
    rw [this]
def MR (n : Nat) (Y : pY) : Prop := wm 0 n 0 Y ∧ Y 0 0 10 = 0 ∧ Y 0 0 11 = -1 ∧ Y 2 0 1 = -1
theorem wm_size {n : Nat} {Y : pY} (h : wm 0 n 0 Y) (hn : n < 6) (h11 : Y 0 0 11 = -1) (h21 : Y 2 0 1 = -1) : wm 0 (n + 1) 0 (wr Y 0 0 4 (nI (n + 1))) := by
  have r : ∀ q, q ≠ 4 → wr Y 0 0 4 (nI (n + 1)) 0 0 q = Y 0 0 q := by intro q e; rw [wr_rd, if_neg (by omega)]
  have r2 : ∀ K j q, K ≠ 0 → wr Y 0 0 4 (nI (n + 1)) K j q = Y K j q := by intro K j q e; rw [wr_rd, if_neg (by omega)]
  refine ⟨by omega, by simp [b2_t, b2_f, up_at, up_up, up_id, wr_rd], ?_, ?_, ?_, ?_, ?_, ?_, ?_, ?_, ?_, ?_, ?_, ?_, ?_, ?_⟩
  · intro q hq
    have hs := h.sl q hq
    unfold wS at hs ⊢
    simp only [r2 _ _ _ (show (6 : Nat) ≠ 0 by decide), r2 _ _ _ (show (5 : Nat) ≠ 0 by decide)]
    exact hs
  · intro q q1 q2
    have := h.hi q (by omega) q2
    simp only [r2 _ _ _ (show (6 : Nat) ≠ 0 by decide), r2 _ _ _ (show (5 : Nat) ≠ 0 by decide)]
    exact this
  · rw [r 10 (by decide)]; exact h.on
  · rw [r 11 (by decide)]; exact Or.inl h11
  · rw [r 5 (by decide)]; exact h.wat
  · rw [r 6 (by decide)]; exact h.lim
  · rw [r 7 (by decide)]; exact h.ret
  · rw [r 8 (by decide)]; exact h.flo
  · rw [r 9 (by decide)]; exact h.tim
  · rw [r 12 (by decide)]; exact h.age
  · rw [r2 _ _ _ (by decide)]; exact h.tot
  · simp only [r2 _ _ _ (show (6 : Nat) ≠ 0 by decide)]; exact h.pim
  · rw [r2 _ _ _ (by decide)]; exact Or.inl h21
  · intro q hq
    rw [r2 _ _ _ (by decide), r2 _ _ _ (by decide), r2 _ _ _ (by decide)]
    exact h.log q hq
def imgC (k : Nat) (v1 v2 v3 : Int32) (X : bsX) : Option bsX := (fX1_set 1 k v1 v2 v3 X).bind fun r9 => (fX4_takeIfWord 3 r9).bind fun r11 => if r11.1 = 0 ∨ r11.1 = 1 then ((fX4_takeIfWord 4 (bsWr r11.2 1 6 k 4 r11.1)).bind fun r14 => if r14.1 = 0 ∨ r14.1 = 1 then ((fX5_setMark 1 k (1 : Int32) (1 : Int32) (0 : Int32) (bsWr r14.2 1 6 k 5 r14.1)).bind fun r17 => some r17) else none) else none
def imgB (k : Nat) (v1 v2 : Int32) (X : bsX) : Option bsX := (fX4_takeNumber (0 : Int32) (99 : Int32) X).bind fun r7 => imgC k v1 v2 r7.1 r7.2
def imgA (k : Nat) (v1 : Int32) (X : bsX) : Option bsX := (fX4_takeNumber (1 : Int32) (99 : Int32) X).bind fun r5 => imgB k v1 r5.1 r5.2
theorem img49 (k : Nat) (X : bsX) : fX4_readImageLine_49 1 k X = (fX4_readToken X).bind fun r1 => (fX4_takeNumber (0 : Int32) (99 : Int32) r1).bind fun r3 => imgA k r3.1 r3.2 := rfl
def sImgL (k : Nat) (v1 v2 v3 : Int32) (b b' : Bool) (Y : pY) : pY := wr (wr (wr (wr (wr (wr (wr (wr (wr (wr (wr Y 6 k 0 1) 6 k 1 v1) 6 k 2 v2) 6 k 3 v3) 6 k 4 0) 6 k 5 0) 6 k 4 (b2 b)) 6 k 5 (b2 b')) 5 k 2 1) 5 k 3 1) 5 k 4 0
theorem set_c {X : bsX} {k : Nat} {kd ts te er ep v1 v2 v3 : Int32} {mk : Nat → Int32} {Y : pY} : fX1_set 1 k v1 v2 v3 (cst X kd ts te er ep mk Y) = some (cst X kd ts te er ep mk (wr (wr (wr (wr (wr (wr Y 6 k 0 1) 6 k 1 v1) 6 k 2 v2) 6 k 3 v3) 6 k 4 0) 6 k 5 0)) := by
  unfold fX1_set; simp only [cw1]
theorem mark_c {X : bsX} {k : Nat} {kd ts te er ep p t : Int32} {b : Bool} {mk : Nat → Int32} {Y : pY} : fX5_setMark 1 k p t (b2 b) (cst X kd ts te er ep mk Y) = some (cst X kd ts te er ep mk (wr (wr (wr Y 5 k 2 p) 5 k 3 t) 5 k 4 (b2 b))) := by
  unfold fX5_setMark
  rw [if_pos (b2_01 b)]
  simp only [cw1]
theorem MR_img {n k : Nat} {v1 v2 v3 : Int32} {b b' : Bool} {Y : pY} (h : MR n Y) (hk : k < n) (h1 : rng v1 0 99) (h2 : rng v2 0 99) (h3 : rng v3 0 99) : MR n (sImgL k v1 v2 v3 b b' Y) := by
  obtain ⟨m1, m2, m3, m4⟩ := h
  have h6 := m1.hn
  have r0 : ∀ K j i, K ≠ 5 → K ≠ 6 → sImgL k v1 v2 v3 b b' Y K j i = Y K j i := by
    intro K j i p q; unfold sImgL; simp [b2_t, b2_f, up_at, up_up, up_id, wr_rd, p, q]
  have r5 : ∀ q i, sImgL k v1 v2 v3 b b' Y 5 q i = if q = k ∧ i = 4 then 0 else if q = k ∧ i = 3 then 1 else if q = k ∧ i = 2 then 1 else Y 5 q i := by
    intro q i; unfold sImgL; simp [b2_t, b2_f, up_at, up_up, up_id, wr_rd]
  have r6 : ∀ q i, sImgL k v1 v2 v3 b b' Y 6 q i = if q = k ∧ i = 5 then b2 b' else if q = k ∧ i = 4 then b2 b else if q = k ∧ i = 5 then 0 else if q = k ∧ i = 4 then 0 else if q = k ∧ i = 3 then v3 else if q = k ∧ i = 2 then v2 else if q = k ∧ i = 1 then v1 else if q = k ∧ i = 0 then 1 else Y 6 q i := by
    intro q i; unfold sImgL; simp only [wr_rd]; simp [b2_t, b2_f, up_at, up_up, up_id]
  have hk6 : ¬ 6 = k := by omega
  have p6 : ∀ i, sImgL k v1 v2 v3 b b' Y 6 6 i = Y 6 6 i := by intro i; rw [r6]; simp [b2_t, b2_f, up_at, up_up, up_id, hk6]
  have e1 : rng 1 0 15 := ⟨1, by omega, by omega, rfl⟩
  have e2 : rng 1 0 7 := ⟨1, by omega, by omega, rfl⟩
  refine ⟨⟨h6, ?_, ?_, ?_, ?_, ?_, ?_, ?_, ?_, ?_, ?_, ?_, ?_, ?_, ?_, ?_⟩, by rw [r0 _ _ _ (by decide) (by decide)]; exact m2, by rw [r0 _ _ _ (by decide) (by decide)]; exact m3, by rw [r0 _ _ _ (by decide) (by decide)]; exact m4⟩
  · rw [r0 _ _ _ (by decide) (by decide)]; exact m1.sz
  · intro q hq
    have hs := m1.sl q hq
    unfold wS at hs ⊢
    by_cases e : q = k
    · subst e
      simp only [r5, r6]
      simp [b2_t, b2_f, up_at, up_up, up_id, h1, h2, h3, e1, e2, is01, b2_01]
    · simp only [r5, r6]
      simpa [b2_t, b2_f, up_at, up_up, up_id, e] using hs
  · intro q q1 q2
    have e : q ≠ k := by omega
    have := m1.hi q q1 q2
    simp only [r5, r6]
    simpa [b2_t, b2_f, up_at, up_up, up_id, e] using this
  · rw [r0 _ _ _ (by decide) (by decide)]; exact m1.on
  · rw [r0 _ _ _ (by decide) (by decide)]; exact Or.inl m3
  · rw [r0 _ _ _ (by decide) (by decide)]; exact m1.wat
  · rw [r0 _ _ _ (by decide) (by decide)]; exact m1.lim
  · rw [r0 _ _ _ (by decide) (by decide)]; exact m1.ret
  · rw [r0 _ _ _ (by decide) (by decide)]; exact m1.flo
  · rw [r0 _ _ _ (by decide) (by decide)]; exact m1.tim
  · rw [r0 _ _ _ (by decide) (by decide)]; exact m1.age
  · rw [r0 _ _ _ (by decide) (by decide)]; exact m1.tot
  · rw [p6, p6, p6]; exact m1.pim
  · rw [r0 _ _ _ (by decide) (by decide)]; exact Or.inl m4
  · intro q hq
    rw [r0 _ _ _ (by decide) (by decide), r0 _ _ _ (by decide) (by decide), r0 _ _ _ (by decide) (by decide)]
    exact m1.log q hq
def mrkC (k : Nat) (p t : Int32) (X : bsX) : Option bsX := (fX4_takeIfWord 6 X).bind fun r11 => (fX5_setMark 1 k p t r11.1 r11.2).bind fun r13 => some r13
def mrkB (k : Nat) (p : Int32) (X : bsX) : Option bsX := (fX4_takeNumber (0 : Int32) (7 : Int32) X).bind fun r9 => mrkC k p r9.1 r9.2
def mrkA (k : Nat) (X : bsX) : Option bsX := (fX4_takeNumber (0 : Int32) (15 : Int32) X).bind fun r7 => mrkB k r7.1 r7.2
theorem mrk63 (k : Nat) (x2 : Int32) (X : bsX) : fX4_readMarkLine_63 1 x2 k X = if bsIn x2 6 then ((fX4_readToken (bsWr X 13 7 0 (bsIx x2) (vp_nar .boolean (1 : Int32)))).bind fun r5 => mrkA k r5) else none := rfl
theorem nar_b1 : vp_nar .boolean (1 : Int32) = 1 := by decide
theorem MR_mark {n k : Nat} {p t : Int32} {b : Bool} {Y : pY} (h : MR n Y) (hk : k < n) (hp : Y 6 k 0 ≠ 0) (h1 : rng p 0 15) (h2 : rng t 0 7) : MR n (wr (wr (wr Y 5 k 2 p) 5 k 3 t) 5 k 4 (b2 b)) := by
  obtain ⟨m1, m2, m3, m4⟩ := h
  have h6 := m1.hn
  have hb := b2_01 b
  refine ⟨m1.of (by simp [b2_t, b2_f, up_at, up_up, up_id, wr_rd]) (by simpa [b2_t, b2_f, up_at, up_up, up_id, wr_rd] using m1.flo) (by simpa [b2_t, b2_f, up_at, up_up, up_id, wr_rd] using m1.tim) (by simpa [b2_t, b2_f, up_at, up_up, up_id, wr_rd] using m1.age) (by simpa [b2_t, b2_f, up_at, up_up, up_id, wr_rd] using m1.tot) (by simp [b2_t, b2_f, up_at, up_up, up_id, wr_rd]) ?_ (by simp [b2_t, b2_f, up_at, up_up, up_id, wr_rd]) (fun q h1 h2 => by have e : q ≠ k := (by omega); simpa [b2_t, b2_f, up_at, up_up, up_id, wr_rd, e] using (m1.hi q h1 h2).2) (by simp [b2_t, b2_f, up_at, up_up, up_id, wr_rd]) (Nat.le_refl _), by simpa [b2_t, b2_f, up_at, up_up, up_id, wr_rd] using m2, by simpa [b2_t, b2_f, up_at, up_up, up_id, wr_rd] using m3, by simpa [b2_t, b2_f, up_at, up_up, up_id, wr_rd] using m4⟩
  intro q hq
  have hs := m1.sl q hq
  by_cases e : q = k
  · subst e
    have hb' : is01 (b2 b) := b2_01 b
    simp_all [wS, wr_rd]
  · simpa [b2_t, b2_f, up_at, up_up, up_id, wS, wr_rd, e] using hs
def fl3 (X : bsX) : Option bsX := (fX4_takeNumber (0 : Int32) (99 : Int32) X).bind fun r9 => some (bsWr r9.2 1 0 0 8 r9.1)
def fl2 (X : bsX) : Option bsX := (fX4_takeNumber (0 : Int32) (7 : Int32) X).bind fun r7 => fl3 (bsWr r7.2 1 0 0 7 r7.1)
def fl1 (X : bsX) : Option bsX := (fX4_takeNumber (1 : Int32) (9 : Int32) X).bind fun r5 => fl2 (bsWr r5.2 1 0 0 6 r5.1)
def fl0 (X : bsX) : Option bsX := (fX4_takeNumber (1 : Int32) (99 : Int32) X).bind fun r3 => fl1 (bsWr r3.2 1 0 0 5 r3.1)
theorem fl14 (X : bsX) : fX4_readFirstLine_14 1 X = (fX4_readToken X).bind fun r1 => fl0 r1 := rfl
theorem MR_first {Y : pY} {a b c d : Int32} (ha : alike Y blankY) (h1 : rng a 1 99) (h2 : rng b 1 9) (h3 : rng c 0 7) (h4 : rng d 0 99) : MR 0 (wr (wr (wr (wr Y 0 0 5 a) 0 0 6 b) 0 0 7 c) 0 0 8 d) := by
  have z : ∀ K j i, real K j i → ¬ (K = 0 ∧ j = 0 ∧ i = 11) → ¬ (K = 2 ∧ j = 0 ∧ i = 1) → Y K j i = 0 := by
    intro K j i r p q
    rw [ha K j i r]
    unfold blankY
    rw [if_neg (fun t => t.elim p q)]
  have n11 : Y 0 0 11 = -1 := by rw [ha 0 0 11 (by unfold real; omega)]; rfl
  have n21 : Y 2 0 1 = -1 := by rw [ha 2 0 1 (by unfold real; omega)]; rfl
  have r0 : ∀ K j i, ¬ (K = 0 ∧ j = 0 ∧ 5 ≤ i ∧ i ≤ 8) → wr (wr (wr (wr Y 0 0 5 a) 0 0 6 b) 0 0 7 c) 0 0 8 d K j i = Y K j i := by
    intro K j i p
    rw [wr_rd, if_neg (by omega), wr_rd, if_neg (by omega), wr_rd, if_neg (by omega), wr_rd, if_neg (by omega)]
  refine ⟨⟨by omega, ?_, ?_, ?_, ?_, ?_, ?_, ?_, ?_, ?_, ?_, ?_, ?_, ?_, ?_, ?_⟩, ?_, ?_, ?_⟩
  · rw [r0 _ _ _ (by omega), z 0 0 4 (by unfold real; omega) (by omega) (by omega)]; rfl
  · intro q hq
    have s5 : ∀ i, 2 ≤ i → i ≤ 8 → wr (wr (wr (wr Y 0 0 5 a) 0 0 6 b) 0 0 7 c) 0 0 8 d 5 q i = 0 := by intro i p r; rw [r0 _ _ _ (by omega), z 5 q i (by unfold real; omega) (by omega) (by omega)]
    have s6 : ∀ i, i ≤ 5 → wr (wr (wr (wr Y 0 0 5 a) 0 0 6 b) 0 0 7 c) 0 0 8 d 6 q i = 0 := by intro i p; rw [r0 _ _ _ (by omega), z 6 q i (by unfold real; omega) (by omega) (by omega)]
    unfold wS
    rw [s5 2 (by omega) (by omega), s5 3 (by omega) (by omega), s5 4 (by omega) (by omega), s5 5 (by omega) (by omega), s6 0 (by omega), s6 1 (by omega), s6 2 (by omega), s6 3 (by omega), s6 4 (by omega), s6 5 (by omega)]
    exact ⟨Or.inl rfl, Or.inl rfl, Or.inl rfl, Or.inl rfl, rng.z 15, rng.z 7, rng.z 99, rng.z 99, rng.z 99, fun _ => ⟨rfl, rfl, rfl, rfl, rfl, rfl, rfl, rfl, rfl⟩⟩
  · intro k _ hk
    rw [r0 _ _ _ (by omega), r0 _ _ _ (by omega), r0 _ _ _ (by omega), r0 _ _ _ (by omega)]
    exact ⟨z 6 k 0 (by unfold real; omega) (by omega) (by omega), z 5 k 6 (by unfold real; omega) (by omega) (by omega), z 5 k 7 (by unfold real; omega) (by omega) (by omega), z 5 k 8 (by unfold real; omega) (by omega) (by omega)⟩
  · rw [r0 _ _ _ (by omega), z 0 0 10 (by unfold real; omega) (by omega) (by omega)]; exact Or.inl rfl
  · rw [r0 _ _ _ (by omega)]; exact Or.inl n11
  · simpa [b2_t, b2_f, up_at, up_up, up_id, wr_rd] using h1
  · simpa [b2_t, b2_f, up_at, up_up, up_id, wr_rd] using h2
  · simpa [b2_t, b2_f, up_at, up_up, up_id, wr_rd] using h3
  · simpa [b2_t, b2_f, up_at, up_up, up_id, wr_rd] using h4
  · rw [r0 _ _ _ (by omega), z 0 0 9 (by unfold real; omega) (by omega) (by omega)]; rfl
  · rw [r0 _ _ _ (by omega), z 0 0 12 (by unfold real; omega) (by omega) (by omega)]; exact rng.z 0
  · rw [r0 _ _ _ (by omega), z 3 0 4 (by unfold real; omega) (by omega) (by omega)]; exact rng.z 0
  · rw [r0 _ _ _ (by omega), r0 _ _ _ (by omega), r0 _ _ _ (by omega), z 6 6 0 (by unfold real; omega) (by omega) (by omega), z 6 6 4 (by unfold real; omega) (by omega) (by omega), z 6 6 5 (by unfold real; omega) (by omega) (by omega)]
    exact ⟨Or.inl rfl, Or.inl rfl, Or.inl rfl⟩
  · rw [r0 _ _ _ (by omega)]; exact Or.inl n21
  · intro i hi
    rw [r0 _ _ _ (by omega), r0 _ _ _ (by omega), r0 _ _ _ (by omega), z 7 0 i (by unfold real; omega) (by omega) (by omega), z 8 0 i (by unfold real; omega) (by omega) (by omega), z 10 0 i (by unfold real; omega) (by omega) (by omega)]
    exact ⟨rng.z 0, rng.z 4, Or.inr (rng.z 5)⟩
  · rw [r0 _ _ _ (by omega)]; exact z 0 0 10 (by unfold real; omega) (by omega) (by omega)
  · rw [r0 _ _ _ (by omega)]; exact n11
  · rw [r0 _ _ _ (by omega)]; exact n21
theorem qX3_copyB {g g2 : Nat} {X : bsX} (hne : g2 ≠ g) (hs : ∀ k, k < 6 → is01 (X g2 6 k 0) ∧ is01 (X g2 6 k 4) ∧ is01 (X g2 6 k 5) ∧ is01 (X g2 5 k 4)) (hp : is01 (X g2 6 6 0) ∧ is01 (X g2 6 6 4) ∧ is01 (X g2 6 6 5)) (ho : is01 (X g2 0 0 10)) : fX3_copyFrom g g2 X = some (up X g (sCopy (X g2) (X g))) := by
  have hon := ho
  unfold is01 at hon
  have := (pu_loop (N := 6) (fun n k (Y : pY) => fX3_copyFrom_2 g g2 n (nI k) (up X g Y)) (fun k Y => sCpS k (X g2) Y) (fun Y => up X g (sCpN (X g2) (sCpT (X g2) (sCpLog (X g2) (sCpP (X g2) Y))))) (fun _ _ => True) ?_ ?_ 6 0 bsF (X g) rfl (by decide) trivial).1
  · simp only [up_id] at this; exact this
  · intro n k Y hk _
    refine ⟨?_, trivial⟩
    obtain ⟨s1, s2, s3, s4⟩ := hs k hk
    simp only [fX3_copyFrom_2, pu_le6 hk, pu_inT hk (by decide), pu_ix6 hk, pu_succ, if_false, if_true]
    rw [qX5_copy hne (by rw [up_ne _ _ hne]; exact s1) (by rw [up_ne _ _ hne]; exact s2) (by rw [up_ne _ _ hne]; exact s3) (by rw [up_ne _ _ hne]; exact s4)]
    simp only [Option.bind_some, up_at, up_up, up_ne _ _ hne]
  · intro n Y _
    simp only [fX3_copyFrom_2, pu_66, if_true, fX2_copyFrom]
    rw [qX1_copy (Or.inl (Ne.symm hne)) (by rw [up_ne _ _ hne]; exact hp.1) (by rw [up_ne _ _ hne]; exact hp.2.1) (by rw [up_ne _ _ hne]; exact hp.2.2)]
    simp only [Option.bind_some, up_wr, up_at, up_up, up_ne _ _ hne, qX0_copy hne, fX6_copyFrom, hon, if_true, sCpN, sCpT, sCpP, sCpI]
theorem alike_trans {A B C : pY} (h : alike A B) (g : alike B C) : alike A C := fun K j i r => (h K j i r).trans (g K j i r)
theorem copy_blank {X : bsX} (h : alike (X 12) blankY) : fX3_copyFrom 1 12 X = some (up X 1 (sCopy (X 12) (X 1))) := by
  have z : ∀ K j i, real K j i → ¬ (K = 0 ∧ j = 0 ∧ i = 11) → ¬ (K = 2 ∧ j = 0 ∧ i = 1) → X 12 K j i = 0 := by
    intro K j i r p q
    rw [h K j i r]
    unfold blankY
    rw [if_neg (fun t => t.elim p q)]
  refine qX3_copyB (by decide) (fun k hk => ⟨Or.inl (z 6 k 0 (by unfold real; omega) (by omega) (by omega)), Or.inl (z 6 k 4 (by unfold real; omega) (by omega) (by omega)), Or.inl (z 6 k 5 (by unfold real; omega) (by omega) (by omega)), Or.inl (z 5 k 4 (by unfold real; omega) (by omega) (by omega))⟩) ⟨Or.inl (z 6 6 0 (by unfold real; omega) (by omega) (by omega)), Or.inl (z 6 6 4 (by unfold real; omega) (by omega) (by omega)), Or.inl (z 6 6 5 (by unfold real; omega) (by omega) (by omega))⟩ (Or.inl (z 0 0 10 (by unfold real; omega) (by omega) (by omega)))
theorem cst_id (Z : bsX) : cst Z (Z 13 1 0 5) (Z 13 1 0 6) (Z 13 1 0 7) (Z 13 1 0 8) (Z 13 1 0 9) (fun i => Z 13 7 0 i) (Z 1) = Z := by
  funext a b c d
  unfold cst
  by_cases h5 : a = 13 ∧ b = 1 ∧ c = 0 ∧ d = 5
  · rw [if_pos h5, h5.1, h5.2.1, h5.2.2.1, h5.2.2.2]
  · rw [if_neg h5]
    by_cases h6 : a = 13 ∧ b = 1 ∧ c = 0 ∧ d = 6
    · rw [if_pos h6, h6.1, h6.2.1, h6.2.2.1, h6.2.2.2]
    · rw [if_neg h6]
      by_cases h7 : a = 13 ∧ b = 1 ∧ c = 0 ∧ d = 7
      · rw [if_pos h7, h7.1, h7.2.1, h7.2.2.1, h7.2.2.2]
      · rw [if_neg h7]
        by_cases h8 : a = 13 ∧ b = 1 ∧ c = 0 ∧ d = 8
        · rw [if_pos h8, h8.1, h8.2.1, h8.2.2.1, h8.2.2.2]
        · rw [if_neg h8]
          by_cases h9 : a = 13 ∧ b = 1 ∧ c = 0 ∧ d = 9
          · rw [if_pos h9, h9.1, h9.2.1, h9.2.2.1, h9.2.2.2]
          · rw [if_neg h9]
            by_cases hm : a = 13 ∧ b = 7 ∧ c = 0 ∧ d < 6
            · rw [if_pos hm, hm.1, hm.2.1, hm.2.2.1]
            · rw [if_neg hm]
              by_cases h1 : a = 1
              · rw [if_pos h1, h1]
              · rw [if_neg h1]
theorem cst_789 (Z : bsX) (a b c : Int32) : bsWr (bsWr (bsWr Z 13 1 0 7 a) 13 1 0 8 b) 13 1 0 9 c = cst Z (Z 13 1 0 5) (Z 13 1 0 6) a b c (fun i => Z 13 7 0 i) (Z 1) := by
  have h := cst_id Z
  have : bsWr (bsWr (bsWr (cst Z (Z 13 1 0 5) (Z 13 1 0 6) (Z 13 1 0 7) (Z 13 1 0 8) (Z 13 1 0 9) (fun i => Z 13 7 0 i) (Z 1)) 13 1 0 7 a) 13 1 0 8 b) 13 1 0 9 c = cst Z (Z 13 1 0 5) (Z 13 1 0 6) a b c (fun i => Z 13 7 0 i) (Z 1) := by rw [cw7, cw8, cw9]
  rw [h] at this
  exact this
theorem nar_b0 : vp_nar .boolean (0 : Int32) = 0 := by decide
theorem marks_0 {X : bsX} {kd ts te er ep x : Int32} {Y : pY} : ∀ (d i f : Nat) (mk : Nat → Int32), i + d = 6 → d < f → (∀ j, j < i → mk j = 0) → ∃ mk', (∀ j, j < 6 → mk' j = 0) ∧
    fX4_parse_27 1 f x (nI i) (cst X kd ts te er ep mk Y) = ((fX3_copyFrom 1 12 (cst X kd ts te er ep mk' Y)).bind fun r6 => (fX4_readToken r6).bind fun r8 => (fX4_readFirstLine 1 r8).bind fun r10 => fX4_parse_65 1 bsF x (0 : Int32) r10) := by
  intro d
  induction d with
  | zero =>
    intro i f mk hi hf hm
    obtain ⟨f, rfl⟩ : ∃ z, f = z + 1 := ⟨f - 1, by omega⟩
    obtain rfl : i = 6 := by omega
    refine ⟨mk, hm, ?_⟩
    rw [fX4_parse_27, if_pos (show (6 : Int32) ≤ nI 6 by decide)]
  | succ d ih =>
    intro i f mk hi hf hm
    obtain ⟨f, rfl⟩ : ∃ z, f = z + 1 := ⟨f - 1, by omega⟩
    have hi6 : i < 6 := by omega
    obtain ⟨mk', h1, h2⟩ := ih (i + 1) f (pt mk i 0) (by omega) (by omega) (fun j hj => by
      unfold pt
      by_cases e : j = i
      · rw [if_pos e]
      · rw [if_neg e]; exact hm j (by omega))
    refine ⟨mk', h1, ?_⟩
    rw [fX4_parse_27, if_neg (show ¬ (6 : Int32) ≤ nI i from fun z => by have := (pu_le 6 i (by omega) (by decide)).mp z; omega), if_pos ((pu_in i 6 (by omega)).mpr hi6), pu_ix i (by omega), nar_b0, cwM hi6, pu_succ]
    exact h2
theorem load75 {X : bsX} : fX8_load_75 bsF 0 X = some (0, X 0 0 0 4, bsWr (bsWr X 13 5 0 0 0) 13 5 0 1 0) := by
  obtain ⟨f, hf⟩ := bsF_5
  rw [hf, fX8_load_75, if_neg (by decide), if_pos (show bsIn (0 : Int32) 2 by decide), show bsIx (0 : Int32) = 0 by decide, nar_b0, show (0 : Int32) + 1 = 1 by decide, fX8_load_75, if_neg (by decide), if_pos (show bsIn (1 : Int32) 2 by decide), show bsIx (1 : Int32) = 1 by decide, nar_b0, show (1 : Int32) + 1 = 2 by decide, fX8_load_75, if_pos (by decide)]
  congr 3
