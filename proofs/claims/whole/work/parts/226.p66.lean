/-! READING: states of the class's parser and of the reference's -/
def cst (X : bsX) (kd ts te er ep : Int32) (mk : Nat → Int32) (Y : pY) : bsX := fun a b c d => if a = 13 ∧ b = 1 ∧ c = 0 ∧ d = 5 then kd else if a = 13 ∧ b = 1 ∧ c = 0 ∧ d = 6 then ts else if a = 13 ∧ b = 1 ∧ c = 0 ∧ d = 7 then te else if a = 13 ∧ b = 1 ∧ c = 0 ∧ d = 8 then er else if a = 13 ∧ b = 1 ∧ c = 0 ∧ d = 9 then ep else if a = 13 ∧ b = 7 ∧ c = 0 ∧ d < 6 then mk d else if a = 1 then Y b c d else X a b c d
def rst (W : bsX) (te ts kd nm er ep mr : Int32) (R : Nat → Int32) : bsX := fun a b c d => if a = 14 ∧ b = 0 ∧ c = 0 ∧ d = 11 then te else if a = 14 ∧ b = 0 ∧ c = 0 ∧ d = 12 then ts else if a = 14 ∧ b = 0 ∧ c = 0 ∧ d = 13 then kd else if a = 14 ∧ b = 0 ∧ c = 0 ∧ d = 14 then nm else if a = 14 ∧ b = 0 ∧ c = 0 ∧ d = 15 then er else if a = 14 ∧ b = 0 ∧ c = 0 ∧ d = 16 then ep else if a = 14 ∧ b = 0 ∧ c = 0 ∧ d = 18 then mr else if a = 14 ∧ b = 1 ∧ c = 0 then R d else W a b c d
theorem c4 {X : bsX} {kd ts te er ep : Int32} {mk : Nat → Int32} {Y : pY} : cst X kd ts te er ep mk Y 13 1 0 4 = X 13 1 0 4 := by unfold cst; simp [b2_t, b2_f, up_at, up_up, up_id]
theorem c5 {X : bsX} {kd ts te er ep : Int32} {mk : Nat → Int32} {Y : pY} : cst X kd ts te er ep mk Y 13 1 0 5 = kd := by unfold cst; simp [b2_t, b2_f, up_at, up_up, up_id]
theorem c6 {X : bsX} {kd ts te er ep : Int32} {mk : Nat → Int32} {Y : pY} : cst X kd ts te er ep mk Y 13 1 0 6 = ts := by unfold cst; simp [b2_t, b2_f, up_at, up_up, up_id]
theorem c7 {X : bsX} {kd ts te er ep : Int32} {mk : Nat → Int32} {Y : pY} : cst X kd ts te er ep mk Y 13 1 0 7 = te := by unfold cst; simp [b2_t, b2_f, up_at, up_up, up_id]
theorem c8 {X : bsX} {kd ts te er ep : Int32} {mk : Nat → Int32} {Y : pY} : cst X kd ts te er ep mk Y 13 1 0 8 = er := by unfold cst; simp [b2_t, b2_f, up_at, up_up, up_id]
theorem c9 {X : bsX} {kd ts te er ep : Int32} {mk : Nat → Int32} {Y : pY} : cst X kd ts te er ep mk Y 13 1 0 9 = ep := by unfold cst; simp [b2_t, b2_f, up_at, up_up, up_id]
theorem cB {X : bsX} {kd ts te er ep : Int32} {mk : Nat → Int32} {Y : pY} (i : Nat) : cst X kd ts te er ep mk Y 13 6 0 i = X 13 6 0 i := by unfold cst; simp [b2_t, b2_f, up_at, up_up, up_id]
theorem cM {X : bsX} {kd ts te er ep : Int32} {mk : Nat → Int32} {Y : pY} {i : Nat} (h : i < 6) : cst X kd ts te er ep mk Y 13 7 0 i = mk i := by unfold cst; simp [b2_t, b2_f, up_at, up_up, up_id, h]
theorem cY {X : bsX} {kd ts te er ep : Int32} {mk : Nat → Int32} {Y : pY} : cst X kd ts te er ep mk Y 1 = Y := by funext b c d; unfold cst; simp [b2_t, b2_f, up_at, up_up, up_id]
theorem cg {X : bsX} {kd ts te er ep : Int32} {mk : Nat → Int32} {Y : pY} {g : Nat} (h1 : g ≠ 1) (h2 : g ≠ 13) : cst X kd ts te er ep mk Y g = X g := by funext b c d; unfold cst; simp [b2_t, b2_f, up_at, up_up, up_id, h1, h2]
theorem cw5 {X : bsX} {kd ts te er ep : Int32} {mk : Nat → Int32} {Y : pY} {v : Int32} : bsWr (cst X kd ts te er ep mk Y) 13 1 0 5 v = cst X v ts te er ep mk Y := by
  funext a b c d; unfold bsWr cst
  by_cases h : a = 13 ∧ b = 1 ∧ c = 0 ∧ d = 5
  · obtain ⟨rfl, rfl, rfl, rfl⟩ := h; simp [b2_t, b2_f, up_at, up_up, up_id]
  · simp only [h, if_false]
theorem cw6 {X : bsX} {kd ts te er ep : Int32} {mk : Nat → Int32} {Y : pY} {v : Int32} : bsWr (cst X kd ts te er ep mk Y) 13 1 0 6 v = cst X kd v te er ep mk Y := by
  funext a b c d; unfold bsWr cst
  by_cases h : a = 13 ∧ b = 1 ∧ c = 0 ∧ d = 6
  · obtain ⟨rfl, rfl, rfl, rfl⟩ := h; simp [b2_t, b2_f, up_at, up_up, up_id]
  · simp only [h, if_false]
theorem cw7 {X : bsX} {kd ts te er ep : Int32} {mk : Nat → Int32} {Y : pY} {v : Int32} : bsWr (cst X kd ts te er ep mk Y) 13 1 0 7 v = cst X kd ts v er ep mk Y := by
  funext a b c d; unfold bsWr cst
  by_cases h : a = 13 ∧ b = 1 ∧ c = 0 ∧ d = 7
  · obtain ⟨rfl, rfl, rfl, rfl⟩ := h; simp [b2_t, b2_f, up_at, up_up, up_id]
  · simp only [h, if_false]
theorem cw8 {X : bsX} {kd ts te er ep : Int32} {mk : Nat → Int32} {Y : pY} {v : Int32} : bsWr (cst X kd ts te er ep mk Y) 13 1 0 8 v = cst X kd ts te v ep mk Y := by
  funext a b c d; unfold bsWr cst
  by_cases h : a = 13 ∧ b = 1 ∧ c = 0 ∧ d = 8
  · obtain ⟨rfl, rfl, rfl, rfl⟩ := h; simp [b2_t, b2_f, up_at, up_up, up_id]
  · simp only [h, if_false]
theorem cw9 {X : bsX} {kd ts te er ep : Int32} {mk : Nat → Int32} {Y : pY} {v : Int32} : bsWr (cst X kd ts te er ep mk Y) 13 1 0 9 v = cst X kd ts te er v mk Y := by
  funext a b c d; unfold bsWr cst
  by_cases h : a = 13 ∧ b = 1 ∧ c = 0 ∧ d = 9
  · obtain ⟨rfl, rfl, rfl, rfl⟩ := h; simp [b2_t, b2_f, up_at, up_up, up_id]
  · simp only [h, if_false]
theorem cwM {X : bsX} {kd ts te er ep : Int32} {mk : Nat → Int32} {Y : pY} {v : Int32} {k : Nat} (hk : k < 6) : bsWr (cst X kd ts te er ep mk Y) 13 7 0 k v = cst X kd ts te er ep (pt mk k v) Y := by
  funext a b c d; unfold bsWr cst
  by_cases h : a = 13 ∧ b = 7 ∧ c = 0 ∧ d = k
  · obtain ⟨rfl, rfl, rfl, rfl⟩ := h; simp [b2_t, b2_f, up_at, up_up, up_id, hk, pt]
  · simp only [h, if_false]
    by_cases h2 : a = 13 ∧ b = 7 ∧ c = 0 ∧ d < 6
    · obtain ⟨rfl, rfl, rfl, h3⟩ := h2
      have hd : d ≠ k := fun q => h ⟨rfl, rfl, rfl, q⟩
      simp [b2_t, b2_f, up_at, up_up, up_id, h3, pt, hd]
    · simp only [h2, if_false]
theorem cw1 {X : bsX} {kd ts te er ep : Int32} {mk : Nat → Int32} {Y : pY} {v : Int32} {K j i : Nat} : bsWr (cst X kd ts te er ep mk Y) 1 K j i v = cst X kd ts te er ep mk (wr Y K j i v) := by
  funext a b c d; unfold bsWr cst
  by_cases h : a = 1
  · subst h
    by_cases h2 : b = K ∧ c = j ∧ d = i
    · simp [b2_t, b2_f, up_at, up_up, up_id, h2, wr_rd]
    · simp [b2_t, b2_f, up_at, up_up, up_id, h2, wr_rd]
  · simp [b2_t, b2_f, up_at, up_up, up_id, h]
theorem cup {X : bsX} {kd ts te er ep : Int32} {mk : Nat → Int32} {Y Z : pY} : up (cst X kd ts te er ep mk Y) 1 Z = cst X kd ts te er ep mk Z := by
  funext a b c d; unfold up cst
  by_cases h : a = 1
  · subst h; simp [b2_t, b2_f, up_at, up_up, up_id]
  · simp [b2_t, b2_f, up_at, up_up, up_id, h]
theorem r10 {W : bsX} {te ts kd nm er ep mr : Int32} {R : Nat → Int32} : rst W te ts kd nm er ep mr R 14 0 0 10 = W 14 0 0 10 := by unfold rst; simp [b2_t, b2_f, up_at, up_up, up_id]
theorem r11 {W : bsX} {te ts kd nm er ep mr : Int32} {R : Nat → Int32} : rst W te ts kd nm er ep mr R 14 0 0 11 = te := by unfold rst; simp [b2_t, b2_f, up_at, up_up, up_id]
theorem r12 {W : bsX} {te ts kd nm er ep mr : Int32} {R : Nat → Int32} : rst W te ts kd nm er ep mr R 14 0 0 12 = ts := by unfold rst; simp [b2_t, b2_f, up_at, up_up, up_id]
theorem r13 {W : bsX} {te ts kd nm er ep mr : Int32} {R : Nat → Int32} : rst W te ts kd nm er ep mr R 14 0 0 13 = kd := by unfold rst; simp [b2_t, b2_f, up_at, up_up, up_id]
theorem r14 {W : bsX} {te ts kd nm er ep mr : Int32} {R : Nat → Int32} : rst W te ts kd nm er ep mr R 14 0 0 14 = nm := by unfold rst; simp [b2_t, b2_f, up_at, up_up, up_id]
theorem r15 {W : bsX} {te ts kd nm er ep mr : Int32} {R : Nat → Int32} : rst W te ts kd nm er ep mr R 14 0 0 15 = er := by unfold rst; simp [b2_t, b2_f, up_at, up_up, up_id]
theorem r16 {W : bsX} {te ts kd nm er ep mr : Int32} {R : Nat → Int32} : rst W te ts kd nm er ep mr R 14 0 0 16 = ep := by unfold rst; simp [b2_t, b2_f, up_at, up_up, up_id]
theorem r18 {W : bsX} {te ts kd nm er ep mr : Int32} {R : Nat → Int32} : rst W te ts kd nm er ep mr R 14 0 0 18 = mr := by unfold rst; simp [b2_t, b2_f, up_at, up_up, up_id]
theorem rB {W : bsX} {te ts kd nm er ep mr : Int32} {R : Nat → Int32} (i : Nat) : rst W te ts kd nm er ep mr R 14 4 0 i = W 14 4 0 i := by unfold rst; simp [b2_t, b2_f, up_at, up_up, up_id]
theorem rR {W : bsX} {te ts kd nm er ep mr : Int32} {R : Nat → Int32} : rst W te ts kd nm er ep mr R 14 1 0 = R := by funext i; unfold rst; simp [b2_t, b2_f, up_at, up_up, up_id]
theorem rw11 {W : bsX} {te ts kd nm er ep mr : Int32} {R : Nat → Int32} {v : Int32} : bsWr (rst W te ts kd nm er ep mr R) 14 0 0 11 v = rst W v ts kd nm er ep mr R := by
  funext a b c d; unfold bsWr rst
  by_cases h : a = 14 ∧ b = 0 ∧ c = 0 ∧ d = 11
  · obtain ⟨rfl, rfl, rfl, rfl⟩ := h; simp [b2_t, b2_f, up_at, up_up, up_id]
  · simp only [h, if_false]
theorem rw12 {W : bsX} {te ts kd nm er ep mr : Int32} {R : Nat → Int32} {v : Int32} : bsWr (rst W te ts kd nm er ep mr R) 14 0 0 12 v = rst W te v kd nm er ep mr R := by
  funext a b c d; unfold bsWr rst
  by_cases h : a = 14 ∧ b = 0 ∧ c = 0 ∧ d = 12
  · obtain ⟨rfl, rfl, rfl, rfl⟩ := h; simp [b2_t, b2_f, up_at, up_up, up_id]
  · simp only [h, if_false]
theorem rw13 {W : bsX} {te ts kd nm er ep mr : Int32} {R : Nat → Int32} {v : Int32} : bsWr (rst W te ts kd nm er ep mr R) 14 0 0 13 v = rst W te ts v nm er ep mr R := by
  funext a b c d; unfold bsWr rst
  by_cases h : a = 14 ∧ b = 0 ∧ c = 0 ∧ d = 13
  · obtain ⟨rfl, rfl, rfl, rfl⟩ := h; simp [b2_t, b2_f, up_at, up_up, up_id]
  · simp only [h, if_false]
theorem rw14 {W : bsX} {te ts kd nm er ep mr : Int32} {R : Nat → Int32} {v : Int32} : bsWr (rst W te ts kd nm er ep mr R) 14 0 0 14 v = rst W te ts kd v er ep mr R := by
  funext a b c d; unfold bsWr rst
  by_cases h : a = 14 ∧ b = 0 ∧ c = 0 ∧ d = 14
  · obtain ⟨rfl, rfl, rfl, rfl⟩ := h; simp [b2_t, b2_f, up_at, up_up, up_id]
  · simp only [h, if_false]
theorem rw15 {W : bsX} {te ts kd nm er ep mr : Int32} {R : Nat → Int32} {v : Int32} : bsWr (rst W te ts kd nm er ep mr R) 14 0 0 15 v = rst W te ts kd nm v ep mr R := by
  funext a b c d; unfold bsWr rst
  by_cases h : a = 14 ∧ b = 0 ∧ c = 0 ∧ d = 15
  · obtain ⟨rfl, rfl, rfl, rfl⟩ := h; simp [b2_t, b2_f, up_at, up_up, up_id]
  · simp only [h, if_false]
theorem rw16 {W : bsX} {te ts kd nm er ep mr : Int32} {R : Nat → Int32} {v : Int32} : bsWr (rst W te ts kd nm er ep mr R) 14 0 0 16 v = rst W te ts kd nm er v mr R := by
  funext a b c d; unfold bsWr rst
  by_cases h : a = 14 ∧ b = 0 ∧ c = 0 ∧ d = 16
  · obtain ⟨rfl, rfl, rfl, rfl⟩ := h; simp [b2_t, b2_f, up_at, up_up, up_id]
  · simp only [h, if_false]
theorem rw18 {W : bsX} {te ts kd nm er ep mr : Int32} {R : Nat → Int32} {v : Int32} : bsWr (rst W te ts kd nm er ep mr R) 14 0 0 18 v = rst W te ts kd nm er ep v R := by
  funext a b c d; unfold bsWr rst
  by_cases h : a = 14 ∧ b = 0 ∧ c = 0 ∧ d = 18
  · obtain ⟨rfl, rfl, rfl, rfl⟩ := h; simp [b2_t, b2_f, up_at, up_up, up_id]
  · simp only [h, if_false]
theorem rro {W : bsX} {te ts kd nm er ep mr : Int32} {R S : Nat → Int32} : ro (rst W te ts kd nm er ep mr R) S = rst W te ts kd nm er ep mr S := by
  funext a b c d; unfold ro rst
  by_cases h : a = 14 ∧ b = 1 ∧ c = 0
  · obtain ⟨rfl, rfl, rfl⟩ := h; simp [b2_t, b2_f, up_at, up_up, up_id]
  · simp only [h, if_false]
/-- the byte at i, -1 behind the end -/
def sn (X : bsX) (e i : Nat) : Int32 := if i < e then X 13 6 0 i &&& 255 else -1
def PX (X : bsX) (e : Nat) : Prop := X 13 1 0 4 = nI e ∧ e ≤ 600
def PW (X W : bsX) (e : Nat) : Prop := W 14 0 0 10 = nI e ∧ ∀ i, i < 600 → W 14 4 0 i = X 13 6 0 i &&& 255
theorem and255_ne (x : Int32) : x &&& 255 ≠ -1 := by
  intro h
  have h2 : (x &&& 255) &&& 256 = (-1 : Int32) &&& 256 := by rw [h]
  rw [Int32.and_assoc, show (255 : Int32) &&& 256 = 0 by decide, Int32.and_zero] at h2
  exact absurd h2 (by decide)
theorem sn_m1 {X : bsX} {e i : Nat} : sn X e i = -1 ↔ e ≤ i := by
  unfold sn
  by_cases h : i < e
  · rw [if_pos h]
    exact ⟨fun q => absurd q (and255_ne _), fun q => by omega⟩
  · rw [if_neg h]
    exact ⟨fun _ => by omega, fun _ => rfl⟩
theorem byte_c {X : bsX} {e i : Nat} {kd ts te er ep : Int32} {mk : Nat → Int32} {Y : pY} (hX : PX X e) (hi : i < 2147483648) : fX4_byteAt (nI i) (cst X kd ts te er ep mk Y) = some (sn X e i, cst X kd ts te er ep mk Y) := by
  obtain ⟨h1, h2⟩ := hX
  unfold fX4_byteAt sn
  rw [if_neg (pu_neg i hi), c4, h1]
  by_cases h : i < e
  · rw [if_neg (fun q => by have := (pu_le e i hi (by omega)).mp q; omega), if_neg (show ¬ (600 : Int32) ≤ nI i from fun q => by have := (pu_le 600 i hi (by decide)).mp q; omega), if_pos ((pu_in i 600 hi).mpr (by omega)), pu_ix i hi, cB, if_pos h]
  · rw [if_pos ((pu_le e i hi (by omega)).mpr (by omega)), if_neg h]
theorem seen_r {X W : bsX} {e i : Nat} {te ts kd nm er ep mr : Int32} {R : Nat → Int32} (hX : PX X e) (hW : PW X W e) (hi : i < 2147483648) : fX9_seen (nI i) (rst W te ts kd nm er ep mr R) = some (sn X e i, rst W te ts kd nm er ep mr R) := by
  obtain ⟨h1, h2⟩ := hX
  unfold fX9_seen sn
  rw [r10, hW.1]
  by_cases h : i < e
  · rw [if_neg (fun q => by have := (pu_le e i hi (by omega)).mp q; omega), if_pos ((pu_in i 600 hi).mpr (by omega)), pu_ix i hi, rB, hW.2 i (by omega), if_pos h]
  · rw [if_pos ((pu_le e i hi (by omega)).mpr (by omega)), if_neg h]
def isSm (c : Int32) : Bool := (97 ≤ c) && (c ≤ 122)
def isDg (c : Int32) : Bool := (48 ≤ c) && (c ≤ 57)
/-- the class's kind of a byte -/
def kdO (c : Int32) : Int32 := if c = -1 then 0 else if isSm c = true then 2 else if isDg c = true then 3 else if c = 32 then 1 else if c = 59 then 4 else 5
theorem kind_c {c : Int32} {X : bsX} : fX4_kindOf c X = some (kdO c, X) := by
  unfold fX4_kindOf fX4_kindOf_21 fX4_kindOf_35 kdO isSm isDg
  by_cases h0 : c = -1
  · rw [if_pos h0, if_pos h0]
  · rw [if_neg h0, if_neg h0]
    by_cases h1 : c < 97
    · have g1 : ¬ (97 : Int32) ≤ c := pu_nle.mpr h1
      rw [if_pos h1]
      simp only [g1, decide_false, Bool.false_and, Bool.false_eq_true, if_false]
      by_cases h2 : c < 48
      · have g2 : ¬ (48 : Int32) ≤ c := pu_nle.mpr h2
        rw [if_pos h2]
        simp only [g2, decide_false, Bool.false_and, Bool.false_eq_true, if_false]
        by_cases h4 : c = 32
        · rw [if_pos h4, if_pos h4]
        · rw [if_neg h4, if_neg h4]
          by_cases h5 : c = 59
          · rw [if_pos h5, if_pos h5]
          · rw [if_neg h5, if_neg h5]
      · have g2 : (48 : Int32) ≤ c := pu_nlt.mp h2
        rw [if_neg h2]
        by_cases h3 : (57 : Int32) < c
        · have g3 : ¬ c ≤ (57 : Int32) := pu_nle.mpr h3
          rw [if_pos h3]
          simp only [g2, g3, decide_true, decide_false, Bool.and_false, Bool.false_eq_true, if_false]
          by_cases h4 : c = 32
          · rw [if_pos h4, if_pos h4]
          · rw [if_neg h4, if_neg h4]
            by_cases h5 : c = 59
            · rw [if_pos h5, if_pos h5]
            · rw [if_neg h5, if_neg h5]
        · have g3 : c ≤ (57 : Int32) := pu_nlt.mp h3
          rw [if_neg h3]
          simp only [g2, g3, decide_true, Bool.and_self, if_true]
    · have g1 : (97 : Int32) ≤ c := pu_nlt.mp h1
      rw [if_neg h1]
      by_cases h2 : (122 : Int32) < c
      · have g2 : ¬ c ≤ (122 : Int32) := pu_nle.mpr h2
        rw [if_pos h2]
        have k1 : ¬ c < 48 := pu_nlt.mpr (Int32.le_trans (by decide : (48 : Int32) ≤ 97) g1)
        have k2 : (57 : Int32) < c := Int32.lt_of_lt_of_le (by decide : (57 : Int32) < 97) g1
        have k3 : ¬ c ≤ (57 : Int32) := pu_nle.mpr k2
        rw [if_neg k1, if_pos k2]
        simp only [g1, g2, k3, decide_true, decide_false, Bool.and_false, Bool.false_eq_true, if_false]
        by_cases h4 : c = 32
        · rw [if_pos h4, if_pos h4]
        · rw [if_neg h4, if_neg h4]
          by_cases h5 : c = 59
          · rw [if_pos h5, if_pos h5]
          · rw [if_neg h5, if_neg h5]
      · have g2 : c ≤ (122 : Int32) := pu_nlt.mp h2
        rw [if_neg h2]
        simp only [g1, g2, decide_true, Bool.and_self, if_true]
theorem small_r {c : Int32} {X : bsX} : fX9_isSmall c X = some (b2 (isSm c), X) := by
  unfold fX9_isSmall isSm
  by_cases h1 : c < 97
  · have g1 : ¬ (97 : Int32) ≤ c := pu_nle.mpr h1
    rw [if_pos h1]; simp [b2_t, b2_f, up_at, up_up, up_id, g1]
  · have g1 : (97 : Int32) ≤ c := pu_nlt.mp h1
    rw [if_neg h1]
    by_cases h2 : (122 : Int32) < c
    · have g2 : ¬ c ≤ (122 : Int32) := pu_nle.mpr h2
      rw [if_pos h2]; simp [b2_t, b2_f, up_at, up_up, up_id, g2]
    · have g2 : c ≤ (122 : Int32) := pu_nlt.mp h2
      rw [if_neg h2]; simp [b2_t, b2_f, up_at, up_up, up_id, g1, g2]
theorem digit_r {c : Int32} {X : bsX} : fX9_isDigit c X = some (b2 (isDg c), X) := by
  unfold fX9_isDigit isDg
  by_cases h1 : c < 48
  · have g1 : ¬ (48 : Int32) ≤ c := pu_nle.mpr h1
    rw [if_pos h1]; simp [b2_t, b2_f, up_at, up_up, up_id, g1]
  · have g1 : (48 : Int32) ≤ c := pu_nlt.mp h1
    rw [if_neg h1]
    by_cases h2 : (57 : Int32) < c
    · have g2 : ¬ c ≤ (57 : Int32) := pu_nle.mpr h2
      rw [if_pos h2]; simp [b2_t, b2_f, up_at, up_up, up_id, g2]
    · have g2 : c ≤ (57 : Int32) := pu_nlt.mp h2
      rw [if_neg h2]; simp [b2_t, b2_f, up_at, up_up, up_id, g1, g2]
/-- where a run ends -/
theorem run_ex {X : bsX} {e : Nat} (T : Int32 → Bool) (hT : T (-1) = false) : ∀ (d p : Nat), p + d = e → ∃ r, p ≤ r ∧ r ≤ e ∧ T (sn X e r) = false ∧ ∀ i, p ≤ i → i < r → T (sn X e i) = true := by
  intro d
  induction d with
  | zero =>
    intro p hp
    exact ⟨p, Nat.le_refl p, by omega, by rw [sn_m1.mpr (by omega)]; exact hT, fun i a b => by omega⟩
  | succ d ih =>
    intro p hp
    cases h : T (sn X e p)
    · exact ⟨p, Nat.le_refl p, by omega, h, fun i a b => by omega⟩
    · obtain ⟨r, r1, r2, r3, r4⟩ := ih (p + 1) (by omega)
      refine ⟨r, by omega, r2, r3, fun i a b => ?_⟩
      by_cases q : i = p
      · rw [q]; exact h
      · exact r4 i (by omega) b
