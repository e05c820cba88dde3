/-! LOAD -/
theorem qX3_copyB {g g2 : Nat} {X : bsX} (hne : g2 ≠ g) (hs : ∀ k, k < 6 → is01 (X g2 6 k 0) ∧ is01 (X g2 6 k 4) ∧ is01 (X g2 6 k 5) ∧ is01 (X g2 5 k 4)) (hp : is01 (X g2 6 6 0) ∧ is01 (X g2 6 6 4) ∧ is01 (X g2 6 6 5)) (ho : is01 (X g2 0 0 10)) : fX3_copyFrom g g2 X = some (up X g (sCopy (X g2) (X g))) := by
  have hon := ho
  unfold is01 at hon
  have := (pu_loop (N := 6) (fun n k (Y : pY) => fX3_copyFrom_2 g g2 n (nI k) (up X g Y)) (fun k Y => sCpS k (X g2) Y) (fun Y => up X g (sCpN (X g2) (sCpT (X g2) (sCpLog (X g2) (sCpP (X g2) Y))))) (fun _ _ => True) ?_ ?_ 6 0 bsF (X g) rfl (by decide) trivial).1
  · simp only [up_id] at this; exact this
  · intro n k Y hk _
    refine ⟨?_, trivial⟩
    obtain ⟨s1, s2, s3, s4⟩ := hs k hk
    simp only [fX3_copyFrom_2, pu_le6 hk, pu_inT hk (by decide), pu_ix6 hk, pu_succ, if_false, if_true]
    rw [qX5_copy hne (by rw [up_ne _ _ hne]; exact s1) (by rw [up_ne _ _ hne]; exact s2) (by rw [up_ne _ _ hne]; exact s3) (by rw [up_ne _ _ hne]; exact s4)]
    simp only [Option.bind_some, up_at, up_up, up_ne _ _ hne]
  · intro n Y _
    simp only [fX3_copyFrom_2, pu_66, if_true, fX2_copyFrom]
    rw [qX1_copy (Or.inl (Ne.symm hne)) (by rw [up_ne _ _ hne]; exact hp.1) (by rw [up_ne _ _ hne]; exact hp.2.1) (by rw [up_ne _ _ hne]; exact hp.2.2)]
    simp only [Option.bind_some, up_wr, up_at, up_up, up_ne _ _ hne, qX0_copy hne, fX6_copyFrom, hon, if_true, sCpN, sCpT, sCpP, sCpI]
theorem alike_trans {A B C : pY} (h : alike A B) (g : alike B C) : alike A C := fun K j i r => (h K j i r).trans (g K j i r)
theorem copy_blank {X : bsX} (h : alike (X 12) blankY) : fX3_copyFrom 1 12 X = some (up X 1 (sCopy (X 12) (X 1))) := by
  have z : ∀ K j i, real K j i → ¬ (K = 0 ∧ j = 0 ∧ i = 11) → ¬ (K = 2 ∧ j = 0 ∧ i = 1) → X 12 K j i = 0 := by
    intro K j i r p q
    rw [h K j i r]
    unfold blankY
    rw [if_neg (fun t => t.elim p q)]
  refine qX3_copyB (by decide) (fun k hk => ⟨Or.inl (z 6 k 0 (by unfold real; omega) (by omega) (by omega)), Or.inl (z 6 k 4 (by unfold real; omega) (by omega) (by omega)), Or.inl (z 6 k 5 (by unfold real; omega) (by omega) (by omega)), Or.inl (z 5 k 4 (by unfold real; omega) (by omega) (by omega))⟩) ⟨Or.inl (z 6 6 0 (by unfold real; omega) (by omega) (by omega)), Or.inl (z 6 6 4 (by unfold real; omega) (by omega) (by omega)), Or.inl (z 6 6 5 (by unfold real; omega) (by omega) (by omega))⟩ (Or.inl (z 0 0 10 (by unfold real; omega) (by omega) (by omega)))
def zeroY : pY := fun _ _ _ => 0
theorem row_zero : row zeroY 0 0 0 = fun _ => 0 := by
  funext d
  have hE : ∀ d, eN zeroY d = 0 := by
    intro d
    refine eN_cases (P := fun d => eN zeroY d = 0) (fun m hm => eN_big hm) ?_ ?_ ?_ ?_ ?_ ?_ ?_ ?_ ?_ ?_ ?_ ?_ ?_ ?_ ?_ ?_ ?_ ?_ ?_ ?_ ?_ ?_ ?_ ?_ ?_ ?_ ?_ ?_ ?_ d <;> decide
  have hL : ∀ r c, eL zeroY r c = 0 := by
    intro r c; unfold eL
    by_cases h : r < min (bsIx (zeroY 3 0 4)) 12
    · rw [if_pos h]; rfl
    · rw [if_neg h]
  have hS : ∀ k w, eS zeroY k w = 0 := by
    intro k w; unfold eS; split <;> rfl
  unfold row
  rw [hE, hL, hS]
  simp [b2_t, b2_f, up_at, up_up, up_id]
theorem blank_stop : blankY = wr (sStop zeroY) 0 0 11 (-1) := by
  funext K j i
  unfold blankY
  rw [wr_rd, sStop_full]
  by_cases h1 : K = 0 ∧ j = 0 ∧ i = 11
  · rw [if_pos (Or.inl h1), if_pos h1]
  · rw [if_neg h1]
    by_cases h2 : K = 2 ∧ j = 0 ∧ i = 1
    · rw [if_pos (Or.inr h2), if_pos (by omega), if_pos h2.2.2]
    · rw [if_neg (fun t => t.elim h1 h2)]
      by_cases h3 : K = 2 ∧ j = 0 ∧ 1 ≤ i ∧ i ≤ 3
      · rw [if_pos h3, if_neg (by omega)]
      · rw [if_neg h3]
        by_cases h4 : K = 6 ∧ j = 6 ∧ i ≤ 5
        · rw [if_pos h4]
        · rw [if_neg h4]; rfl
theorem enc_blank {Y : pY} (h : alike Y blankY) : row (sStop zeroY) 0 (-1) 0 = enc Y := by
  rw [enc_alike h]
  have h1 : sSt blankY = 0 := by decide
  have h2 : blankY 0 0 11 = -1 := by decide
  have h3 : blankY 0 0 12 = 0 := by decide
  unfold enc
  rw [h1, h2, h3, blank_stop, row_N (by decide)]
def zR (R : Nat → Int32) (i : Nat) : Nat → Int32 := fun d => if d < i then 0 else R d
theorem reads_zero {W : bsX} {te ts kd nm er ep mr : Int32} {R : Nat → Int32} (hR : r160 R) : ∀ (d i f : Nat), i + d = 160 → d < f →
    fX9_reads_2 f (nI i) (rst W te ts kd nm er ep mr (zR R i)) = ((fX9_isWord 0 (rst W te ts kd nm er ep 0 (row (sStop zeroY) 0 (-1) 0))).bind fun r12 => if r12.1 = 0 then (fX9_reads_54 (1 : Int32) r12.2) else (fX9_reads_54 (0 : Int32) r12.2)) := by
  intro d
  induction d with
  | zero =>
    intro i f hi hf
    obtain ⟨f, rfl⟩ : ∃ z, f = z + 1 := ⟨f - 1, by omega⟩
    obtain rfl : i = 160 := by omega
    have hz : zR R 160 = row zeroY 0 0 0 := by
      rw [row_zero]; funext d; unfold zR
      by_cases h : d < 160
      · rw [if_pos h]
      · rw [if_neg h]; exact hR d (by omega)
    have h7 : bsWr (rst W te ts kd nm er ep mr (row zeroY 0 0 0)) 14 1 0 7 (-1) = rst W te ts kd nm er ep mr (row zeroY 0 (-1) 0) := by
      have := rw_wr7 (rst W te ts kd nm er ep mr (row zeroY 0 0 0)) zeroY 0 0 0 (-1)
      rw [rro, rro] at this
      exact this
    have hn : fX9_noInstall (rst W te ts kd nm er ep mr (row zeroY 0 (-1) 0)) = some (rst W te ts kd nm er ep mr (row (sStop zeroY) 0 (-1) 0)) := by
      have := q9_noInst (X := rst W te ts kd nm er ep mr (row zeroY 0 (-1) 0)) (Y := zeroY) (a := 0) (b := -1) (c := 0)
      rw [rro, rro] at this
      exact this
    rw [fX9_reads_2, if_pos (show (160 : Int32) ≤ nI 160 by decide), if_pos (show bsIn (7 : Int32) 160 by decide), bx_7, hz, h7, hn, Option.bind_some, rw18]
  | succ d ih =>
    intro i f hi hf
    obtain ⟨f, rfl⟩ : ∃ z, f = z + 1 := ⟨f - 1, by omega⟩
    have hz : pt (zR R i) i 0 = zR R (i + 1) := by
      funext d; unfold pt zR
      by_cases e : d = i
      · rw [if_pos e, if_pos (by omega)]
      · rw [if_neg e]
        by_cases e2 : d < i
        · rw [if_pos e2, if_pos (by omega)]
        · rw [if_neg e2, if_neg (by omega)]
    rw [fX9_reads_2, if_neg (show ¬ (160 : Int32) ≤ nI i from fun z => by have := (pu_le 160 i (by omega) (by decide)).mp z; omega), if_pos ((pu_in i 160 (by omega)).mpr (by omega)), pu_ix i (by omega), pu_succ, rrow, hz]
    exact ih (i + 1) f (by omega) (by omega)
theorem cst_id (Z : bsX) : cst Z (Z 13 1 0 5) (Z 13 1 0 6) (Z 13 1 0 7) (Z 13 1 0 8) (Z 13 1 0 9) (fun i => Z 13 7 0 i) (Z 1) = Z := by
  funext a b c d
  unfold cst
  by_cases h5 : a = 13 ∧ b = 1 ∧ c = 0 ∧ d = 5
  · rw [if_pos h5, h5.1, h5.2.1, h5.2.2.1, h5.2.2.2]
  · rw [if_neg h5]
    by_cases h6 : a = 13 ∧ b = 1 ∧ c = 0 ∧ d = 6
    · rw [if_pos h6, h6.1, h6.2.1, h6.2.2.1, h6.2.2.2]
    · rw [if_neg h6]
      by_cases h7 : a = 13 ∧ b = 1 ∧ c = 0 ∧ d = 7
      · rw [if_pos h7, h7.1, h7.2.1, h7.2.2.1, h7.2.2.2]
      · rw [if_neg h7]
        by_cases h8 : a = 13 ∧ b = 1 ∧ c = 0 ∧ d = 8
        · rw [if_pos h8, h8.1, h8.2.1, h8.2.2.1, h8.2.2.2]
        · rw [if_neg h8]
          by_cases h9 : a = 13 ∧ b = 1 ∧ c = 0 ∧ d = 9
          · rw [if_pos h9, h9.1, h9.2.1, h9.2.2.1, h9.2.2.2]
          · rw [if_neg h9]
            by_cases hm : a = 13 ∧ b = 7 ∧ c = 0 ∧ d < 6
            · rw [if_pos hm, hm.1, hm.2.1, hm.2.2.1]
            · rw [if_neg hm]
              by_cases h1 : a = 1
              · rw [if_pos h1, h1]
              · rw [if_neg h1]
theorem cst_789 (Z : bsX) (a b c : Int32) : bsWr (bsWr (bsWr Z 13 1 0 7 a) 13 1 0 8 b) 13 1 0 9 c = cst Z (Z 13 1 0 5) (Z 13 1 0 6) a b c (fun i => Z 13 7 0 i) (Z 1) := by
  have h := cst_id Z
  have : bsWr (bsWr (bsWr (cst Z (Z 13 1 0 5) (Z 13 1 0 6) (Z 13 1 0 7) (Z 13 1 0 8) (Z 13 1 0 9) (fun i => Z 13 7 0 i) (Z 1)) 13 1 0 7 a) 13 1 0 8 b) 13 1 0 9 c = cst Z (Z 13 1 0 5) (Z 13 1 0 6) a b c (fun i => Z 13 7 0 i) (Z 1) := by rw [cw7, cw8, cw9]
  rw [h] at this
  exact this
theorem rst_id (Z : bsX) : rst Z (Z 14 0 0 11) (Z 14 0 0 12) (Z 14 0 0 13) (Z 14 0 0 14) (Z 14 0 0 15) (Z 14 0 0 16) (Z 14 0 0 18) (Z 14 1 0) = Z := by
  funext a b c d
  unfold rst
  by_cases h1 : a = 14 ∧ b = 0 ∧ c = 0 ∧ d = 11
  · rw [if_pos h1, h1.1, h1.2.1, h1.2.2.1, h1.2.2.2]
  · rw [if_neg h1]
    by_cases h2 : a = 14 ∧ b = 0 ∧ c = 0 ∧ d = 12
    · rw [if_pos h2, h2.1, h2.2.1, h2.2.2.1, h2.2.2.2]
    · rw [if_neg h2]
      by_cases h3 : a = 14 ∧ b = 0 ∧ c = 0 ∧ d = 13
      · rw [if_pos h3, h3.1, h3.2.1, h3.2.2.1, h3.2.2.2]
      · rw [if_neg h3]
        by_cases h4 : a = 14 ∧ b = 0 ∧ c = 0 ∧ d = 14
        · rw [if_pos h4, h4.1, h4.2.1, h4.2.2.1, h4.2.2.2]
        · rw [if_neg h4]
          by_cases h5 : a = 14 ∧ b = 0 ∧ c = 0 ∧ d = 15
          · rw [if_pos h5, h5.1, h5.2.1, h5.2.2.1, h5.2.2.2]
          · rw [if_neg h5]
            by_cases h6 : a = 14 ∧ b = 0 ∧ c = 0 ∧ d = 16
            · rw [if_pos h6, h6.1, h6.2.1, h6.2.2.1, h6.2.2.2]
            · rw [if_neg h6]
              by_cases h7 : a = 14 ∧ b = 0 ∧ c = 0 ∧ d = 18
              · rw [if_pos h7, h7.1, h7.2.1, h7.2.2.1, h7.2.2.2]
              · rw [if_neg h7]
                by_cases h8 : a = 14 ∧ b = 1 ∧ c = 0
                · rw [if_pos h8, h8.1, h8.2.1, h8.2.2]
                · rw [if_neg h8]
theorem rst_w (Z : bsX) (a b c : Int32) : bsWr (bsWr (bsWr Z 14 0 0 11 a) 14 0 0 15 b) 14 0 0 16 c = rst Z a (Z 14 0 0 12) (Z 14 0 0 13) (Z 14 0 0 14) b c (Z 14 0 0 18) (Z 14 1 0) := by
  have h := rst_id Z
  have : bsWr (bsWr (bsWr (rst Z (Z 14 0 0 11) (Z 14 0 0 12) (Z 14 0 0 13) (Z 14 0 0 14) (Z 14 0 0 15) (Z 14 0 0 16) (Z 14 0 0 18) (Z 14 1 0)) 14 0 0 11 a) 14 0 0 15 b) 14 0 0 16 c = rst Z a (Z 14 0 0 12) (Z 14 0 0 13) (Z 14 0 0 14) b c (Z 14 0 0 18) (Z 14 1 0) := by rw [rw11, rw15, rw16]
  rw [h] at this
  exact this
theorem nar_b0 : vp_nar .boolean (0 : Int32) = 0 := by decide
theorem marks_0 {X : bsX} {kd ts te er ep x : Int32} {Y : pY} : ∀ (d i f : Nat) (mk : Nat → Int32), i + d = 6 → d < f → (∀ j, j < i → mk j = 0) → ∃ mk', (∀ j, j < 6 → mk' j = 0) ∧
    fX4_parse_27 1 f x (nI i) (cst X kd ts te er ep mk Y) = ((fX3_copyFrom 1 12 (cst X kd ts te er ep mk' Y)).bind fun r6 => (fX4_readToken r6).bind fun r8 => (fX4_readFirstLine 1 r8).bind fun r10 => fX4_parse_65 1 bsF x (0 : Int32) r10) := by
  intro d
  induction d with
  | zero =>
    intro i f mk hi hf hm
    obtain ⟨f, rfl⟩ : ∃ z, f = z + 1 := ⟨f - 1, by omega⟩
    obtain rfl : i = 6 := by omega
    refine ⟨mk, hm, ?_⟩
    rw [fX4_parse_27, if_pos (show (6 : Int32) ≤ nI 6 by decide)]
  | succ d ih =>
    intro i f mk hi hf hm
    obtain ⟨f, rfl⟩ : ∃ z, f = z + 1 := ⟨f - 1, by omega⟩
    have hi6 : i < 6 := by omega
    obtain ⟨mk', h1, h2⟩ := ih (i + 1) f (pt mk i 0) (by omega) (by omega) (fun j hj => by
      unfold pt
      by_cases e : j = i
      · rw [if_pos e]
      · rw [if_neg e]; exact hm j (by omega))
    refine ⟨mk', h1, ?_⟩
    rw [fX4_parse_27, if_neg (show ¬ (6 : Int32) ≤ nI i from fun z => by have := (pu_le 6 i (by omega) (by decide)).mp z; omega), if_pos ((pu_in i 6 (by omega)).mpr hi6), pu_ix i (by omega), nar_b0, cwM hi6, pu_succ]
    exact h2
theorem MK_0 {mk : Nat → Int32} (h : ∀ j, j < 6 → mk j = 0) : MK mk 0 := by
  refine ⟨by decide, fun i hi => ?_⟩
  have hb : ∀ i, i < 6 → ¬ ((nI 0 >>> (nI i &&& 31)) &&& 1 = 1) := by decide
  exact ⟨fun z => absurd z (hb i hi), fun z => absurd (h i hi) z⟩
