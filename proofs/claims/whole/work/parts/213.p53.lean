theorem sRoom_full {a : Int32} {Y : pY} {K j i : Nat} : sRoom a Y K j i = if 15 ≤ sGreat a Y ∧ K = 5 ∧ i = 2 ∧ j < 6 ∧ nI j ≠ a ∧ 1 < Y 5 j 2 then Y 5 j 2 - 1 else Y K j i := by
  by_cases e : K = 5 ∧ i = 2
  · obtain ⟨rfl, rfl⟩ := e
    by_cases h15 : 15 ≤ sGreat a Y
    · by_cases hj : j < 6
      · rw [sRoom_at h15 j hj]
        by_cases c : nI j ≠ a ∧ 1 < Y 5 j 2
        · rw [if_pos c, if_pos ⟨h15, rfl, rfl, hj, c.1, c.2⟩]
        · rw [if_neg c, if_neg (fun q => c ⟨q.2.2.2.2.1, q.2.2.2.2.2⟩)]
      · rw [if_neg (fun q => hj q.2.2.2.1)]
        unfold sRoom
        rw [if_pos h15]
        refine itF_ind (N := 6) (f := sRoomF a) (fun Z => Z 5 j 2 = Y 5 j 2) ?_ 6 0 Y rfl rfl
        intro q Z hq hZ
        unfold sRoomF
        split
        · rw [wr_rd, if_neg (by omega)]; exact hZ
        · exact hZ
    · rw [if_neg (fun q => h15 q.1)]
      unfold sRoom
      rw [if_neg h15]
  · rw [sRoom_else (by omega), if_neg (fun q => e ⟨q.2.1, q.2.2.1⟩)]
theorem sGreat_congr {a : Int32} {Y Z : pY} (h : ∀ k, k < 6 → nI k ≠ a → Y 5 k 2 = Z 5 k 2) : sGreat a Y = sGreat a Z := by
  unfold sGreat
  refine itF_congr (N := 6) ?_ 6 0 0 rfl
  intro k b hk
  unfold sGreatF
  by_cases e : nI k = a
  · rw [if_pos e, if_pos e]
  · rw [if_neg e, if_neg e, h k hk e]
theorem sTake_full {z : Nat} {Y : pY} {K j i : Nat} : sTake z Y K j i = if K = 2 ∧ j = 0 ∧ 1 ≤ i ∧ i ≤ 3 then (if i = 1 then -1 else 0) else if K = 6 ∧ j = 6 ∧ i ≤ 5 then 0 else if K = 6 ∧ j = z ∧ i ≤ 5 then Y 6 6 i
    else if K = 5 ∧ j = z ∧ i = 2 then sGreat (nI z) (sRoom (nI z) Y) + 1 else if K = 5 ∧ j = z ∧ i = 3 then Y 2 0 3 else if K = 5 ∧ j = z ∧ (i = 4 ∨ i = 5) then 0 else sRoom (nI z) Y K j i := by
  unfold sTake
  rw [sStop_full, sGreat_img]
  have h23 : sImg (sRoom (nI z) Y) z (sRoom (nI z) Y 6 6) 2 0 3 = Y 2 0 3 := by
    unfold sImg; simp [b2_t, b2_f, up_at, up_up, up_id, wr_rd]; exact sRoom_else (by omega)
  have h66 : ∀ i, sRoom (nI z) Y 6 6 i = Y 6 6 i := fun i => sRoom_else (by omega)
  rw [h23]
  by_cases a1 : K = 2 ∧ j = 0 ∧ 1 ≤ i ∧ i ≤ 3
  · rw [if_pos a1, if_pos a1]
  · rw [if_neg a1, if_neg a1]
    by_cases a2 : K = 6 ∧ j = 6 ∧ i ≤ 5
    · rw [if_pos a2, if_pos a2]
    · rw [if_neg a2, if_neg a2]
      unfold sImg
      simp only [wr_rd, h66]
      generalize sRoom (nI z) Y = R
      generalize sGreat (nI z) R = G
      by_cases a3 : K = 6 ∧ j = z ∧ i ≤ 5
      · rw [if_pos a3]
        obtain ⟨rfl, rfl, a3⟩ := a3
        have : i = 0 ∨ i = 1 ∨ i = 2 ∨ i = 3 ∨ i = 4 ∨ i = 5 := by omega
        rcases this with rfl | rfl | rfl | rfl | rfl | rfl <;> simp [b2_t, b2_f, up_at, up_up, up_id]
      · rw [if_neg a3]
        by_cases k5 : K = 5 ∧ j = z
        · obtain ⟨rfl, rfl⟩ := k5
          by_cases i2 : i = 2
          · subst i2; simp [b2_t, b2_f, up_at, up_up, up_id]
          · by_cases i3 : i = 3
            · subst i3; simp [b2_t, b2_f, up_at, up_up, up_id]
            · by_cases i4 : i = 4
              · subst i4; simp [b2_t, b2_f, up_at, up_up, up_id]
              · by_cases i5 : i = 5
                · subst i5; simp [b2_t, b2_f, up_at, up_up, up_id]
                · simp [b2_t, b2_f, up_at, up_up, up_id, i2, i3, i4, i5]
        · have b1 : ∀ q, ¬ (K = 5 ∧ j = z ∧ q) := fun q r => k5 ⟨r.1, r.2.1⟩
          have b2 : ∀ m, m ≤ 5 → ¬ (K = 6 ∧ j = z ∧ i = m) := fun m hm r => a3 ⟨r.1, r.2.1, by omega⟩
          simp only [b1, if_false, b2 0 (by omega), b2 1 (by omega), b2 2 (by omega), b2 3 (by omega), b2 4 (by omega), b2 5 (by omega)]
def sIns (z : Nat) (v s : Int32) (Y : pY) : pY := sImg (wr (wr (wr Y 2 0 1 (nI z)) 2 0 2 1) 2 0 3 3) 6 (fun i => if i = 0 then 1 else if i = 1 then v else if i = 2 then s else 0)
theorem sIns_rd {z : Nat} {v s : Int32} {Y : pY} {K j i : Nat} : sIns z v s Y K j i = if K = 6 ∧ j = 6 ∧ i ≤ 5 then (if i = 0 then 1 else if i = 1 then v else if i = 2 then s else 0) else if K = 2 ∧ j = 0 ∧ 1 ≤ i ∧ i ≤ 3 then (if i = 1 then nI z else if i = 2 then 1 else 3) else Y K j i := by
  unfold sIns sImg
  simp only [wr_rd]
  by_cases a1 : K = 6 ∧ j = 6 ∧ i ≤ 5
  · rw [if_pos a1]
    obtain ⟨rfl, rfl, a1⟩ := a1
    have : i = 0 ∨ i = 1 ∨ i = 2 ∨ i = 3 ∨ i = 4 ∨ i = 5 := by omega
    rcases this with rfl | rfl | rfl | rfl | rfl | rfl <;> simp [b2_t, b2_f, up_at, up_up, up_id]
  · rw [if_neg a1]
    have b2 : ∀ m, m ≤ 5 → ¬ (K = 6 ∧ j = 6 ∧ i = m) := fun m hm r => a1 ⟨r.1, r.2.1, by omega⟩
    simp only [b2 0 (by omega), b2 1 (by omega), b2 2 (by omega), b2 3 (by omega), b2 4 (by omega), b2 5 (by omega), if_false]
    by_cases a2 : K = 2 ∧ j = 0 ∧ 1 ≤ i ∧ i ≤ 3
    · rw [if_pos a2]
      obtain ⟨rfl, rfl, a2⟩ := a2
      have : i = 1 ∨ i = 2 ∨ i = 3 := by omega
      rcases this with rfl | rfl | rfl <;> simp [b2_t, b2_f, up_at, up_up, up_id]
    · rw [if_neg a2, if_neg (by omega), if_neg (by omega), if_neg (by omega)]
theorem sGreat_ins {z : Nat} {v s : Int32} {Y : pY} (hz : z < 6) : sGreat (nI z) (sStop (sEmp z Y)) = sGreat (nI z) (sIns z v s Y) := by
  refine sGreat_congr ?_
  intro k hk hne
  have e : k ≠ z := by intro e; subst e; exact hne rfl
  rw [sStop_full, if_neg (by omega), if_neg (by omega), sEmp_rd, if_neg (by omega), sIns_rd, if_neg (by omega), if_neg (by omega)]
theorem sGreat_ins2 {z : Nat} {v s : Int32} {Y : pY} (hz : z < 6) : sGreat (nI z) (sRoom (nI z) (sStop (sEmp z Y))) = sGreat (nI z) (sRoom (nI z) (sIns z v s Y)) := by
  refine sGreat_congr ?_
  intro k hk hne
  have e : k ≠ z := by intro e; subst e; exact hne rfl
  have e1 : sStop (sEmp z Y) 5 k 2 = Y 5 k 2 := by rw [sStop_full, if_neg (by omega), if_neg (by omega), sEmp_rd, if_neg (by omega)]
  have e2 : sIns z v s Y 5 k 2 = Y 5 k 2 := by rw [sIns_rd, if_neg (by omega), if_neg (by omega)]
  rw [sRoom_full, sRoom_full, e1, e2, sGreat_ins (v := v) (s := s) hz]
/-- an install that comes at once: in the class, and in the reference -/
theorem sTake_ins {z : Nat} {v s : Int32} {Y : pY} (hz : z < 6) : cmY z v s 0 (sRoom (nI z) (sStop (sEmp z Y))) = sTake z (sIns z v s Y) := by
  funext K j i
  rw [sTake_full]
  unfold cmY
  simp only [wr_rd]
  rw [sGreat_ins2 (v := v) (s := s) hz]
  generalize sGreat (nI z) (sRoom (nI z) (sIns z v s Y)) = G
  have z6 : ¬ 6 = z := by omega
  have hne : ∀ q, q < 6 → (nI q ≠ nI z ↔ q ≠ z) := fun q hq => not_congr (pu_eq q z (by omega) (by omega))
  have W : ∀ K j i, sRoom (nI z) (sStop (sEmp z Y)) K j i = if 15 ≤ sGreat (nI z) (sIns z v s Y) ∧ K = 5 ∧ i = 2 ∧ j < 6 ∧ j ≠ z ∧ 1 < Y 5 j 2 then Y 5 j 2 - 1 else sStop (sEmp z Y) K j i := by
    intro K j i
    rw [sRoom_full, sGreat_ins (v := v) (s := s) hz]
    by_cases c : j < 6 ∧ j ≠ z
    · have e1 : sStop (sEmp z Y) 5 j 2 = Y 5 j 2 := by rw [sStop_full, if_neg (by omega), if_neg (by omega), sEmp_rd, if_neg (by omega)]
      rw [e1]
      simp only [hne j c.1]
    · rw [if_neg (fun q => c ⟨q.2.2.2.1, (hne j q.2.2.2.1).mp q.2.2.2.2.1⟩), if_neg (fun q => c ⟨q.2.2.2.1, q.2.2.2.2.1⟩)]
  have V : ∀ K j i, sRoom (nI z) (sIns z v s Y) K j i = if 15 ≤ sGreat (nI z) (sIns z v s Y) ∧ K = 5 ∧ i = 2 ∧ j < 6 ∧ j ≠ z ∧ 1 < Y 5 j 2 then Y 5 j 2 - 1 else sIns z v s Y K j i := by
    intro K j i
    rw [sRoom_full]
    by_cases c : j < 6 ∧ j ≠ z
    · have e1 : sIns z v s Y 5 j 2 = Y 5 j 2 := by rw [sIns_rd, if_neg (by omega), if_neg (by omega)]
      rw [e1]
      simp only [hne j c.1]
    · rw [if_neg (fun q => c ⟨q.2.2.2.1, (hne j q.2.2.2.1).mp q.2.2.2.2.1⟩), if_neg (fun q => c ⟨q.2.2.2.1, q.2.2.2.2.1⟩)]
  rw [W, V]
  by_cases a1 : K = 2 ∧ j = 0 ∧ 1 ≤ i ∧ i ≤ 3
  · rw [if_pos a1]
    repeat rw [if_neg (by omega)]
    rw [sStop_full, if_pos a1]
  · rw [if_neg a1]
    by_cases a2 : K = 6 ∧ j = 6 ∧ i ≤ 5
    · rw [if_pos a2]
      repeat rw [if_neg (by omega)]
      rw [sStop_full, if_neg a1, if_pos a2]
    · rw [if_neg a2]
      by_cases a3 : K = 6 ∧ j = z ∧ i ≤ 5
      · rw [if_pos a3]
        obtain ⟨rfl, rfl, a3⟩ := a3
        have e6 : sIns j v s Y 6 6 i = if i = 0 then 1 else if i = 1 then v else if i = 2 then s else 0 := by rw [sIns_rd, if_pos ⟨rfl, rfl, a3⟩]
        rw [e6]
        have e4 : ∀ q, q ≤ 5 → sStop (sEmp j Y) 6 j q = 0 := by
          intro q hq
          rw [sStop_full, if_neg (by omega), if_neg (by omega), sEmp_rd, if_pos ⟨rfl, Or.inl ⟨rfl, hq⟩⟩]
        have : i = 0 ∨ i = 1 ∨ i = 2 ∨ i = 3 ∨ i = 4 ∨ i = 5 := by omega
        rcases this with rfl | rfl | rfl | rfl | rfl | rfl <;> simp [b2_t, b2_f, up_at, up_up, up_id, e4]
      · rw [if_neg a3]
        have b2 : ∀ m, m ≤ 5 → ¬ (K = 6 ∧ j = z ∧ i = m) := fun m hm r => a3 ⟨r.1, r.2.1, by omega⟩
        simp only [b2 0 (by omega), b2 1 (by omega), b2 2 (by omega), b2 3 (by omega), if_false]
        by_cases k5 : K = 5 ∧ j = z ∧ 2 ≤ i ∧ i ≤ 5
        · obtain ⟨rfl, rfl, k5, k6⟩ := k5
          have e4 : ∀ q, 2 ≤ q → q ≤ 5 → sStop (sEmp j Y) 5 j q = 0 := by
            intro q h1 h2
            rw [sStop_full, if_neg (by omega), if_neg (by omega), sEmp_rd, if_pos ⟨rfl, Or.inr ⟨rfl, h1, h2⟩⟩]
          have e5 : sIns j v s Y 2 0 3 = 3 := by rw [sIns_rd]; simp [b2_t, b2_f, up_at, up_up, up_id]
          have : i = 2 ∨ i = 3 ∨ i = 4 ∨ i = 5 := by omega
          rcases this with rfl | rfl | rfl | rfl <;> simp [b2_t, b2_f, up_at, up_up, up_id, e4, e5]
        · have hS : sStop (sEmp z Y) K j i = sIns z v s Y K j i := by
            rw [sStop_full, if_neg a1, if_neg a2, sIns_rd, if_neg a2, if_neg a1, sEmp_rd, if_neg (by omega)]
          rw [hS]
          have b5 : ∀ m, 2 ≤ m → m ≤ 5 → ¬ (K = 5 ∧ j = z ∧ i = m) := fun m h1 h2 r => k5 ⟨r.1, r.2.1, by omega, by omega⟩
          have b6 : ¬ (K = 5 ∧ j = z ∧ (i = 4 ∨ i = 5)) := fun r => k5 ⟨r.1, r.2.1, by omega, by omega⟩
          simp only [b5 2 (by omega) (by omega), b5 3 (by omega) (by omega), b6, if_false]
theorem sTake_boot0 {z : Nat} {Y : pY} : sBoot0 (sTake z Y) = sTake z (sBoot0 Y) := by
  have r : ∀ K j i, K ≠ 0 → sBoot0 Y K j i = Y K j i := by intro K j i e; unfold sBoot0; rw [wr_rd, if_neg (by omega), wr_rd, if_neg (by omega), wr_rd, if_neg (by omega)]
  have g1 : sGreat (nI z) (sBoot0 Y) = sGreat (nI z) Y := sGreat_congr (fun k _ _ => r _ _ _ (by decide))
  have hr : ∀ K j i, K ≠ 0 → sRoom (nI z) (sBoot0 Y) K j i = sRoom (nI z) Y K j i := by
    intro K j i e
    rw [sRoom_full, sRoom_full, g1, r _ _ _ (by decide), r _ _ _ e]
  have g2 : sGreat (nI z) (sRoom (nI z) (sBoot0 Y)) = sGreat (nI z) (sRoom (nI z) Y) := sGreat_congr (fun k _ _ => hr _ _ _ (by decide))
  funext K j i
  by_cases k0 : K = 0
  · subst k0
    have a : ∀ Y, sTake z Y 0 j i = Y 0 j i := by
      intro Y
      rw [sTake_full, if_neg (by omega), if_neg (by omega), if_neg (by omega), if_neg (by omega), if_neg (by omega), if_neg (by omega), sRoom_else (by omega)]
    rw [a]
    unfold sBoot0
    simp only [wr_rd, a]
  · have b : sBoot0 (sTake z Y) K j i = sTake z Y K j i := by unfold sBoot0; rw [wr_rd, if_neg (by omega), wr_rd, if_neg (by omega), wr_rd, if_neg (by omega)]
    rw [b, sTake_full, sTake_full, g2, r _ _ _ (by decide), r _ _ _ (by decide), hr _ _ _ k0]
