theorem wm_ins {Q n t z : Nat} {Y : pY} {v s : Int32} (h : wm Q n t Y) (hz : z < n) (h1 : rng v 0 99) (h2 : rng s 0 99) : wm Q n t (sBoot0 (sTake z (sIns z v s Y))) := by
  have h6 := h.hn
  rw [sTake_boot0]
  have vr : ∀ K j i, K ≠ 0 → sBoot0 (sIns z v s Y) K j i = sIns z v s Y K j i := by intro K j i e; unfold sBoot0; rw [wr_rd, if_neg (by omega), wr_rd, if_neg (by omega), wr_rd, if_neg (by omega)]
  have v0 : ∀ i, i ≠ 10 → i ≠ 11 → i ≠ 12 → sBoot0 (sIns z v s Y) 0 0 i = Y 0 0 i := by
    intro i a b c; unfold sBoot0; rw [wr_rd, if_neg (by omega), wr_rd, if_neg (by omega), wr_rd, if_neg (by omega), sIns_rd, if_neg (by omega), if_neg (by omega)]
  have vK : ∀ K i, K ≠ 0 → K ≠ 2 → sBoot0 (sIns z v s Y) K 0 i = Y K 0 i := by
    intro K i a b; rw [vr _ _ _ a, sIns_rd, if_neg (by omega), if_neg (by omega)]
  have v5 : ∀ k i, sBoot0 (sIns z v s Y) 5 k i = Y 5 k i := by
    intro k i; rw [vr _ _ _ (by decide), sIns_rd, if_neg (by omega), if_neg (by omega)]
  have v6 : ∀ k i, k < 6 → sBoot0 (sIns z v s Y) 6 k i = Y 6 k i := by
    intro k i hk; rw [vr _ _ _ (by decide), sIns_rd, if_neg (by omega), if_neg (by omega)]
  have p : ∀ i, i ≤ 5 → sBoot0 (sIns z v s Y) 6 6 i = if i = 0 then 1 else if i = 1 then v else if i = 2 then s else 0 := by
    intro i hi; rw [vr _ _ _ (by decide), sIns_rd, if_pos ⟨rfl, rfl, hi⟩]
  have w10 : sBoot0 (sIns z v s Y) 0 0 10 = 1 := by simp [b2_t, b2_f, up_at, up_up, up_id, sBoot0, wr_rd]
  have w11 : sBoot0 (sIns z v s Y) 0 0 11 = -1 := by simp [b2_t, b2_f, up_at, up_up, up_id, sBoot0, wr_rd]
  have w12 : sBoot0 (sIns z v s Y) 0 0 12 = 0 := by simp [b2_t, b2_f, up_at, up_up, up_id, sBoot0, wr_rd]
  have hsl : ∀ k, k < 6 → wS (sBoot0 (sIns z v s Y)) k := by
    intro k hk
    have hs := h.sl k hk
    unfold wS at hs ⊢
    simp only [v5, v6 k _ hk]
    exact hs
  refine wm_take h.hn (by rw [v0 4 (by decide) (by decide) (by decide)]; exact h.sz) hsl ?_ (by rw [w10]; exact Or.inr rfl) (Or.inl w11) (by rw [v0 5 (by decide) (by decide) (by decide)]; exact h.wat) (by rw [v0 6 (by decide) (by decide) (by decide)]; exact h.lim) (by rw [v0 7 (by decide) (by decide) (by decide)]; exact h.ret) (by rw [v0 8 (by decide) (by decide) (by decide)]; exact h.flo) (by rw [v0 9 (by decide) (by decide) (by decide)]; exact h.tim) (by rw [w12]; exact rng.z t) (by rw [vK 3 4 (by decide) (by decide)]; exact h.tot) hz ?_ ?_ ?_ ?_ ?_ ?_ ?_ ?_ ?_
  · intro k a b
    have := h.hi k a b
    simp only [v5, v6 k _ b]
    exact this
  · rw [vr _ _ _ (by decide), sIns_rd]; simp [b2_t, b2_f, up_at, up_up, up_id]
  · rw [p 0 (by decide)]; rfl
  · rw [p 4 (by decide)]; exact Or.inl rfl
  · rw [p 5 (by decide)]; exact Or.inl rfl
  · rw [p 1 (by decide)]; exact h1
  · rw [p 2 (by decide)]; exact h2
  · rw [p 3 (by decide)]; exact rng.z 99
  · intro i hi
    rw [vK 7 i (by decide) (by decide), vK 8 i (by decide) (by decide), vK 10 i (by decide) (by decide)]
    exact h.log i hi
  · rw [sGreat_img]
    exact sGreat_room (fun k hk => (hsl k hk).2.2.2.2.1)
theorem ins_set {k : Nat} {v s : Int32} {X : bsX} {Y : pY} : fX2_set 1 (nI k) 1 (up X 1 Y) = some (up X 1 (wr (wr (wr Y 2 0 1 (nI k)) 2 0 2 1) 2 0 3 3)) := by
  unfold fX2_set; simp only [up_wr, up_at, up_up]
theorem ins_set2 {k : Nat} {v s : Int32} {X : bsX} {Y : pY} : fX1_set 1 6 v s 0 (up X 1 (wr (wr (wr Y 2 0 1 (nI k)) 2 0 2 1) 2 0 3 3)) = some (up X 1 (sIns k v s Y)) := by
  unfold fX1_set sIns sImg; simp [b2_t, b2_f, up_at, up_up, up_id, up_wr]
theorem ins_take {k : Nat} (hk : k < 6) {v s : Int32} {X : bsX} {Y : pY} : fX3_takeInstall 1 (up X 1 (sIns k v s Y)) = some (up X 1 (sTake k (sIns k v s Y))) := by
  have p : ∀ i, i ≤ 5 → sIns k v s Y 6 6 i = if i = 0 then 1 else if i = 1 then v else if i = 2 then s else 0 := by
    intro i hi; rw [sIns_rd, if_pos ⟨rfl, rfl, hi⟩]
  have p21 : sIns k v s Y 2 0 1 = nI k := by rw [sIns_rd, if_neg (by omega), if_pos (by omega), if_pos rfl]
  have htk := qX3_take (g := 1) (X := up X 1 (sIns k v s Y)) hk (by rw [up_at]; exact p21) (by rw [up_at, p 0 (by decide)]; exact Or.inr rfl) (by rw [up_at, p 4 (by decide)]; exact Or.inl rfl) (by rw [up_at, p 5 (by decide)]; exact Or.inl rfl)
  rw [up_at, up_up] at htk
  exact htk
theorem ins_bad {k : Nat} {v s : Int32} {X : bsX} (e1 : fX8_requireSlot (nI k) X = some (0, 0, X)) (hG : ¬ (((0 : Int32) ≤ v ∧ v ≤ 99) ∧ ((1 : Int32) ≤ s ∧ s ≤ 99))) : fX8_ifInstalled (nI k) v s X = some (3, 0, X) := by
  have n30 : ¬ (3 : Nat) = 0 := by decide
  unfold fX8_ifInstalled; rw [e1]
  simp only [Option.bind_some, if_true, rw_within]
  by_cases g1 : (0 : Int32) ≤ v ∧ v ≤ 99
  · rw [if_pos g1]
    simp only [Option.bind_some, if_true]
    rw [if_neg (fun q => hG ⟨g1, q⟩)]
    simp only [Option.bind_some, n30, if_false]
  · rw [if_neg g1]
    simp only [Option.bind_some, n30, if_false]
theorem ins_cls {k : Nat} {v s x : Int32} {X : bsX} {Y Z : pY} (hk : k < 6) (e1 : fX8_requireSlot (nI k) X = some (0, 0, X)) (g1 : (0 : Int32) ≤ v ∧ v ≤ 99) (g2 : (1 : Int32) ≤ s ∧ s ≤ 99) (d1 : fX3_copyFrom 1 0 X = some (up X 1 Y)) (s1 : fX8_bootAndSettle (up X 1 (sTake k (sIns k v s Y))) = some (x, up X 1 Z)) : fX8_ifInstalled (nI k) v s X = some (0, x, up X 1 Z) := by
  have w1 : fX8_requireWithin v 0 99 X = some (0, 0, X) := by rw [rw_within, if_pos g1]
  have w2 : fX8_requireWithin s 1 99 X = some (0, 0, X) := by rw [rw_within, if_pos g2]
  have t1 : fX2_set 1 (nI k) 1 (up X 1 Y) = some (up X 1 (wr (wr (wr Y 2 0 1 (nI k)) 2 0 2 1) 2 0 3 3)) := ins_set (v := v) (s := s)
  have t2 : fX1_set 1 6 v s 0 (up X 1 (wr (wr (wr Y 2 0 1 (nI k)) 2 0 2 1) 2 0 3 3)) = some (up X 1 (sIns k v s Y)) := ins_set2
  have t3 : fX3_takeInstall 1 (up X 1 (sIns k v s Y)) = some (up X 1 (sTake k (sIns k v s Y))) := ins_take hk
  unfold fX8_ifInstalled; rw [e1]
  simp only [Option.bind_some, if_true, w1, w2]
  rw [d1, Option.bind_some, t1, Option.bind_some, t2, Option.bind_some, t3, Option.bind_some, s1, Option.bind_some]
theorem ins_ref0 {k : Nat} {v s : Int32} {W : bsX} (hns : fX9_noSlot (nI k) W = some (0, th W 0)) : fX9_ifInstalled (nI k) v s W = fX9_ifInstalled_38 (nI k) v s (if ((0 : Int32) ≤ v ∧ v ≤ 99) ∧ ((1 : Int32) ≤ s ∧ s ≤ 99) then 0 else 1) (th W 0) := by
  have c10 : ¬ (1 : Int32) = 0 := by decide
  have z64 : (0 : Int64) = (0 : Int32).toInt64 := by decide
  have o64 : (1 : Int64) = (1 : Int32).toInt64 := by decide
  have t64 : (99 : Int64) = (99 : Int32).toInt64 := by decide
  have hi1 : ∀ Z, fX9_in v.toInt64 (0 : Int64) (99 : Int64) Z = some (b2 (decide ((0 : Int32) ≤ v ∧ v ≤ 99)), Z) := by intro Z; rw [z64, t64, q9_in]
  have hi2 : ∀ Z, fX9_in s.toInt64 (1 : Int64) (99 : Int64) Z = some (b2 (decide ((1 : Int32) ≤ s ∧ s ≤ 99)), Z) := by intro Z; rw [o64, t64, q9_in]
  unfold fX9_ifInstalled fX9_ifInstalled_33
  rw [hns]
  simp only [Option.bind_some, if_true]
  rw [hi1]
  simp only [Option.bind_some]
  by_cases g1 : (0 : Int32) ≤ v ∧ v ≤ 99
  · rw [decide_eq_true g1, b2_t, if_neg c10, hi2]
    simp only [Option.bind_some]
    by_cases g2 : (1 : Int32) ≤ s ∧ s ≤ 99
    · rw [decide_eq_true g2, b2_t, if_neg c10, if_pos ⟨g1, g2⟩]
    · rw [decide_eq_false g2, b2_f, if_pos rfl, if_neg (fun q => g2 q.2)]
  · rw [decide_eq_false g1, b2_f, if_pos rfl, if_neg (fun q => g1 q.1)]
theorem ins_ref {k n : Nat} {v s x : Int32} {W : bsX} {Y : pY} (hk : k < 6) (hkn : k < n) (d3 : W 14 1 0 = enc Y) (hP : pris n (sStop (sEmp k Y))) (hS : ∀ q, q < 6 → wS (sStop (sEmp k Y)) q)
    (s2 : ∀ (B : bsX) (a b c : Int32), ∃ Z, fX9_settles (ro B (row (sTake k (sIns k v s Y)) a b c)) = some (x, ro B (enc Z))) : fX9_ifInstalled_38 (nI k) v s 0 (th W 0) = some (x, lk (th W 0) Y) := by
  obtain ⟨Z2, s2⟩ := s2 (ar (th W 0) 2 (stK ((th W 0) 14 2 0) (enc Y) 10)) (sSt Y) (Y 0 0 11) (Y 0 0 12)
  have e3 : fX9_empties (nI k) (lk (th W 0) Y) = some (ro (ar (th W 0) 2 (stK ((th W 0) 14 2 0) (enc Y) 10)) (row (sEmp k Y) (sSt Y) (Y 0 0 11) (Y 0 0 12))) := q9_empties hk
  have hrf2 : fX9_refuse 0 3 (th W 0) = some (0, th W 0) := by rw [q9_refuse (by decide), if_pos rfl]
  have hlay := lay_lk (W := th W 0) (Y := Y) (by rw [th_K _ _ (by decide)]; exact d3)
  unfold fX9_ifInstalled_38
  rw [hrf2, Option.bind_some, if_pos rfl]
  dsimp only
  rw [hlay, Option.bind_some, e3, Option.bind_some, q9_noInst, Option.bind_some, q9_comes hkn hP hS, Option.bind_some, sTake_ins hk, s2, Option.bind_some]
  dsimp only
  rw [back_lk (enc_160 Z2), Option.bind_some]
theorem sim_ifInstalled_ok : sim_ifInstalled Inv := by
  intro j X a v s hj h
  have c10 : ¬ (1 : Int32) = 0 := by decide
  have n10 : ¬ (1 : Nat) = 0 := by decide
  have n20 : ¬ (2 : Nat) = 0 := by decide
  have n30 : ¬ (3 : Nat) = 0 := by decide
  rcases h.slot a with ⟨e1, e2⟩ | ⟨e1, e2⟩ | ⟨k, n, t, Q, e1, e2, rfl, hkn, hk6, hw, hR, ht, hQ⟩
  · refine ⟨(1, 0, X), (0, th X 1), by unfold fX8_ifInstalled; rw [e1]; rfl, Or.inr (Or.inl rfl), by unfold fX9_ifInstalled; rw [e2]; simp only [Option.bind_some, c10, if_false], th_rd X 1, fun q => absurd (show (1 : Nat) = 0 from q) n10, ((quiet.refl X).thr 1).inv h⟩
  · refine ⟨(2, 0, X), (0, th X 2), by unfold fX8_ifInstalled; rw [e1]; rfl, Or.inr (Or.inr (Or.inl rfl)), by unfold fX9_ifInstalled; rw [e2]; simp only [Option.bind_some, c10, if_false], th_rd X 2, fun q => absurd (show (2 : Nat) = 0 from q) n20, ((quiet.refl X).thr 2).inv h⟩
  · have hl := h.one e1
    by_cases hG : ((0 : Int32) ≤ v ∧ v ≤ 99) ∧ ((1 : Int32) ≤ s ∧ s ≤ 99)
    · obtain ⟨Y, d1, d2, d3, d4, d5, d6⟩ := Inv.copy (J := j) (by omega) hw ht hQ hR
      have r1 : rng v 0 99 := pu_rng (by decide) hG.1
      have r2 : rng s 0 99 := by
        obtain ⟨z, z1, rfl⟩ := pu_of (Int32.le_trans (by decide : (0 : Int32) ≤ 1) hG.2.1)
        exact ⟨z, by omega, (pu_le z 99 (by decide) z1).mp hG.2.2, rfl⟩
      have hT := wm_ins d2 hkn r1 r2
      have hB : wm Q n t (sBoot0 (sStop (sEmp k Y))) := by rw [← sEmp_sStop hk6]; exact wm_empB (wm_stop d2) hk6
      have hP : pris n (sStop (sEmp k Y)) := by
        have := hB.pris
        simpa [b2_t, b2_f, up_at, up_up, up_id, pris, sBoot0, wr_rd] using this
      have hS : ∀ q, q < 6 → wS (sStop (sEmp k Y)) q := by
        intro q hq
        have := hB.sl q hq
        simpa [b2_t, b2_f, up_at, up_up, up_id, wS, sBoot0, wr_rd] using this
      obtain ⟨x, s1, s2⟩ := settle_try hT d5 d6
      obtain ⟨Z, s1⟩ := s1 X
      have hRu : up X 1 Z 14 1 0 = enc Y := by rw [up_ne _ _ (by decide)]; exact d3
      have hns := ns_ok (W := up X 1 Z) (n := n) (k := k) (by rw [up_ne _ _ (by decide)]; exact hl) (by rw [up_ne _ _ (by decide), hR]; exact hw.sz) hkn hw.hn
      have href := ins_ref (v := v) (s := s) (x := x) (W := up X 1 Z) hk6 hkn hRu hP hS s2
      have h0 := ins_ref0 (v := v) (s := s) hns
      rw [if_pos hG, href] at h0
      exact ⟨(0, x, up X 1 Z), (x, lk (th (up X 1 Z) 0) Y), ins_cls hk6 e1 hG.1 hG.2 d1 s1, Or.inl rfl, h0, lk_th (up X 1 Z) 0 Y, fun _ => rfl, (quiet_lk d3).inv h⟩
    · have h0 := ins_ref0 (v := v) (s := s) e2
      rw [if_neg hG] at h0
      have h1 : fX9_ifInstalled_38 (nI k) v s 1 (th X 0) = some (0, th X 3) := by
        unfold fX9_ifInstalled_38
        rw [q9_refuse (by decide), if_neg c10]
        simp only [Option.bind_some, c10, if_false]
      rw [h1] at h0
      exact ⟨(3, 0, X), (0, th X 3), ins_bad e1 hG, Or.inr (Or.inr (Or.inr rfl)), h0, th_rd X 3, fun q => absurd (show (3 : Nat) = 0 from q) n30, ((quiet.refl X).thr 3).inv h⟩
