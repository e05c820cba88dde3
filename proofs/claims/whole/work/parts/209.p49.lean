theorem sw_25 (a : Int32) : ((a.toInt < 2 ∨ 5 < a.toInt) ∧ ¬ (2 ≤ a ∧ a ≤ 5)) ∨ (¬ (a.toInt < 2 ∨ 5 < a.toInt) ∧ ∃ w, 2 ≤ w ∧ w ≤ 5 ∧ a = nI w) := by
  have e2 : ((2 : Int32) ≤ a) ↔ 2 ≤ a.toInt := Int32.le_iff_toInt_le
  have e5 : (a ≤ (5 : Int32)) ↔ a.toInt ≤ 5 := Int32.le_iff_toInt_le
  by_cases q : (2 : Int32) ≤ a ∧ a ≤ 5
  · right
    have h1 := e2.mp q.1
    have h2 := e5.mp q.2
    obtain ⟨k, hk, rfl⟩ := pu_of (Int32.le_trans (by decide : (0 : Int32) ≤ 2) q.1)
    exact ⟨by omega, k, (pu_le 2 k hk (by decide)).mp q.1, (pu_le k 5 (by decide) hk).mp q.2, rfl⟩
  · left
    refine ⟨?_, q⟩
    by_cases h1 : a.toInt < 2
    · exact Or.inl h1
    · right
      by_cases h2 : 5 < a.toInt
      · exact h2
      · exact absurd ⟨e2.mpr (by omega), e5.mpr (by omega)⟩ q
theorem wm_num {Q n t i : Nat} {Y : pY} {v : Int32} (h : wm Q n t Y) (hi : i = 5 ∨ i = 6 ∨ i = 7 ∨ i = 8) (h5 : i = 5 → rng v 1 99) (h6 : i = 6 → rng v 1 9) (h7 : i = 7 → rng v 0 7) (h8 : i = 8 → rng v 0 99) : wm Q n t (wr Y 0 0 i v) := by
  have r : ∀ q, q ≠ i → wr Y 0 0 i v 0 0 q = Y 0 0 q := by intro q e; rw [wr_rd, if_neg (by omega)]
  have r2 : ∀ K j q, K ≠ 0 → wr Y 0 0 i v K j q = Y K j q := by intro K j q e; rw [wr_rd, if_neg (by omega)]
  have r3 : wr Y 0 0 i v 0 0 i = v := by simp [b2_t, b2_f, up_at, up_up, up_id, wr_rd]
  refine ⟨h.hn, ?_, ?_, ?_, ?_, ?_, ?_, ?_, ?_, ?_, ?_, ?_, ?_, ?_, ?_, ?_⟩
  · rw [r 4 (by omega)]; exact h.sz
  · intro q hq
    have hs := h.sl q hq
    unfold wS at hs ⊢
    simp only [r2 _ _ _ (show (6 : Nat) ≠ 0 by decide), r2 _ _ _ (show (5 : Nat) ≠ 0 by decide)]
    exact hs
  · intro q q1 q2
    have := h.hi q q1 q2
    simp only [r2 _ _ _ (show (6 : Nat) ≠ 0 by decide), r2 _ _ _ (show (5 : Nat) ≠ 0 by decide)]
    exact this
  · rw [r 10 (by omega)]; exact h.on
  · rw [r 10 (by omega), r 11 (by omega)]
    simp only [r2 _ _ _ (show (6 : Nat) ≠ 0 by decide)]
    exact h.run
  · by_cases e : i = 5
    · subst e; rw [r3]; exact h5 rfl
    · rw [r 5 (fun q => e q.symm)]; exact h.wat
  · by_cases e : i = 6
    · subst e; rw [r3]; exact h6 rfl
    · rw [r 6 (fun q => e q.symm)]; exact h.lim
  · by_cases e : i = 7
    · subst e; rw [r3]; exact h7 rfl
    · rw [r 7 (fun q => e q.symm)]; exact h.ret
  · by_cases e : i = 8
    · subst e; rw [r3]; exact h8 rfl
    · rw [r 8 (fun q => e q.symm)]; exact h.flo
  · rw [r 9 (by omega)]; exact h.tim
  · rw [r 12 (by omega)]; exact h.age
  · rw [r2 _ _ _ (by decide)]; exact h.tot
  · simp only [r2 _ _ _ (show (6 : Nat) ≠ 0 by decide)]; exact h.pim
  · rw [r 10 (by omega), r 11 (by omega)]
    simp only [r2 _ _ _ (show (6 : Nat) ≠ 0 by decide), r2 _ _ _ (show (2 : Nat) ≠ 0 by decide)]
    exact h.ins
  · intro q hq
    rw [r2 _ _ _ (by decide), r2 _ _ _ (by decide), r2 _ _ _ (by decide)]
    exact h.log q hq
/-- what both sides do where number w (2 .. 5) may be set to v -/
theorem num_go {j n t Q w : Nat} {X : bsX} {v lo hi : Int32} {f : bsX → Option bsXr} {g : bsX → Option (Int32 × bsX)} (h : Inv j X) (hl : X 14 0 0 1 = 1) (n1 : 1 ≤ n) (hw : wm Q n t (X 0)) (hR : X 14 1 0 = enc (X 0)) (ht : t ≤ 9999) (hQ : Q ≤ 2 * t + j)
    (w2 : 2 ≤ w) (w5 : w ≤ 5) (hf : f X = ((fX8_requireWithin v lo hi X).bind fun r1 => if r1.1 = 0 then ((fX8_remember r1.2.2).bind fun r4 => some (0, (r4 0 0 0 (w + 3)), (bsWr r4 0 0 0 (w + 3) v))) else some (r1.1, (0 : Int32), r1.2.2)))
    (hg : ∀ W : bsX, W 14 0 0 1 = 1 → W 14 1 0 = enc (X 0) → g W = fX9_setNumber_60 (nI w) v (if lo ≤ v ∧ v ≤ hi then 0 else 1) (th W 0))
    (hv : lo ≤ v ∧ v ≤ hi → wm Q n t (wr (X 0) 0 0 (w + 3) v)) :
    ∃ (r : bsXr) (q : Int32 × bsX), f X = some r ∧ (r.1 = 0 ∨ r.1 = 1 ∨ r.1 = 3) ∧ g r.2.2 = some q ∧ q.2 14 0 0 0 = (if r.1 = 1 then (1 : Int32) else (if r.1 = 3 then (2 : Int32) else (0 : Int32))) ∧ (r.1 = 0 → r.2.1 = q.1) ∧ Inv (j + 1) q.2 := by
  have c10 : ¬ (1 : Int32) = 0 := by decide
  have n30 : ¬ (3 : Nat) = 0 := by decide
  by_cases g1 : lo ≤ v ∧ v ≤ hi
  · obtain ⟨np, ck, Yk, k0, k1, k2, k3, k4, k5, k6, k7, k8⟩ := h.rem hl n1 hw hR ht hQ
    have hrf : fX9_refuse 0 2 (th (chC X np ck Yk (wr (X 0) 0 0 (w + 3) v)) 0) = some (0, th (chC X np ck Yk (wr (X 0) 0 0 (w + 3) v)) 0) := by rw [q9_refuse (by decide)]; rfl
    have hin : bsIn (nI w) 160 = True := pu_inT (by omega) (by decide)
    have hix : bsIx (nI w) = w := pu_ix w (by omega)
    have henc : ∀ B : bsX, ro B (enc (X 0)) 14 1 0 w = X 0 0 0 (w + 3) := by
      intro B
      have : w = 2 ∨ w = 3 ∨ w = 4 ∨ w = 5 := by omega
      rcases this with rfl | rfl | rfl | rfl
      · exact rw_rd2 _ _ _ _ _
      · exact rw_rd3 _ _ _ _ _
      · exact rw_rd4 _ _ _ _ _
      · exact rw_rd5 _ _ _ _ _
    have hst : ∀ i, i = 10 ∨ i = 11 ∨ i = 12 → wr (X 0) 0 0 (w + 3) v 0 0 i = X 0 0 0 i := by intro i hi; rw [wr_rd, if_neg (by omega)]
    have he : enc (wr (X 0) 0 0 (w + 3) v) = row (wr (X 0) 0 0 (w + 3) v) (sSt (X 0)) (X 0 0 0 11) (X 0 0 0 12) := by
      unfold enc sSt
      rw [hst 10 (by omega), hst 11 (by omega), hst 12 (by omega)]
    have hwr : ∀ B : bsX, bsWr (ro B (enc (X 0))) 14 1 0 w v = ro B (enc (wr (X 0) 0 0 (w + 3) v)) := by
      intro B
      rw [he]
      have : w = 2 ∨ w = 3 ∨ w = 4 ∨ w = 5 := by omega
      rcases this with rfl | rfl | rfl | rfl
      · exact rw_wr2 _ _ _ _ _ _
      · exact rw_wr3 _ _ _ _ _ _
      · exact rw_wr4 _ _ _ _ _ _
      · exact rw_wr5 _ _ _ _ _ _
    refine ⟨(0, X 0 0 0 (w + 3), chC X np ck Yk (wr (X 0) 0 0 (w + 3) v)), (X 0 0 0 (w + 3), chZ X np ck Yk (wr (X 0) 0 0 (w + 3) v)), ?_, Or.inl rfl, ?_, k7 (wr (X 0) 0 0 (w + 3) v), fun _ => rfl, k8 _ n t Q n1 (hv g1) ht (by omega)⟩
    · rw [hf, rw_within, if_pos g1]
      simp only [Option.bind_some, if_true, k1, up_wr, k2, k3]
    · show g (chC X np ck Yk (wr (X 0) 0 0 (w + 3) v)) = _
      rw [hg _ (by rw [k0]; exact hl) (by rw [k0]; exact hR), if_pos g1]
      unfold fX9_setNumber_60
      rw [hrf]
      simp only [Option.bind_some, if_true, k6, hin, hix, henc, hwr, chB_ro]
  · refine ⟨(3, 0, X), (0, th X 2), ?_, Or.inr (Or.inr rfl), ?_, th_rd X 2, fun q => absurd (show (3 : Nat) = 0 from q) n30, ((quiet.refl X).thr 2).inv h⟩
    · rw [hf, rw_within, if_neg g1]; rfl
    · show g X = _
      rw [hg X hl hR, if_neg g1]
      unfold fX9_setNumber_60
      rw [q9_refuse (by decide), if_neg c10]
      simp only [Option.bind_some, c10, if_false]
theorem sim_setNumber_ok : sim_setNumber Inv := by
  intro j X a v hj h
  have c10 : ¬ (1 : Int32) = 0 := by decide
  have n10 : ¬ (1 : Nat) = 0 := by decide
  have n30 : ¬ (3 : Nat) = 0 := by decide
  have o64 : (2 : Int64) = (2 : Int32).toInt64 := by decide
  have t64 : (5 : Int64) = (5 : Int32).toInt64 := by decide
  rcases h.req with ⟨e, e1, e2⟩ | ⟨e, e1, e2, n, t, Q, n1, hw, hR, ht, hQ⟩
  · exact ⟨(1, 0, X), (0, th X 1), by unfold fX8_setNumber; rw [e1]; rfl, Or.inr (Or.inl rfl), by unfold fX9_setNumber; rw [e2]; simp only [Option.bind_some, c10, if_false], th_rd X 1, fun q => absurd (show (1 : Nat) = 0 from q) n10, ((quiet.refl X).thr 1).inv h⟩
  · have hia : ∀ Z, fX9_in a.toInt64 (2 : Int64) (5 : Int64) Z = some (b2 (decide ((2 : Int32) ≤ a ∧ a ≤ 5)), Z) := by intro Z; rw [o64, t64, q9_in]
    rcases sw_25 a with ⟨o1, o2⟩ | ⟨o1, w, w2, w5, rfl⟩
    · refine ⟨(3, 0, X), (0, th X 2), ?_, Or.inr (Or.inr rfl), ?_, th_rd X 2, fun q => absurd (show (3 : Nat) = 0 from q) n30, ((quiet.refl X).thr 2).inv h⟩
      · unfold fX8_setNumber; rw [e1]
        simp only [Option.bind_some, if_true, o1]
      · unfold fX9_setNumber fX9_setNumber_55 fX9_setNumber_60; rw [e2]
        simp only [Option.bind_some, if_true, hia, decide_eq_false o2, b2_f]
        rw [q9_refuse (by decide), if_neg c10]
        simp only [Option.bind_some, c10, if_false]
    · have hwi : (2 : Int32) ≤ nI w ∧ nI w ≤ 5 := ⟨(pu_le 2 w (by omega) (by decide)).mpr w2, (pu_le w 5 (by decide) (by omega)).mpr w5⟩
      have hc : ∀ m, m < 100 → (nI w = nI m ↔ w = m) := fun m hm => pu_eq w m (by omega) (by omega)
      have hno : ∀ W : bsX, W 14 0 0 1 = 1 → fX9_notLoaded W = some (0, th W 0) := by intro W w1; rw [q9_notLoaded (Or.inr w1), w1, if_neg c10]
      have hin : ∀ (lo hi : Int32) Z, fX9_in v.toInt64 lo.toInt64 hi.toInt64 Z = some (b2 (decide (lo ≤ v ∧ v ≤ hi)), Z) := by intro lo hi Z; rw [q9_in]
      have hcase : w = 2 ∨ w = 3 ∨ w = 4 ∨ w = 5 := by omega
      have fl : ∀ {k m : Nat} {x : Int32}, k < 1000 → m < 1000 → nI k ≤ x ∧ x ≤ nI m → rng x k m := by
        intro k m x hk hm hx
        have h0 : (0 : Int32) ≤ x := Int32.le_trans ((pu_le 0 k (by omega) (by decide)).mpr (Nat.zero_le _)) hx.1
        obtain ⟨z, z1, rfl⟩ := pu_of h0
        exact ⟨z, (pu_le k z z1 (by omega)).mp hx.1, (pu_le z m (by omega) z1).mp hx.2, rfl⟩
      rcases hcase with rfl | rfl | rfl | rfl
      · refine num_go (v := v) (w := 2) (lo := 1) (hi := 99) (f := fX8_setNumber (nI 2) v) (g := fX9_setNumber (nI 2) v) h e n1 hw hR ht hQ (by omega) (by omega) ?_ ?_ ?_
        · unfold fX8_setNumber fX8_setWatch; rw [e1]
          simp only [Option.bind_some, if_true, o1, if_false, show (nI 2 = (2 : Int32)) = True from eq_true rfl, rw_within]
          by_cases g1 : (1 : Int32) ≤ v ∧ v ≤ 99
          · rw [if_pos g1]; simp only [Option.bind_some, if_true]
            cases fX8_remember X <;> rfl
          · rw [if_neg g1]; rfl
        · intro W w1 w2'
          unfold fX9_setNumber fX9_setNumber_55 fX9_setNumber_59 fX9_least fX9_least_10 fX9_most; rw [hno W w1]
          simp only [Option.bind_some, if_true, hia, decide_eq_true hwi, b2_t, c10, if_false, show (nI 2 = (2 : Int32)) = True from eq_true rfl, show (nI 2 = (3 : Int32)) = False from eq_false (by decide), show (nI 2 = (4 : Int32)) = False from eq_false (by decide), show (nI 2 = (5 : Int32)) = False from eq_false (by decide), hin]
          by_cases g1 : (1 : Int32) ≤ v ∧ v ≤ 99
          · simp only [if_pos g1, decide_eq_true g1, b2_t, c10, if_false]
          · simp only [if_neg g1, decide_eq_false g1, b2_f, if_true]
        · intro g1; exact wm_num hw (by omega) (fun _ => fl (k := 1) (m := 99) (by decide) (by decide) g1) (fun q => absurd q (by decide)) (fun q => absurd q (by decide)) (fun q => absurd q (by decide))
      · refine num_go (v := v) (w := 3) (lo := 1) (hi := 9) (f := fX8_setNumber (nI 3) v) (g := fX9_setNumber (nI 3) v) h e n1 hw hR ht hQ (by omega) (by omega) ?_ ?_ ?_
        · unfold fX8_setNumber fX8_setLimit; rw [e1]
          simp only [Option.bind_some, if_true, o1, if_false, show (nI 3 = (2 : Int32)) = False from eq_false (by decide), show (nI 3 = (3 : Int32)) = True from eq_true rfl, rw_within]
          by_cases g1 : (1 : Int32) ≤ v ∧ v ≤ 9
          · rw [if_pos g1]; simp only [Option.bind_some, if_true]
            cases fX8_remember X <;> rfl
          · rw [if_neg g1]; rfl
        · intro W w1 w2'
          unfold fX9_setNumber fX9_setNumber_55 fX9_setNumber_59 fX9_least fX9_least_10 fX9_most; rw [hno W w1]
          simp only [Option.bind_some, if_true, hia, decide_eq_true hwi, b2_t, c10, if_false, show (nI 3 = (2 : Int32)) = False from eq_false (by decide), show (nI 3 = (3 : Int32)) = True from eq_true rfl, show (nI 3 = (4 : Int32)) = False from eq_false (by decide), show (nI 3 = (5 : Int32)) = False from eq_false (by decide), hin]
          by_cases g1 : (1 : Int32) ≤ v ∧ v ≤ 9
          · simp only [if_pos g1, decide_eq_true g1, b2_t, c10, if_false]
          · simp only [if_neg g1, decide_eq_false g1, b2_f, if_true]
        · intro g1; exact wm_num hw (by omega) (fun q => absurd q (by decide)) (fun _ => fl (k := 1) (m := 9) (by decide) (by decide) g1) (fun q => absurd q (by decide)) (fun q => absurd q (by decide))
      · refine num_go (v := v) (w := 4) (lo := 0) (hi := 7) (f := fX8_setNumber (nI 4) v) (g := fX9_setNumber (nI 4) v) h e n1 hw hR ht hQ (by omega) (by omega) ?_ ?_ ?_
        · unfold fX8_setNumber fX8_setRetry; rw [e1]
          simp only [Option.bind_some, if_true, o1, if_false, show (nI 4 = (2 : Int32)) = False from eq_false (by decide), show (nI 4 = (3 : Int32)) = False from eq_false (by decide), show (nI 4 = (4 : Int32)) = True from eq_true rfl, rw_within]
          by_cases g1 : (0 : Int32) ≤ v ∧ v ≤ 7
          · rw [if_pos g1]; simp only [Option.bind_some, if_true]
            cases fX8_remember X <;> rfl
          · rw [if_neg g1]; rfl
        · intro W w1 w2'
          unfold fX9_setNumber fX9_setNumber_55 fX9_setNumber_59 fX9_least fX9_least_10 fX9_most; rw [hno W w1]
          simp only [Option.bind_some, if_true, hia, decide_eq_true hwi, b2_t, c10, if_false, show (nI 4 = (2 : Int32)) = False from eq_false (by decide), show (nI 4 = (3 : Int32)) = False from eq_false (by decide), show (nI 4 = (4 : Int32)) = True from eq_true rfl, show (nI 4 = (5 : Int32)) = False from eq_false (by decide), hin]
          by_cases g1 : (0 : Int32) ≤ v ∧ v ≤ 7
          · simp only [if_pos g1, decide_eq_true g1, b2_t, c10, if_false]
          · simp only [if_neg g1, decide_eq_false g1, b2_f, if_true]
        · intro g1; exact wm_num hw (by omega) (fun q => absurd q (by decide)) (fun q => absurd q (by decide)) (fun _ => fl (k := 0) (m := 7) (by decide) (by decide) g1) (fun q => absurd q (by decide))
      · have hfl : (0 : Int32) ≤ X 0 0 0 8 := by
          obtain ⟨z, _, z2, z3⟩ := hw.flo
          rw [z3]; exact (pu_le 0 z (by omega) (by decide)).mpr (Nat.zero_le _)
        refine num_go (v := v) (w := 5) (lo := X 0 0 0 8) (hi := 99) (f := fX8_setNumber (nI 5) v) (g := fX9_setNumber (nI 5) v) h e n1 hw hR ht hQ (by omega) (by omega) ?_ ?_ ?_
        · unfold fX8_setNumber fX8_setFloor; rw [e1]
          simp only [Option.bind_some, if_true, o1, if_false, show (nI 5 = (2 : Int32)) = False from eq_false (by decide), show (nI 5 = (3 : Int32)) = False from eq_false (by decide), show (nI 5 = (4 : Int32)) = False from eq_false (by decide), show (nI 5 = (5 : Int32)) = True from eq_true rfl, rw_within]
          by_cases g1 : X 0 0 0 8 ≤ v ∧ v ≤ 99
          · rw [if_pos g1]; simp only [Option.bind_some, if_true]
            cases fX8_remember X <;> rfl
          · rw [if_neg g1]; rfl
        · intro W w1 w2'
          have r5 : th W 0 14 1 0 5 = X 0 0 0 8 := by rw [th_K _ _ (by decide), w2']; rfl
          unfold fX9_setNumber fX9_setNumber_55 fX9_setNumber_59 fX9_least fX9_least_10 fX9_most; rw [hno W w1]
          simp only [Option.bind_some, if_true, hia, decide_eq_true hwi, b2_t, c10, if_false, show (nI 5 = (2 : Int32)) = False from eq_false (by decide), show (nI 5 = (3 : Int32)) = False from eq_false (by decide), show (nI 5 = (4 : Int32)) = False from eq_false (by decide), show (nI 5 = (5 : Int32)) = True from eq_true rfl, hin, bi_5, bx_5, r5]
          by_cases g1 : X 0 0 0 8 ≤ v ∧ v ≤ 99
          · have g2 : (0 : Int32) ≤ v ∧ v ≤ 99 := ⟨Int32.le_trans hfl g1.1, g1.2⟩
            rw [if_pos g1]
            simp only [decide_eq_true g2, b2_t, c10, if_false, g1.1, if_true]
          · by_cases g2 : (0 : Int32) ≤ v ∧ v ≤ 99
            · have g3 : ¬ X 0 0 0 8 ≤ v := fun q => g1 ⟨q, g2.2⟩
              rw [if_neg g1]
              simp only [decide_eq_true g2, b2_t, c10, if_false, g3]
            · simp only [if_neg g1, decide_eq_false g2, b2_f, if_true]
        · intro g1; exact wm_num hw (by omega) (fun q => absurd q (by decide)) (fun q => absurd q (by decide)) (fun q => absurd q (by decide)) (fun _ => fl (k := 0) (m := 99) (by decide) (by decide) ⟨Int32.le_trans hfl g1.1, g1.2⟩)
