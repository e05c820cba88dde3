theorem pu_rng {v : Int32} {b : Nat} (hb : b < 1000) (h : (0 : Int32) ≤ v ∧ v ≤ nI b) : rng v 0 b := by
  obtain ⟨k, hk, rfl⟩ := pu_of h.1
  exact ⟨k, by omega, (pu_le k b (by omega) hk).mp h.2, rfl⟩
theorem wm_mark {Q n t k : Nat} {Y : pY} {p r : Int32} (h : wm Q n t Y) (hk : k < n) (hp : Y 6 k 0 ≠ 0) (h1 : rng p 0 15) (h2 : rng r 0 7) : wm Q n t (wr (wr Y 5 k 2 p) 5 k 3 r) := by
  have h6 := h.hn
  refine h.of (by simp [b2_t, b2_f, up_at, up_up, up_id, wr_rd]) (by simpa [b2_t, b2_f, up_at, up_up, up_id, wr_rd] using h.flo) (by simpa [b2_t, b2_f, up_at, up_up, up_id, wr_rd] using h.tim) (by simpa [b2_t, b2_f, up_at, up_up, up_id, wr_rd] using h.age) (by simpa [b2_t, b2_f, up_at, up_up, up_id, wr_rd] using h.tot) (by simp [b2_t, b2_f, up_at, up_up, up_id, wr_rd]) ?_ (by simp [b2_t, b2_f, up_at, up_up, up_id, wr_rd]) (fun q h1 h2 => by have e : q ≠ k := (by omega); simpa [b2_t, b2_f, up_at, up_up, up_id, wr_rd, e] using (h.hi q h1 h2).2) (by simp [b2_t, b2_f, up_at, up_up, up_id, wr_rd]) (Nat.le_refl _)
  intro q hq
  have hs := h.sl q hq
  by_cases e : q = k
  · subst e; simp_all [wS, wr_rd]
  · simpa [b2_t, b2_f, up_at, up_up, up_id, wS, wr_rd, e] using hs
theorem sim_mark_ok : sim_mark Inv := by
  intro j X a p r hj h
  have c10 : ¬ (1 : Int32) = 0 := by decide
  have n10 : ¬ (1 : Nat) = 0 := by decide
  have n20 : ¬ (2 : Nat) = 0 := by decide
  have n30 : ¬ (3 : Nat) = 0 := by decide
  have z64 : (0 : Int64) = (0 : Int32).toInt64 := by decide
  have t64 : (15 : Int64) = (15 : Int32).toInt64 := by decide
  have s64 : (7 : Int64) = (7 : Int32).toInt64 := by decide
  rcases h.slot a with ⟨e1, e2⟩ | ⟨e1, e2⟩ | ⟨k, n, t, Q, e1, e2, rfl, hkn, hk6, hw, hR, ht, hQ⟩
  · refine ⟨(1, 0, X), (0, th X 1), by unfold fX8_mark; rw [e1]; rfl, Or.inr (Or.inl rfl), by unfold fX9_mark; rw [e2]; simp only [Option.bind_some, c10, if_false], th_rd X 1, fun q => absurd (show (1 : Nat) = 0 from q) n10, ((quiet.refl X).thr 1).inv h⟩
  · refine ⟨(2, 0, X), (0, th X 2), by unfold fX8_mark; rw [e1]; rfl, Or.inr (Or.inr (Or.inl rfl)), by unfold fX9_mark; rw [e2]; simp only [Option.bind_some, c10, if_false], th_rd X 2, fun q => absurd (show (2 : Nat) = 0 from q) n20, ((quiet.refl X).thr 2).inv h⟩
  · have hl := h.one e1
    have hs := hw.sl k hk6
    have bad : fX8_mark (nI k) p r X = some (3, 0, X) → fX9_mark (nI k) p r X = some (0, th X 3) → ∃ (x : bsXr) (q : Int32 × bsX), fX8_mark (nI k) p r X = some x ∧ (x.1 = 0 ∨ x.1 = 1 ∨ x.1 = 2 ∨ x.1 = 3) ∧ fX9_mark (nI k) p r x.2.2 = some q ∧ q.2 14 0 0 0 = (if x.1 = 1 then (1 : Int32) else (if x.1 = 2 then (2 : Int32) else (if x.1 = 3 then (3 : Int32) else (0 : Int32)))) ∧ (x.1 = 0 → x.2.1 = q.1) ∧ Inv (j + 1) q.2 :=
      fun c d => ⟨(3, 0, X), (0, th X 3), c, Or.inr (Or.inr (Or.inr rfl)), d, th_rd X 3, fun q => absurd (show (3 : Nat) = 0 from q) n30, ((quiet.refl X).thr 3).inv h⟩
    have hi1 : ∀ Z, fX9_in p.toInt64 (0 : Int64) (15 : Int64) Z = some (b2 (decide ((0 : Int32) ≤ p ∧ p ≤ 15)), Z) := by intro Z; rw [z64, t64, q9_in]
    have hi2 : ∀ Z, fX9_in r.toInt64 (0 : Int64) (7 : Int64) Z = some (b2 (decide ((0 : Int32) ≤ r ∧ r ≤ 7)), Z) := by intro Z; rw [z64, s64, q9_in]
    have hh : fX9_has (nI k) (ro (th X 0) (enc (X 0))) = some (b2 (decide (X 0 6 k 0 ≠ 0)), ro (th X 0) (enc (X 0))) := q9_has hk6 hs.1
    rw [← th_ro X 0 hR] at hh
    have hrf : fX9_refuse 1 3 (th X 0) = some (1, th X 3) := by rw [q9_refuse (by decide), if_neg c10]
    by_cases g1 : (0 : Int32) ≤ p ∧ p ≤ 15
    · by_cases g2 : (0 : Int32) ≤ r ∧ r ≤ 7
      · by_cases g3 : X 0 6 k 0 = 0
        · refine bad ?_ ?_
          · unfold fX8_mark; rw [e1]
            simp only [Option.bind_some, if_true, rw_within]
            rw [if_pos g1]
            simp only [Option.bind_some, if_true]
            rw [if_pos g2]
            simp only [if_true, pu_inT hk6 (by decide), pu_ix6 hk6, g3]
          · unfold fX9_mark fX9_mark_41 fX9_mark_46; rw [e2]
            simp only [Option.bind_some, if_true, hi1, hi2, decide_eq_true g1, decide_eq_true g2, b2_t, c10, if_false, hh, g3, ne_eq, not_true, decide_false, b2_f, hrf]
        · obtain ⟨np, ck, Yk, k0, k1, k2, k3, k4, k5, k6, k7, k8⟩ := h.rem hl (by omega) hw hR ht hQ
          have hns := ns_ok (W := chC X np ck Yk (wr (wr (X 0) 5 k 2 p) 5 k 3 r)) (n := n) (k := k) ?_ ?_ hkn hw.hn
          · have hrf2 : fX9_refuse 0 3 (th (chC X np ck Yk (wr (wr (X 0) 5 k 2 p) 5 k 3 r)) 0) = some (0, th (chC X np ck Yk (wr (wr (X 0) 5 k 2 p) 5 k 3 r)) 0) := by rw [q9_refuse (by decide)]; rfl
            have hh2 : fX9_has (nI k) (ro (th (chC X np ck Yk (wr (wr (X 0) 5 k 2 p) 5 k 3 r)) 0) (enc (X 0))) = some (b2 (decide (X 0 6 k 0 ≠ 0)), ro (th (chC X np ck Yk (wr (wr (X 0) 5 k 2 p) 5 k 3 r)) 0) (enc (X 0))) := q9_has hk6 hs.1
            have hro : ro (th (chC X np ck Yk (wr (wr (X 0) 5 k 2 p) 5 k 3 r)) 0) (enc (X 0)) = th (chC X np ck Yk (wr (wr (X 0) 5 k 2 p) 5 k 3 r)) 0 := by rw [← k5, ro_id]
            rw [hro] at hh2
            have ho : ∀ B : bsX, fX9_of (nI k) 1 (ro B (enc (X 0))) = some (X 0 5 k 2, ro B (enc (X 0))) := fun B => q9_of1 hk6 _ _ _ _ _
            have hp1 : ∀ B : bsX, fX9_puts (nI k) 1 p (ro B (enc (X 0))) = some (ro B (enc (wr (X 0) 5 k 2 p))) := fun B => q9_pu1 hk6 _ _ _ _ _ _
            have hp2 : ∀ B : bsX, fX9_puts (nI k) 2 r (ro B (enc (wr (X 0) 5 k 2 p))) = some (ro B (enc (wr (wr (X 0) 5 k 2 p) 5 k 3 r))) := fun B => q9_pu2 hk6 _ _ _ _ _ _
            have hw2 := wm_mark hw hkn g3 (pu_rng (b := 15) (by decide) g1) (pu_rng (b := 7) (by decide) g2)
            refine ⟨(0, X 0 5 k 2, chC X np ck Yk (wr (wr (X 0) 5 k 2 p) 5 k 3 r)), (X 0 5 k 2, chZ X np ck Yk (wr (wr (X 0) 5 k 2 p) 5 k 3 r)), ?_, Or.inl rfl, ?_, k7 (wr (wr (X 0) 5 k 2 p) 5 k 3 r), fun _ => rfl, k8 _ n t Q (by omega) hw2 ht (by omega)⟩
            · unfold fX8_mark; rw [e1]
              simp only [Option.bind_some, if_true, rw_within]
              rw [if_pos g1]
              simp only [Option.bind_some, if_true]
              rw [if_pos g2]
              simp only [if_true, pu_inT hk6 (by decide), pu_ix6 hk6, g3, if_false, k1, Option.bind_some, up_wr, up_at, up_up, k2, k3]
            · unfold fX9_mark fX9_mark_46; rw [hns]
              simp only [Option.bind_some, if_true, hi1, hi2, decide_eq_true g1, decide_eq_true g2, b2_t, c10, if_false, hh2, ne_eq, g3, not_false_eq_true, decide_true, hrf2, k6, ho, hp1, hp2, chB_ro]
          · rw [k0]; exact hl
          · rw [k0, hR]; exact hw.sz
      · refine bad ?_ ?_
        · unfold fX8_mark; rw [e1]
          simp only [Option.bind_some, if_true, rw_within]
          rw [if_pos g1]
          simp only [Option.bind_some, if_true]
          rw [if_neg g2]
          simp only [n30, if_false]
        · unfold fX9_mark fX9_mark_41 fX9_mark_46; rw [e2]
          simp only [Option.bind_some, if_true, hi1, hi2, decide_eq_true g1, decide_eq_false g2, b2_t, b2_f, c10, if_false, hrf]
    · refine bad ?_ ?_
      · unfold fX8_mark; rw [e1]
        simp only [Option.bind_some, if_true, rw_within]
        rw [if_neg g1]
        simp only [Option.bind_some, n30, if_false]
      · unfold fX9_mark fX9_mark_41 fX9_mark_46; rw [e2]
        simp only [Option.bind_some, if_true, hi1, decide_eq_false g1, b2_f, hrf, c10, if_false]
