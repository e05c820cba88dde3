theorem qX8_tickL {B : bsX} {m n : Nat} {x2 : Int32} (hm : m < 1000) : ∀ (d k f Q t : Nat) (Y : pY), k + d = m → d < f → Q + 2 * d < 900000 → wm Q n t Y →
    fX8_tick_45 f (nI m) x2 (nI k) (up B 0 Y) = some (0, sTicks d Y 3 0 4 - x2, up B 0 (sTicks d Y)) := by
  intro d
  induction d with
  | zero =>
    intro k f Q t Y hk hf hQ h
    obtain ⟨f, rfl⟩ : ∃ z, f = z + 1 := ⟨f - 1, by omega⟩
    simp only [fX8_tick_45, sTicks, up_at]
    rw [if_pos ((pu_le m k (by omega) (by omega)).mpr (by omega))]
  | succ d ih =>
    intro k f Q t Y hk hf hQ h
    obtain ⟨f, rfl⟩ : ∃ z, f = z + 1 := ⟨f - 1, by omega⟩
    obtain ⟨e, hw⟩ := qX3_tick (g := 0) (Q := Q) (n := n) (t := t) (X := up B 0 Y) (by omega) (by rw [up_at]; exact h)
    rw [up_at, up_up] at e
    rw [up_at] at hw
    simp only [fX8_tick_45, sTicks]
    rw [if_neg (fun q => by have := (pu_le m k (by omega) (by omega)).mp q; omega), e]
    simp only [Option.bind_some, pu_succ]
    exact ih (k + 1) f (Q + 2) (t + 1) (sTick Y) (by omega) (by omega) (by omega) hw
theorem sim_tick_ok : sim_tick Inv := by
  intro j X a hj h
  have c10 : ¬ (1 : Int32) = 0 := by decide
  have n10 : ¬ (1 : Nat) = 0 := by decide
  have n30 : ¬ (3 : Nat) = 0 := by decide
  have o64 : (1 : Int64) = (1 : Int32).toInt64 := by decide
  have t64 : (300 : Int64) = (300 : Int32).toInt64 := by decide
  rcases h.req with ⟨e, e1, e2⟩ | ⟨e, e1, e2, n, t, Q, n1, hw, hR, ht, hQ⟩
  · exact ⟨(1, 0, X), (0, th X 1), by unfold fX8_tick; rw [e1]; rfl, Or.inr (Or.inl rfl), by unfold fX9_tick; rw [e2]; simp only [Option.bind_some, c10, if_false], th_rd X 1, fun q => absurd (show (1 : Nat) = 0 from q) n10, ((quiet.refl X).thr 1).inv h⟩
  · have bad : fX8_tick a X = some (3, 0, X) → fX9_tick a X = some (0, th X 2) → ∃ (r : bsXr) (q : Int32 × bsX), fX8_tick a X = some r ∧ (r.1 = 0 ∨ r.1 = 1 ∨ r.1 = 3) ∧ fX9_tick a r.2.2 = some q ∧ q.2 14 0 0 0 = (if r.1 = 1 then (1 : Int32) else (if r.1 = 3 then (2 : Int32) else (0 : Int32))) ∧ (r.1 = 0 → r.2.1 = q.1) ∧ Inv (j + 1) q.2 :=
      fun c r => ⟨(3, 0, X), (0, th X 2), c, Or.inr (Or.inr rfl), r, th_rd X 2, fun q => absurd (show (3 : Nat) = 0 from q) n30, ((quiet.refl X).thr 2).inv h⟩
    by_cases hin : (1 : Int32) ≤ a ∧ a ≤ 300
    · obtain ⟨m, hm0, rfl⟩ := pu_of (Int32.le_trans (by decide : (0 : Int32) ≤ 1) hin.1)
      have hm1 : 1 ≤ m := (pu_le 1 m hm0 (by decide)).mp hin.1
      have hm3 : m ≤ 300 := (pu_le m 300 (by decide) hm0).mp hin.2
      have htm : X 0 0 0 9 + nI m = nI (t + m) := by rw [hw.tim, pu_add]
      have r1 : th X 0 14 1 0 1 = nI t := by rw [th_K _ _ (by decide), hR]; exact hw.tim
      by_cases hlt : t + m ≤ 9999
      · obtain ⟨np, ck, Yk, k0, k1, k2, k3, k4, k5, k6, k7, k8⟩ := h.rem e n1 hw hR ht hQ
        have hL := qX8_tickL (B := c13 (up X (2 + np) Yk) ((np + 1) % 8) (min (ck + 1) 8)) (m := m) (n := n) (x2 := X 0 3 0 4) (by omega) m 0 bsF Q t (X 0) (by omega) (by unfold bsF; omega) (by omega) hw
        rw [k3] at hL
        have hself : up (c13 (up X (2 + np) Yk) ((np + 1) % 8) (min (ck + 1) 8)) 0 (X 0) = c13 (up X (2 + np) Yk) ((np + 1) % 8) (min (ck + 1) 8) := by
          conv => lhs; arg 3; rw [← k2]
          exact up_id _ _
        rw [← k3 (X 0), hself] at hL
        have hL2 : fX8_tick_45 bsF (nI m) (X 0 3 0 4) (0 : Int32) (c13 (up X (2 + np) Yk) ((np + 1) % 8) (min (ck + 1) 8)) = some (0, sTicks m (X 0) 3 0 4 - X 0 3 0 4, chC X np ck Yk (sTicks m (X 0))) := hL
        have hw2 := wm_ticks m Q t (X 0) (by omega) hw
        have hin1 : ∀ Z, fX9_in (nI m).toInt64 (1 : Int64) (300 : Int64) Z = some (1, Z) := by
          intro Z; rw [o64, t64, q9_in, decide_eq_true hin]; rfl
        have hrf : fX9_refuse 0 2 (th (chC X np ck Yk (sTicks m (X 0))) 0) = some (0, th (chC X np ck Yk (sTicks m (X 0))) 0) := by rw [q9_refuse (by decide)]; rfl
        have r1' : th (chC X np ck Yk (sTicks m (X 0))) 0 14 1 0 1 + nI m = nI (t + m) := by
          rw [k5]
          have : enc (X 0) 1 = nI t := hw.tim
          rw [this, pu_add]
        have hle : nI (t + m) ≤ (9999 : Int32) := (pu_le (t + m) 9999 (by decide) (by omega)).mpr hlt
        have hwi : fX8_requireWithin (nI (t + m)) 0 9999 X = some (0, 0, X) := by
          rw [rw_within, if_pos ⟨(pu_le 0 (t + m) (by omega) (by decide)).mpr (Nat.zero_le _), hle⟩]
        have hwm : fX8_requireWithin (nI m) 1 300 X = some (0, 0, X) := by rw [rw_within, if_pos hin]
        have r12 : ∀ W : pY, ro (chB X np ck Yk (sTicks m (X 0))) (enc W) 14 1 0 12 = W 3 0 4 := by intro W; rw [ro_rd]; rfl
        have rz : chZ X np ck Yk (sTicks m (X 0)) 14 1 0 12 = sTicks m (X 0) 3 0 4 := by rw [chZ_1]; rfl
        have hta := q9_ticksAll (X := chB X np ck Yk (sTicks m (X 0))) (m := m) (by omega) (Q := Q) (by omega) hw
        refine ⟨(0, sTicks m (X 0) 3 0 4 - X 0 3 0 4, chC X np ck Yk (sTicks m (X 0))), (sTicks m (X 0) 3 0 4 - X 0 3 0 4, chZ X np ck Yk (sTicks m (X 0))), ?_, Or.inl rfl, ?_, k7 (sTicks m (X 0)), fun _ => rfl, k8 _ n (t + m) (Q + 2 * m) n1 hw2 hlt (by omega)⟩
        · unfold fX8_tick; rw [e1]
          simp only [Option.bind_some, if_true, hwm, htm, hwi, k1, k2, hL2]
        · unfold fX9_tick fX9_tick_39; rw [k4]
          simp only [Option.bind_some, if_true, hin1, c10, if_false, bi_1, bx_1, r1', hle, hrf, k6, bi_12, bx_12, hta, r12, chB_ro, rz]
      · have hle : ¬ nI (t + m) ≤ (9999 : Int32) := fun q => hlt ((pu_le (t + m) 9999 (by decide) (by omega)).mp q)
        have hin1 : fX9_in (nI m).toInt64 (1 : Int64) (300 : Int64) (th X 0) = some (1, th X 0) := by
          rw [o64, t64, q9_in, decide_eq_true hin]; rfl
        refine bad ?_ ?_
        · have hwm : fX8_requireWithin (nI m) 1 300 X = some (0, 0, X) := by rw [rw_within, if_pos hin]
          have hwi : fX8_requireWithin (nI (t + m)) 0 9999 X = some (3, 0, X) := by rw [rw_within, if_neg (fun q => hle q.2)]
          unfold fX8_tick; rw [e1]
          simp only [Option.bind_some, if_true, hwm, htm, hwi, n30, if_false]
        · unfold fX9_tick fX9_tick_34 fX9_tick_39; rw [e2]
          simp only [Option.bind_some, if_true, hin1, c10, if_false, bi_1, bx_1, r1, pu_add, hle]
          rw [q9_refuse (by decide), if_neg c10]
          simp only [Option.bind_some, c10, if_false]
    · have hin0 : fX9_in a.toInt64 (1 : Int64) (300 : Int64) (th X 0) = some (0, th X 0) := by
        rw [o64, t64, q9_in, decide_eq_false hin]; rfl
      refine bad ?_ ?_
      · have hwm : fX8_requireWithin a 1 300 X = some (3, 0, X) := by rw [rw_within, if_neg hin]
        unfold fX8_tick; rw [e1]
        simp only [Option.bind_some, if_true, hwm, n30, if_false]
      · unfold fX9_tick fX9_tick_34 fX9_tick_39; rw [e2]
        simp only [Option.bind_some, if_true, hin0]
        rw [q9_refuse (by decide), if_neg c10]
        simp only [Option.bind_some, c10, if_false]
