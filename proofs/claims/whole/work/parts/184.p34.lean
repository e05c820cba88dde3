theorem q9_bootable {X : bsX} {Y : pY} {n Q t : Nat} (hw : wm Q n t Y) : fX9_bootable (ro X (enc Y)) = some (sCnt (sBoot Y), ro X (enc Y)) := by
  have h6 := hw.hn
  have h0 := row0 (X := X) (Y := Y) hw.sz
  unfold fX9_bootable sCnt
  rw [itF_6 h6 (fun k a h1 h2 => by rw [show sBoot Y k = false from hw.nb h1 h2]; rfl) 0]
  refine (pu_loop (N := n) (fun m k x => fX9_bootable_4 m x (nI k) (ro X (enc Y))) (fun k x => if sBoot Y k then x + 1 else x) (fun x => (x, ro X (enc Y))) (fun _ _ => True) ?_ ?_ n 0 bsF 0 (by omega) (by unfold bsF; omega) trivial).1
  · intro m k x hk _
    have hk6 : k < 6 := by omega
    have hc : fX9_canBoot (nI k) (ro X (enc Y)) = some (b2 (sBoot Y k), ro X (enc Y)) := q9_canBoot hk6 (hw.sl k hk6)
    refine ⟨?_, trivial⟩
    simp only [fX9_bootable_4, fX9_flag, bi_0, bx_0, h0, pu_leN hk h6, if_true, if_false, hc, Option.bind_some, pu_succ]
    cases sBoot Y k <;> simp [b2_t, b2_f, up_at, up_up, up_id]
  · intro m x _
    simp only [fX9_bootable_4, bi_0, bx_0, h0, pu_leNN, if_true]
theorem q9_sumOf {X : bsX} {Y : pY} {n Q t w : Nat} (hwi : w < 13) (hw : wm Q n t Y) : fX9_sumOf (nI w) (ro X (enc Y)) = some (itF (fun k x => x + eS Y k w) n 0 0, ro X (enc Y)) := by
  have h6 := hw.hn
  have h0 := row0 (X := X) (Y := Y) hw.sz
  unfold fX9_sumOf
  refine (pu_loop (N := n) (fun m k x => fX9_sumOf_4 m (nI w) x (nI k) (ro X (enc Y))) (fun k x => x + eS Y k w) (fun x => (x, ro X (enc Y))) (fun _ _ => True) ?_ ?_ n 0 bsF 0 (by omega) (by unfold bsF; omega) trivial).1
  · intro m k x hk _
    have hk6 : k < 6 := by omega
    have ho : fX9_of (nI k) (nI w) (ro X (enc Y)) = some (eS Y k w, ro X (enc Y)) := q9_of hk6 hwi X Y _ _ _
    refine ⟨?_, trivial⟩
    simp only [fX9_sumOf_4, bi_0, bx_0, h0, pu_leN hk h6, if_true, if_false, ho, Option.bind_some, pu_succ]
  · intro m x _
    simp only [fX9_sumOf_4, bi_0, bx_0, h0, pu_leNN, if_true]
theorem itF_congr {σ : Type} {f g : Nat → σ → σ} {N : Nat} (h : ∀ k a, k < N → f k a = g k a) : ∀ d k a, k + d = N → itF f d k a = itF g d k a := by
  intro d
  induction d with
  | zero => intro k a _; rfl
  | succ d ih => intro k a hk; rw [itF, itF, h k a (by omega)]; exact ih (k + 1) _ (by omega)
theorem sum_good {Y : pY} {n Q t : Nat} (hw : wm Q n t Y) : itF (fun k x => x + eS Y k 3) n 0 0 = sCnt (fun k => Y 5 k 4 ≠ 0) := by
  have h6 := hw.hn
  have hz : ∀ k, n ≤ k → k < 6 → Y 5 k 4 = 0 := fun k h1 h2 => ((hw.sl k h2).2.2.2.2.2.2.2.2.2 (hw.hi k h1 h2).1).2.2.1
  have e : itF (fun k x => x + eS Y k 3) 6 0 0 = itF (fun k x => x + eS Y k 3) n 0 0 := itF_6 h6 (fun k a h1 h2 => by
    show a + Y 5 k 4 = a
    rw [hz k h1 h2]; simp [b2_t, b2_f, up_at, up_up, up_id]) 0
  rw [← e]
  unfold sCnt
  refine itF_congr (N := 6) (fun k a hk => ?_) 6 0 0 rfl
  show a + Y 5 k 4 = _
  rcases (hw.sl k hk).2.2.2.1 with q | q <;> rw [q] <;> simp [b2_t, b2_f, up_at, up_up, up_id, q]
theorem sum_tries {Y : pY} {n Q t : Nat} (hw : wm Q n t Y) : itF (fun k x => x + eS Y k 2) n 0 0 = sSum (fun k => Y 5 k 3) := by
  have h6 := hw.hn
  have hz : ∀ k, n ≤ k → k < 6 → Y 5 k 3 = 0 := fun k h1 h2 => ((hw.sl k h2).2.2.2.2.2.2.2.2.2 (hw.hi k h1 h2).1).2.1
  have e : itF (fun k x => x + eS Y k 2) 6 0 0 = itF (fun k x => x + eS Y k 2) n 0 0 := itF_6 h6 (fun k a h1 h2 => by
    show a + Y 5 k 3 = a
    rw [hz k h1 h2]; simp [b2_t, b2_f, up_at, up_up, up_id]) 0
  rw [← e]
  rfl
theorem sim_count_ok : sim_count Inv := by
  intro j X b hj h
  have n10 : ¬ (1 : Nat) = 0 := by decide
  have n30 : ¬ (3 : Nat) = 0 := by decide
  have c10 : ¬ (1 : Int32) = 0 := by decide
  have z64 : (0 : Int64) = (0 : Int32).toInt64 := by decide
  have t64 : (19 : Int64) = (19 : Int32).toInt64 := by decide
  rcases h.req with ⟨e, e1, e2⟩ | ⟨e, e1, e2, n, t, Q, n1, hw, hR, ht, hQ⟩
  · exact ⟨(1, 0, X), (0, th X 1), by unfold fX8_count; rw [e1]; rfl, Or.inr (Or.inl rfl), by unfold fX9_count; rw [e2]; simp only [Option.bind_some, c10, if_false], th_rd X 1, fun q => absurd (show (1 : Nat) = 0 from q) n10, ((quiet.refl X).thr 1).inv h⟩
  · have hth := th_ro X 0 hR
    rcases sw_out (v := b) (n := 19) (by decide) with ⟨o1, o2⟩ | ⟨w, hw19, rfl⟩
    · refine ⟨(3, 0, X), (0, th X 2), ?_, Or.inr (Or.inr rfl), ?_, th_rd X 2, fun q => absurd (show (3 : Nat) = 0 from q) n30, ((quiet.refl X).thr 2).inv h⟩
      · have o4 : b.toInt < 0 ∨ (19 : Int) < b.toInt := o1
        unfold fX8_count; rw [e1]
        simp only [Option.bind_some, if_true]
        rw [if_pos o4]
      · have o3 : ¬ ((0 : Int32) ≤ b ∧ b ≤ 19) := o2
        unfold fX9_count fX9_count_25; rw [e2]
        simp only [Option.bind_some, if_true]
        rw [z64, t64, q9_in, decide_eq_false o3]
        simp only [Option.bind_some, b2_f, if_true]
        rw [q9_refuse (by decide), if_neg c10]
        simp only [Option.bind_some, c10, if_false]
    · have hin : fX9_in (nI w).toInt64 (0 : Int64) (19 : Int64) (th X 0) = some (1, th X 0) := by
        rw [z64, t64, q9_in, decide_eq_true ⟨(pu_le 0 w (by omega) (by decide)).mpr (Nat.zero_le _), (pu_le w 19 (by decide) (by omega)).mpr hw19⟩]; rfl
      have hrf : fX9_refuse 0 2 (th X 0) = some (0, th X 0) := by rw [q9_refuse (by decide)]; rfl
      have hB := q9_bootable (X := th X 0) hw
      have hG := q9_sumOf (X := th X 0) (w := 3) (by decide) hw
      have hT := q9_sumOf (X := th X 0) (w := 2) (by decide) hw
      rw [← hth] at hB hG hT
      rw [sum_good hw] at hG
      rw [sum_tries hw] at hT
      have hG2 : fX9_sumOf (3 : Int32) (th X 0) = some (sCnt (fun k => decide (X 0 5 k 4 ≠ 0)), th X 0) := hG
      have hT2 : fX9_sumOf (2 : Int32) (th X 0) = some (sSum (fun k => X 0 5 k 3), th X 0) := hT
      have hrd : ∀ i, th X 0 14 1 0 i = enc (X 0) i := by intro i; rw [th_K _ _ (by decide), hR]
      have fin : ∀ A : Int32, fX8_count (nI w) X = some (0, A, X) → fX9_count (nI w) X = some (A, th X 0) →
          ∃ (r : bsXr) (q : Int32 × bsX), fX8_count (nI w) X = some r ∧ (r.1 = 0 ∨ r.1 = 1 ∨ r.1 = 3) ∧ fX9_count (nI w) r.2.2 = some q ∧ q.2 14 0 0 0 = (if r.1 = 1 then (1 : Int32) else (if r.1 = 3 then (2 : Int32) else (0 : Int32))) ∧ (r.1 = 0 → r.2.1 = q.1) ∧ Inv (j + 1) q.2 :=
        fun A c r => ⟨(0, A, X), (A, th X 0), c, Or.inl rfl, r, th_rd X 0, fun _ => rfl, ((quiet.refl X).thr 0).inv h⟩
      have hw20 : w = 0 ∨ w = 1 ∨ w = 2 ∨ w = 3 ∨ w = 4 ∨ w = 5 ∨ w = 6 ∨ w = 7 ∨ w = 8 ∨ w = 9 ∨ w = 10 ∨ w = 11 ∨ w = 12 ∨ w = 13 ∨ w = 14 ∨ w = 15 ∨ w = 16 ∨ w = 17 ∨ w = 18 ∨ w = 19 := by omega
      rcases hw20 with rfl | rfl | rfl | rfl | rfl | rfl | rfl | rfl | rfl | rfl | rfl | rfl | rfl | rfl | rfl | rfl | rfl | rfl | rfl | rfl
      · refine fin (X 0 0 0 4) ?_ ?_
        · show fX8_count (0 : Int32) X = _
          unfold fX8_count
          rw [e1]
          simp [b2_t, b2_f, up_at, up_up, up_id]
        · show fX9_count (0 : Int32) X = _
          have hin2 : fX9_in (0 : Int32).toInt64 (0 : Int64) (19 : Int64) (th X 0) = some (1, th X 0) := hin
          unfold fX9_count fX9_count_25
          rw [e2]
          simp only [Option.bind_some, if_true, hin2, c10, if_false, hrf]
          rw [if_pos (by decide)]
          simp only [bi_0, bx_0, hrd, if_true]
          rfl
      · refine fin (X 0 0 0 9) ?_ ?_
        · show fX8_count (1 : Int32) X = _
          unfold fX8_count
          rw [e1]
          simp [b2_t, b2_f, up_at, up_up, up_id]
        · show fX9_count (1 : Int32) X = _
          have hin2 : fX9_in (1 : Int32).toInt64 (0 : Int64) (19 : Int64) (th X 0) = some (1, th X 0) := hin
          unfold fX9_count fX9_count_25
          rw [e2]
          simp only [Option.bind_some, if_true, hin2, c10, if_false, hrf]
          rw [if_pos (by decide)]
          simp only [bi_1, bx_1, hrd, if_true]
          rfl
      · refine fin (X 0 0 0 5) ?_ ?_
        · show fX8_count (2 : Int32) X = _
          unfold fX8_count
          rw [e1]
          simp [b2_t, b2_f, up_at, up_up, up_id]
        · show fX9_count (2 : Int32) X = _
          have hin2 : fX9_in (2 : Int32).toInt64 (0 : Int64) (19 : Int64) (th X 0) = some (1, th X 0) := hin
          unfold fX9_count fX9_count_25
          rw [e2]
          simp only [Option.bind_some, if_true, hin2, c10, if_false, hrf]
          rw [if_pos (by decide)]
          simp only [bi_2, bx_2, hrd, if_true]
          rfl
      · refine fin (X 0 0 0 6) ?_ ?_
        · show fX8_count (3 : Int32) X = _
          unfold fX8_count
          rw [e1]
          simp [b2_t, b2_f, up_at, up_up, up_id]
        · show fX9_count (3 : Int32) X = _
          have hin2 : fX9_in (3 : Int32).toInt64 (0 : Int64) (19 : Int64) (th X 0) = some (1, th X 0) := hin
          unfold fX9_count fX9_count_25
          rw [e2]
          simp only [Option.bind_some, if_true, hin2, c10, if_false, hrf]
          rw [if_pos (by decide)]
          simp only [bi_3, bx_3, hrd, if_true]
          rfl
      · refine fin (X 0 0 0 7) ?_ ?_
        · show fX8_count (4 : Int32) X = _
          unfold fX8_count
          rw [e1]
          simp [b2_t, b2_f, up_at, up_up, up_id]
        · show fX9_count (4 : Int32) X = _
          have hin2 : fX9_in (4 : Int32).toInt64 (0 : Int64) (19 : Int64) (th X 0) = some (1, th X 0) := hin
          unfold fX9_count fX9_count_25
          rw [e2]
          simp only [Option.bind_some, if_true, hin2, c10, if_false, hrf]
          rw [if_pos (by decide)]
          simp only [bi_4, bx_4, hrd, if_true]
          rfl
      · refine fin (X 0 0 0 8) ?_ ?_
        · show fX8_count (5 : Int32) X = _
          unfold fX8_count
          rw [e1]
          simp [b2_t, b2_f, up_at, up_up, up_id]
        · show fX9_count (5 : Int32) X = _
          have hin2 : fX9_in (5 : Int32).toInt64 (0 : Int64) (19 : Int64) (th X 0) = some (1, th X 0) := hin
          unfold fX9_count fX9_count_25
          rw [e2]
          simp only [Option.bind_some, if_true, hin2, c10, if_false, hrf]
          rw [if_pos (by decide)]
          simp only [bi_5, bx_5, hrd, if_true]
          rfl
      · refine fin (sSt (X 0)) ?_ ?_
        · show fX8_count (6 : Int32) X = _
          unfold fX8_count
          rw [e1]
          simp [b2_t, b2_f, up_at, up_up, up_id, qX3_state (g := 0) hw]
        · show fX9_count (6 : Int32) X = _
          have hin2 : fX9_in (6 : Int32).toInt64 (0 : Int64) (19 : Int64) (th X 0) = some (1, th X 0) := hin
          unfold fX9_count fX9_count_25
          rw [e2]
          simp only [Option.bind_some, if_true, hin2, c10, if_false, hrf]
          rw [if_pos (by decide)]
          simp only [bi_6, bx_6, hrd, if_true]
          rfl
      · refine fin (X 0 0 0 11) ?_ ?_
        · show fX8_count (7 : Int32) X = _
          unfold fX8_count
          rw [e1]
          simp [b2_t, b2_f, up_at, up_up, up_id]
        · show fX9_count (7 : Int32) X = _
          have hin2 : fX9_in (7 : Int32).toInt64 (0 : Int64) (19 : Int64) (th X 0) = some (1, th X 0) := hin
          unfold fX9_count fX9_count_25
          rw [e2]
          simp only [Option.bind_some, if_true, hin2, c10, if_false, hrf]
          rw [if_pos (by decide)]
          simp only [bi_7, bx_7, hrd, if_true]
          rfl
      · refine fin (X 0 0 0 12) ?_ ?_
        · show fX8_count (8 : Int32) X = _
          unfold fX8_count
          rw [e1]
          simp [b2_t, b2_f, up_at, up_up, up_id]
        · show fX9_count (8 : Int32) X = _
          have hin2 : fX9_in (8 : Int32).toInt64 (0 : Int64) (19 : Int64) (th X 0) = some (1, th X 0) := hin
          unfold fX9_count fX9_count_25
          rw [e2]
          simp only [Option.bind_some, if_true, hin2, c10, if_false, hrf]
          rw [if_pos (by decide)]
          simp only [bi_8, bx_8, hrd, if_true]
          rfl
      · refine fin (sCnt (sBoot (X 0))) ?_ ?_
        · show fX8_count (9 : Int32) X = _
          unfold fX8_count
          rw [e1]
          simp [b2_t, b2_f, up_at, up_up, up_id, qX3_bootableSlots]
        · show fX9_count (9 : Int32) X = _
          have hin2 : fX9_in (9 : Int32).toInt64 (0 : Int64) (19 : Int64) (th X 0) = some (1, th X 0) := hin
          unfold fX9_count fX9_count_25
          rw [e2]
          simp only [Option.bind_some, if_true, hin2, c10, if_false, hrf]
          simp [b2_t, b2_f, up_at, up_up, up_id, hB]
      · refine fin (sCnt (fun k => decide (X 0 5 k 4 ≠ 0))) ?_ ?_
        · show fX8_count (10 : Int32) X = _
          unfold fX8_count
          rw [e1]
          simp [b2_t, b2_f, up_at, up_up, up_id, qX3_goodSlots]
        · show fX9_count (10 : Int32) X = _
          have hin2 : fX9_in (10 : Int32).toInt64 (0 : Int64) (19 : Int64) (th X 0) = some (1, th X 0) := hin
          unfold fX9_count fX9_count_25
          rw [e2]
          simp only [Option.bind_some, if_true, hin2, c10, if_false, hrf]
          simp [b2_t, b2_f, up_at, up_up, up_id, hG2]
      · refine fin (sSum (fun k => X 0 5 k 3)) ?_ ?_
        · show fX8_count (11 : Int32) X = _
          unfold fX8_count
          rw [e1]
          simp [b2_t, b2_f, up_at, up_up, up_id, qX3_allTries]
        · show fX9_count (11 : Int32) X = _
          have hin2 : fX9_in (11 : Int32).toInt64 (0 : Int64) (19 : Int64) (th X 0) = some (1, th X 0) := hin
          unfold fX9_count fX9_count_25
          rw [e2]
          simp only [Option.bind_some, if_true, hin2, c10, if_false, hrf]
          simp [b2_t, b2_f, up_at, up_up, up_id, hT2]
      · refine fin (X 0 3 0 4) ?_ ?_
        · show fX8_count (12 : Int32) X = _
          unfold fX8_count
          rw [e1]
          simp [b2_t, b2_f, up_at, up_up, up_id]
        · show fX9_count (12 : Int32) X = _
          have hin2 : fX9_in (12 : Int32).toInt64 (0 : Int64) (19 : Int64) (th X 0) = some (1, th X 0) := hin
          unfold fX9_count fX9_count_25
          rw [e2]
          simp only [Option.bind_some, if_true, hin2, c10, if_false, hrf]
          rw [if_pos (by decide)]
          simp only [bi_12, bx_12, hrd, if_true]
          rfl
      · refine fin (X 0 4 0 0) ?_ ?_
        · show fX8_count (13 : Int32) X = _
          unfold fX8_count
          rw [e1]
          simp [b2_t, b2_f, up_at, up_up, up_id]
        · show fX9_count (13 : Int32) X = _
          have hin2 : fX9_in (13 : Int32).toInt64 (0 : Int64) (19 : Int64) (th X 0) = some (1, th X 0) := hin
          unfold fX9_count fX9_count_25
          rw [e2]
          simp only [Option.bind_some, if_true, hin2, c10, if_false, hrf]
          rw [if_pos (by decide)]
          simp only [bi_13, bx_13, hrd, if_true]
          rfl
      · refine fin (X 0 4 0 1) ?_ ?_
        · show fX8_count (14 : Int32) X = _
          unfold fX8_count
          rw [e1]
          simp [b2_t, b2_f, up_at, up_up, up_id]
        · show fX9_count (14 : Int32) X = _
          have hin2 : fX9_in (14 : Int32).toInt64 (0 : Int64) (19 : Int64) (th X 0) = some (1, th X 0) := hin
          unfold fX9_count fX9_count_25
          rw [e2]
          simp only [Option.bind_some, if_true, hin2, c10, if_false, hrf]
          rw [if_pos (by decide)]
          simp only [bi_14, bx_14, hrd, if_true]
          rfl
      · refine fin (X 0 4 0 2) ?_ ?_
        · show fX8_count (15 : Int32) X = _
          unfold fX8_count
          rw [e1]
          simp [b2_t, b2_f, up_at, up_up, up_id]
        · show fX9_count (15 : Int32) X = _
          have hin2 : fX9_in (15 : Int32).toInt64 (0 : Int64) (19 : Int64) (th X 0) = some (1, th X 0) := hin
          unfold fX9_count fX9_count_25
          rw [e2]
          simp only [Option.bind_some, if_true, hin2, c10, if_false, hrf]
          rw [if_pos (by decide)]
          simp only [bi_15, bx_15, hrd, if_true]
          rfl
      · refine fin (X 0 4 0 3) ?_ ?_
        · show fX8_count (16 : Int32) X = _
          unfold fX8_count
          rw [e1]
          simp [b2_t, b2_f, up_at, up_up, up_id]
        · show fX9_count (16 : Int32) X = _
          have hin2 : fX9_in (16 : Int32).toInt64 (0 : Int64) (19 : Int64) (th X 0) = some (1, th X 0) := hin
          unfold fX9_count fX9_count_25
          rw [e2]
          simp only [Option.bind_some, if_true, hin2, c10, if_false, hrf]
          rw [if_pos (by decide)]
          simp only [bi_16, bx_16, hrd, if_true]
          rfl
      · refine fin (X 0 4 0 4) ?_ ?_
        · show fX8_count (17 : Int32) X = _
          unfold fX8_count
          rw [e1]
          simp [b2_t, b2_f, up_at, up_up, up_id]
        · show fX9_count (17 : Int32) X = _
          have hin2 : fX9_in (17 : Int32).toInt64 (0 : Int64) (19 : Int64) (th X 0) = some (1, th X 0) := hin
          unfold fX9_count fX9_count_25
          rw [e2]
          simp only [Option.bind_some, if_true, hin2, c10, if_false, hrf]
          rw [if_pos (by decide)]
          simp only [bi_17, bx_17, hrd, if_true]
          rfl
      · refine fin (X 0 4 0 5) ?_ ?_
        · show fX8_count (18 : Int32) X = _
          unfold fX8_count
          rw [e1]
          simp [b2_t, b2_f, up_at, up_up, up_id]
        · show fX9_count (18 : Int32) X = _
          have hin2 : fX9_in (18 : Int32).toInt64 (0 : Int64) (19 : Int64) (th X 0) = some (1, th X 0) := hin
          unfold fX9_count fX9_count_25
          rw [e2]
          simp only [Option.bind_some, if_true, hin2, c10, if_false, hrf]
          rw [if_pos (by decide)]
          simp only [bi_18, bx_18, hrd, if_true]
          rfl
      · refine fin (X 0 4 0 6) ?_ ?_
        · show fX8_count (19 : Int32) X = _
          unfold fX8_count
          rw [e1]
          simp [b2_t, b2_f, up_at, up_up, up_id]
        · show fX9_count (19 : Int32) X = _
          have hin2 : fX9_in (19 : Int32).toInt64 (0 : Int64) (19 : Int64) (th X 0) = some (1, th X 0) := hin
          unfold fX9_count fX9_count_25
          rw [e2]
          simp only [Option.bind_some, if_true, hin2, c10, if_false, hrf]
          rw [if_pos (by decide)]
          simp only [bi_19, bx_19, hrd, if_true]
          rfl
