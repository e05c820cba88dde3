theorem sw_out {v : Int32} {n : Nat} (hn : n < 1000) : ((v.toInt < 0 ∨ (n : Int) < v.toInt) ∧ ¬ (0 ≤ v ∧ v ≤ nI n)) ∨ ∃ w, w ≤ n ∧ v = nI w := by
  by_cases q : 0 ≤ v ∧ v ≤ nI n
  · right
    obtain ⟨k, hk, rfl⟩ := pu_of q.1
    exact ⟨k, (pu_le k n (by omega) hk).mp q.2, rfl⟩
  · left
    refine ⟨?_, q⟩
    by_cases h1 : v.toInt < 0
    · exact Or.inl h1
    · right
      have h0 : 0 ≤ v := by rw [Int32.le_iff_toInt_le]; simpa [b2_t, b2_f, up_at, up_up, up_id] using (by omega : 0 ≤ v.toInt)
      obtain ⟨k, hk, rfl⟩ := pu_of h0
      rw [pu_toInt k hk]
      by_cases h2 : k ≤ n
      · exact absurd ⟨h0, (pu_le k n (by omega) hk).mpr h2⟩ q
      · omega
theorem q9_refin {X : bsX} {v a b c : Int32} (hc : c ≠ 0) : ((fX9_in v.toInt64 a.toInt64 b.toInt64 (th X 0)).bind fun r => if r.1 = 0 then fX9_refuse 1 c r.2 else fX9_refuse 0 c r.2) = some (if a ≤ v ∧ v ≤ b then (0, th X 0) else (1, th X c)) := by
  have c10 : ¬ (1 : Int32) = 0 := by decide
  rw [q9_in]
  simp only [Option.bind_some]
  by_cases q : a ≤ v ∧ v ≤ b
  · rw [decide_eq_true q, if_pos q, b2_t, if_neg c10, q9_refuse hc]; simp [b2_t, b2_f, up_at, up_up, up_id]
  · rw [decide_eq_false q, if_neg q, b2_f, if_pos rfl, q9_refuse hc]; simp [b2_t, b2_f, up_at, up_up, up_id]
theorem sim_slot_ok : sim_slot Inv := by
  intro j X a b hj h
  have n10 : ¬ (1 : Nat) = 0 := by decide
  have n20 : ¬ (2 : Nat) = 0 := by decide
  have n30 : ¬ (3 : Nat) = 0 := by decide
  have c10 : ¬ (1 : Int32) = 0 := by decide
  have z64 : (0 : Int64) = (0 : Int32).toInt64 := by decide
  have t64 : (8 : Int64) = (8 : Int32).toInt64 := by decide
  rcases h.slot a with ⟨e1, e2⟩ | ⟨e1, e2⟩ | ⟨k, n, t, Q, e1, e2, rfl, hkn, hk6, hw, hR, ht, hQ⟩
  · refine ⟨(1, 0, X), (0, th X 1), by unfold fX8_slot; rw [e1]; rfl, Or.inr (Or.inl rfl), by unfold fX9_slot; rw [e2]; simp only [Option.bind_some, c10, if_false], th_rd X 1, fun q => absurd (show (1 : Nat) = 0 from q) n10, ((quiet.refl X).thr 1).inv h⟩
  · refine ⟨(2, 0, X), (0, th X 2), by unfold fX8_slot; rw [e1]; rfl, Or.inr (Or.inr (Or.inl rfl)), by unfold fX9_slot; rw [e2]; simp only [Option.bind_some, c10, if_false], th_rd X 2, fun q => absurd (show (2 : Nat) = 0 from q) n20, ((quiet.refl X).thr 2).inv h⟩
  · have hth := th_ro X 0 hR
    rcases sw_out (v := b) (n := 8) (by decide) with ⟨o1, o2⟩ | ⟨w, hw8, rfl⟩
    · refine ⟨(3, 0, X), (0, th X 3), ?_, Or.inr (Or.inr (Or.inr rfl)), ?_, th_rd X 3, fun q => absurd (show (3 : Nat) = 0 from q) n30, ((quiet.refl X).thr 3).inv h⟩
      · unfold fX8_slot; rw [e1]
        simp only [Option.bind_some, if_true, pu_inT hk6 (by decide)]
        have o4 : b.toInt < 0 ∨ (8 : Int) < b.toInt := o1
        rw [if_pos o4]
      · have o3 : ¬ ((0 : Int32) ≤ b ∧ b ≤ 8) := o2
        unfold fX9_slot fX9_slot_26; rw [e2]
        simp only [Option.bind_some, if_true]
        rw [z64, t64, q9_in, decide_eq_false o3]
        simp only [Option.bind_some, b2_f, if_true]
        rw [q9_refuse (by decide), if_neg c10]
        simp only [Option.bind_some, c10, if_false]
    · have hs := hw.sl k hk6
      have hin : fX9_in (nI w).toInt64 (0 : Int64) (8 : Int64) (th X 0) = some (1, th X 0) := by
        rw [z64, t64, q9_in, decide_eq_true ⟨(pu_le 0 w (by omega) (by decide)).mpr (Nat.zero_le _), (pu_le w 8 (by decide) (by omega)).mpr hw8⟩]; rfl
      have hrf : fX9_refuse 0 3 (th X 0) = some (0, th X 0) := by rw [q9_refuse (by decide)]; rfl
      have hb : ∀ x, is01 x → fX8_bit x X = some (x, X) := by
        intro x hx; unfold fX8_bit; rcases hx with e | e <;> rw [e] <;> simp [b2_t, b2_f, up_at, up_up, up_id]
      have hfl : ∀ x, is01 x → fX9_flag x (th X 0) = some (x, th X 0) := by
        intro x hx; unfold fX9_flag; rcases hx with e | e <;> rw [e] <;> simp [b2_t, b2_f, up_at, up_up, up_id]
      have hc : fX9_canBoot (nI k) (ro (th X 0) (enc (X 0))) = some (b2 (sBoot (X 0) k), ro (th X 0) (enc (X 0))) := q9_canBoot hk6 hs
      have hof : ∀ u, u < 13 → fX9_of (nI k) (nI u) (th X 0) = some (eS (X 0) k u, th X 0) := by
        intro u hu
        conv => lhs; rw [hth]
        have := q9_of hk6 hu (th X 0) (X 0) (sSt (X 0)) (X 0 0 0 11) (X 0 0 0 12)
        refine this.trans ?_
        show some (_, ro (th X 0) (enc (X 0))) = _
        rw [← hth]
      rw [← hth] at hc
      have fin : ∀ A : Int32, fX8_slot (nI k) (nI w) X = some (0, A, X) → fX9_slot (nI k) (nI w) X = some (A, th X 0) →
          ∃ (r : bsXr) (q : Int32 × bsX), fX8_slot (nI k) (nI w) X = some r ∧ (r.1 = 0 ∨ r.1 = 1 ∨ r.1 = 2 ∨ r.1 = 3) ∧ fX9_slot (nI k) (nI w) r.2.2 = some q ∧ q.2 14 0 0 0 = (if r.1 = 1 then (1 : Int32) else (if r.1 = 2 then (2 : Int32) else (if r.1 = 3 then (3 : Int32) else (0 : Int32)))) ∧ (r.1 = 0 → r.2.1 = q.1) ∧ Inv (j + 1) q.2 :=
        fun A c r => ⟨(0, A, X), (A, th X 0), c, Or.inl rfl, r, th_rd X 0, fun _ => rfl, ((quiet.refl X).thr 0).inv h⟩
      have hw9 : w = 0 ∨ w = 1 ∨ w = 2 ∨ w = 3 ∨ w = 4 ∨ w = 5 ∨ w = 6 ∨ w = 7 ∨ w = 8 := by omega
      have cl : ∀ A : Int32, (fX8_slot (nI k) (nI w) X = some (0, A, X)) = (fX8_slot (nI k) (nI w) X = some (0, A, X)) := fun _ => rfl
      rcases hw9 with rfl | rfl | rfl | rfl | rfl | rfl | rfl | rfl | rfl
      · refine fin (X 0 6 k 0) ?_ ?_
        · show fX8_slot (nI k) (0 : Int32) X = _
          unfold fX8_slot
          rw [e1]
          simp [b2_t, b2_f, up_at, up_up, up_id, pu_inT hk6 (by decide), pu_ix6 hk6, hb _ hs.1]
        · show fX9_slot (nI k) (0 : Int32) X = _
          have hin2 : fX9_in (0 : Int32).toInt64 (0 : Int64) (8 : Int64) (th X 0) = some (1, th X 0) := hin
          have ho : fX9_of (nI k) (0 : Int32) (th X 0) = some (X 0 6 k 0, th X 0) := hof 0 (by decide)
          unfold fX9_slot fX9_slot_26 fX9_slot_63
          rw [e2]
          simp only [Option.bind_some, if_true, hin2, c10, if_false, hrf]
          simp [b2_t, b2_f, up_at, up_up, up_id, ho]
      · refine fin (X 0 5 k 2) ?_ ?_
        · show fX8_slot (nI k) (1 : Int32) X = _
          unfold fX8_slot
          rw [e1]
          simp [b2_t, b2_f, up_at, up_up, up_id, pu_inT hk6 (by decide), pu_ix6 hk6]
        · show fX9_slot (nI k) (1 : Int32) X = _
          have hin2 : fX9_in (1 : Int32).toInt64 (0 : Int64) (8 : Int64) (th X 0) = some (1, th X 0) := hin
          have ho : fX9_of (nI k) (1 : Int32) (th X 0) = some (X 0 5 k 2, th X 0) := hof 1 (by decide)
          unfold fX9_slot fX9_slot_26 fX9_slot_63
          rw [e2]
          simp only [Option.bind_some, if_true, hin2, c10, if_false, hrf]
          simp [b2_t, b2_f, up_at, up_up, up_id, ho]
      · refine fin (X 0 5 k 3) ?_ ?_
        · show fX8_slot (nI k) (2 : Int32) X = _
          unfold fX8_slot
          rw [e1]
          simp [b2_t, b2_f, up_at, up_up, up_id, pu_inT hk6 (by decide), pu_ix6 hk6]
        · show fX9_slot (nI k) (2 : Int32) X = _
          have hin2 : fX9_in (2 : Int32).toInt64 (0 : Int64) (8 : Int64) (th X 0) = some (1, th X 0) := hin
          have ho : fX9_of (nI k) (2 : Int32) (th X 0) = some (X 0 5 k 3, th X 0) := hof 2 (by decide)
          unfold fX9_slot fX9_slot_26 fX9_slot_63
          rw [e2]
          simp only [Option.bind_some, if_true, hin2, c10, if_false, hrf]
          simp [b2_t, b2_f, up_at, up_up, up_id, ho]
      · refine fin (X 0 5 k 4) ?_ ?_
        · show fX8_slot (nI k) (3 : Int32) X = _
          unfold fX8_slot
          rw [e1]
          simp [b2_t, b2_f, up_at, up_up, up_id, pu_inT hk6 (by decide), pu_ix6 hk6, hb _ hs.2.2.2.1]
        · show fX9_slot (nI k) (3 : Int32) X = _
          have hin2 : fX9_in (3 : Int32).toInt64 (0 : Int64) (8 : Int64) (th X 0) = some (1, th X 0) := hin
          have ho : fX9_of (nI k) (3 : Int32) (th X 0) = some (X 0 5 k 4, th X 0) := hof 3 (by decide)
          unfold fX9_slot fX9_slot_26 fX9_slot_63
          rw [e2]
          simp only [Option.bind_some, if_true, hin2, c10, if_false, hrf]
          simp [b2_t, b2_f, up_at, up_up, up_id, ho]
      · refine fin (X 0 5 k 5) ?_ ?_
        · show fX8_slot (nI k) (4 : Int32) X = _
          unfold fX8_slot
          rw [e1]
          simp [b2_t, b2_f, up_at, up_up, up_id, pu_inT hk6 (by decide), pu_ix6 hk6]
        · show fX9_slot (nI k) (4 : Int32) X = _
          have hin2 : fX9_in (4 : Int32).toInt64 (0 : Int64) (8 : Int64) (th X 0) = some (1, th X 0) := hin
          have ho : fX9_of (nI k) (4 : Int32) (th X 0) = some (X 0 5 k 5, th X 0) := hof 4 (by decide)
          unfold fX9_slot fX9_slot_26 fX9_slot_63
          rw [e2]
          simp only [Option.bind_some, if_true, hin2, c10, if_false, hrf]
          simp [b2_t, b2_f, up_at, up_up, up_id, ho]
      · refine fin (b2 (sBoot (X 0) k)) ?_ ?_
        · show fX8_slot (nI k) (5 : Int32) X = _
          unfold fX8_slot
          rw [e1]
          simp [b2_t, b2_f, up_at, up_up, up_id, pu_inT hk6 (by decide), pu_ix6 hk6, hb _ (b2_01 _), qX3_boot]
        · show fX9_slot (nI k) (5 : Int32) X = _
          have hin2 : fX9_in (5 : Int32).toInt64 (0 : Int64) (8 : Int64) (th X 0) = some (1, th X 0) := hin
          unfold fX9_slot fX9_slot_26 fX9_slot_63
          rw [e2]
          simp only [Option.bind_some, if_true, hin2, c10, if_false, hrf]
          simp [b2_t, b2_f, up_at, up_up, up_id, hc, hfl _ (b2_01 _)]
      · refine fin (X 0 5 k 6) ?_ ?_
        · show fX8_slot (nI k) (6 : Int32) X = _
          unfold fX8_slot
          rw [e1]
          simp [b2_t, b2_f, up_at, up_up, up_id, pu_inT hk6 (by decide), pu_ix6 hk6]
        · show fX9_slot (nI k) (6 : Int32) X = _
          have hin2 : fX9_in (6 : Int32).toInt64 (0 : Int64) (8 : Int64) (th X 0) = some (1, th X 0) := hin
          have ho : fX9_of (nI k) (5 : Int32) (th X 0) = some (X 0 5 k 6, th X 0) := hof 5 (by decide)
          unfold fX9_slot fX9_slot_26 fX9_slot_63
          rw [e2]
          simp only [Option.bind_some, if_true, hin2, c10, if_false, hrf]
          simp [b2_t, b2_f, up_at, up_up, up_id, ho]
      · refine fin (X 0 5 k 7) ?_ ?_
        · show fX8_slot (nI k) (7 : Int32) X = _
          unfold fX8_slot
          rw [e1]
          simp [b2_t, b2_f, up_at, up_up, up_id, pu_inT hk6 (by decide), pu_ix6 hk6]
        · show fX9_slot (nI k) (7 : Int32) X = _
          have hin2 : fX9_in (7 : Int32).toInt64 (0 : Int64) (8 : Int64) (th X 0) = some (1, th X 0) := hin
          have ho : fX9_of (nI k) (6 : Int32) (th X 0) = some (X 0 5 k 7, th X 0) := hof 6 (by decide)
          unfold fX9_slot fX9_slot_26 fX9_slot_63
          rw [e2]
          simp only [Option.bind_some, if_true, hin2, c10, if_false, hrf]
          simp [b2_t, b2_f, up_at, up_up, up_id, ho]
      · refine fin (X 0 5 k 8) ?_ ?_
        · show fX8_slot (nI k) (8 : Int32) X = _
          unfold fX8_slot
          rw [e1]
          simp [b2_t, b2_f, up_at, up_up, up_id, pu_inT hk6 (by decide), pu_ix6 hk6]
        · show fX9_slot (nI k) (8 : Int32) X = _
          have hin2 : fX9_in (8 : Int32).toInt64 (0 : Int64) (8 : Int64) (th X 0) = some (1, th X 0) := hin
          have ho : fX9_of (nI k) (7 : Int32) (th X 0) = some (X 0 5 k 8, th X 0) := hof 7 (by decide)
          unfold fX9_slot fX9_slot_26 fX9_slot_63
          rw [e2]
          simp only [Option.bind_some, if_true, hin2, c10, if_false, hrf]
          simp [b2_t, b2_f, up_at, up_up, up_id, ho]
