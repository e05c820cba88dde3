theorem rw_within {X : bsX} {v a b : Int32} : fX8_requireWithin v a b X = some (if a ≤ v ∧ v ≤ b then (0, 0, X) else (3, 0, X)) := by
  unfold fX8_requireWithin
  by_cases q1 : v < a
  · have := pu_nle.mpr q1
    rw [if_pos q1, if_neg (fun q => this q.1)]
  · have g1 := pu_nlt.mp q1
    rw [if_neg q1]
    by_cases q2 : v ≤ b
    · rw [if_pos q2, if_pos ⟨g1, q2⟩]
    · rw [if_neg q2, if_neg (fun q => q2 q.2)]
theorem sim_image_ok : sim_image Inv := by
  intro j X a b hj h
  have n10 : ¬ (1 : Nat) = 0 := by decide
  have n20 : ¬ (2 : Nat) = 0 := by decide
  have n30 : ¬ (3 : Nat) = 0 := by decide
  have c10 : ¬ (1 : Int32) = 0 := by decide
  have z64 : (0 : Int64) = (0 : Int32).toInt64 := by decide
  have t64 : (4 : Int64) = (4 : Int32).toInt64 := by decide
  rcases h.slot a with ⟨e1, e2⟩ | ⟨e1, e2⟩ | ⟨k, n, t, Q, e1, e2, rfl, hkn, hk6, hw, hR, ht, hQ⟩
  · refine ⟨(1, 0, X), (0, th X 1), by unfold fX8_image; rw [e1]; rfl, Or.inr (Or.inl rfl), by unfold fX9_image; rw [e2]; simp only [Option.bind_some, c10, if_false], th_rd X 1, fun q => absurd (show (1 : Nat) = 0 from q) n10, ((quiet.refl X).thr 1).inv h⟩
  · refine ⟨(2, 0, X), (0, th X 2), by unfold fX8_image; rw [e1]; rfl, Or.inr (Or.inr (Or.inl rfl)), by unfold fX9_image; rw [e2]; simp only [Option.bind_some, c10, if_false], th_rd X 2, fun q => absurd (show (2 : Nat) = 0 from q) n20, ((quiet.refl X).thr 2).inv h⟩
  · have hth := th_ro X 0 hR
    rcases sw_out (v := b) (n := 4) (by decide) with ⟨o1, o2⟩ | ⟨w, hw4, rfl⟩
    · have o3 : ¬ ((0 : Int32) ≤ b ∧ b ≤ 4) := o2
      refine ⟨(3, 0, X), (0, th X 3), ?_, Or.inr (Or.inr (Or.inr rfl)), ?_, th_rd X 3, fun q => absurd (show (3 : Nat) = 0 from q) n30, ((quiet.refl X).thr 3).inv h⟩
      · unfold fX8_image; rw [e1]
        simp only [Option.bind_some, if_true, rw_within]
        rw [if_neg o3]
        simp only [n30, if_false]
      · unfold fX9_image fX9_image_26; rw [e2]
        simp only [Option.bind_some, if_true]
        rw [z64, t64, q9_in, decide_eq_false o3]
        simp only [Option.bind_some, b2_f, if_true]
        rw [q9_refuse (by decide), if_neg c10]
        simp only [Option.bind_some, c10, if_false]
    · have hs := hw.sl k hk6
      have g4 : (0 : Int32) ≤ nI w ∧ nI w ≤ 4 := ⟨(pu_le 0 w (by omega) (by decide)).mpr (Nat.zero_le _), (pu_le w 4 (by decide) (by omega)).mpr hw4⟩
      have hin : fX9_in (nI w).toInt64 (0 : Int64) (4 : Int64) (th X 0) = some (1, th X 0) := by
        rw [z64, t64, q9_in, decide_eq_true g4]; rfl
      have hwi : fX8_requireWithin (nI w) 0 4 X = some (0, 0, X) := by rw [rw_within, if_pos g4]
      have hrf : fX9_refuse 0 3 (th X 0) = some (0, th X 0) := by rw [q9_refuse (by decide)]; rfl
      have hb : ∀ x, is01 x → fX8_bit x X = some (x, X) := by
        intro x hx; unfold fX8_bit; rcases hx with e | e <;> rw [e] <;> simp [b2_t, b2_f, up_at, up_up, up_id]
      have hh : fX9_has (nI k) (ro (th X 0) (enc (X 0))) = some (b2 (decide (X 0 6 k 0 ≠ 0)), ro (th X 0) (enc (X 0))) := q9_has hk6 hs.1
      rw [← hth] at hh
      have hof : fX9_of (nI k) ((8 : Int32) + nI w) (th X 0) = some (eS (X 0) k (8 + w), th X 0) := by
        conv => lhs; rw [hth]
        rw [show (8 : Int32) + nI w = nI (8 + w) from pu_add 8 w]
        have := q9_of (w := 8 + w) hk6 (by omega) (th X 0) (X 0) (sSt (X 0)) (X 0 0 0 11) (X 0 0 0 12)
        refine this.trans ?_
        show some (_, ro (th X 0) (enc (X 0))) = _
        rw [← hth]
      refine ⟨(0, if X 0 6 k 0 = 0 then -1 else eS (X 0) k (8 + w), X), (if X 0 6 k 0 = 0 then -1 else eS (X 0) k (8 + w), th X 0), ?_, Or.inl rfl, ?_, th_rd X 0, fun _ => rfl, ((quiet.refl X).thr 0).inv h⟩
      · unfold fX8_image; rw [e1]
        simp only [Option.bind_some, if_true, hwi, pu_inT hk6 (by decide), pu_ix6 hk6]
        by_cases q : X 0 6 k 0 = 0
        · simp [b2_t, b2_f, up_at, up_up, up_id, q]
        · have hw5 : w = 0 ∨ w = 1 ∨ w = 2 ∨ w = 3 ∨ w = 4 := by omega
          have l0 : nI 0 = (0 : Int32) := rfl
          have l1 : nI 1 = (1 : Int32) := rfl
          have l2 : nI 2 = (2 : Int32) := rfl
          have l3 : nI 3 = (3 : Int32) := rfl
          have l4 : nI 4 = (4 : Int32) := rfl
          rcases hw5 with rfl | rfl | rfl | rfl | rfl
          · simp [b2_t, b2_f, up_at, up_up, up_id, q, l0, eS]
          · simp [b2_t, b2_f, up_at, up_up, up_id, q, l1, eS]
          · simp [b2_t, b2_f, up_at, up_up, up_id, q, l2, eS]
          · simp [b2_t, b2_f, up_at, up_up, up_id, q, l3, eS, hb _ hs.2.1]
          · simp [b2_t, b2_f, up_at, up_up, up_id, q, l4, eS, hb _ hs.2.2.1]
      · unfold fX9_image fX9_image_26; rw [e2]
        simp only [Option.bind_some, if_true, hin, c10, if_false, hrf, hh, hof]
        by_cases q : X 0 6 k 0 = 0
        · simp [b2_t, b2_f, up_at, up_up, up_id, q]
        · simp [b2_t, b2_f, up_at, up_up, up_id, q]
theorem sim_install_ok : sim_install Inv := by
  intro j X b hj h
  have n10 : ¬ (1 : Nat) = 0 := by decide
  have n30 : ¬ (3 : Nat) = 0 := by decide
  have c10 : ¬ (1 : Int32) = 0 := by decide
  have z64 : (0 : Int64) = (0 : Int32).toInt64 := by decide
  have t64 : (3 : Int64) = (3 : Int32).toInt64 := by decide
  rcases h.req with ⟨e, e1, e2⟩ | ⟨e, e1, e2, n, t, Q, n1, hw, hR, ht, hQ⟩
  · exact ⟨(1, 0, X), (0, th X 1), by unfold fX8_install; rw [e1]; rfl, Or.inr (Or.inl rfl), by unfold fX9_install; rw [e2]; simp only [Option.bind_some, c10, if_false], th_rd X 1, fun q => absurd (show (1 : Nat) = 0 from q) n10, ((quiet.refl X).thr 1).inv h⟩
  · rcases sw_out (v := b) (n := 3) (by decide) with ⟨o1, o2⟩ | ⟨w, hw3, rfl⟩
    · have o3 : ¬ ((0 : Int32) ≤ b ∧ b ≤ 3) := o2
      refine ⟨(3, 0, X), (0, th X 2), ?_, Or.inr (Or.inr rfl), ?_, th_rd X 2, fun q => absurd (show (3 : Nat) = 0 from q) n30, ((quiet.refl X).thr 2).inv h⟩
      · unfold fX8_install; rw [e1]
        simp only [Option.bind_some, if_true, rw_within]
        rw [if_neg o3]
        simp only [n30, if_false]
      · unfold fX9_install fX9_install_25; rw [e2]
        simp only [Option.bind_some, if_true]
        rw [z64, t64, q9_in, decide_eq_false o3]
        simp only [Option.bind_some, b2_f, if_true]
        rw [q9_refuse (by decide), if_neg c10]
        simp only [Option.bind_some, c10, if_false]
    · have g3 : (0 : Int32) ≤ nI w ∧ nI w ≤ 3 := ⟨(pu_le 0 w (by omega) (by decide)).mpr (Nat.zero_le _), (pu_le w 3 (by decide) (by omega)).mpr hw3⟩
      have hin : fX9_in (nI w).toInt64 (0 : Int64) (3 : Int64) (th X 0) = some (1, th X 0) := by
        rw [z64, t64, q9_in, decide_eq_true g3]; rfl
      have hwi : fX8_requireWithin (nI w) 0 3 X = some (0, 0, X) := by rw [rw_within, if_pos g3]
      have hrf : fX9_refuse 0 2 (th X 0) = some (0, th X 0) := by rw [q9_refuse (by decide)]; rfl
      have hrd : ∀ i, th X 0 14 1 0 i = enc (X 0) i := by intro i; rw [th_K _ _ (by decide), hR]
      have hor : X 0 2 0 1 = -1 ∨ (¬ X 0 2 0 1 < 0 ∧ X 0 2 0 1 ≠ -1) := by
        have h6 := hw.hn
        rcases hw.ins with q | ⟨z, hz, q, _⟩
        · exact Or.inl q
        · right; rw [q]; exact ⟨pu_neg z (by omega), pu_m1 z (by omega)⟩
      have hm : (-1 : Int32) < 0 := by decide
      have hw4 : w = 0 ∨ w = 1 ∨ w = 2 ∨ w = 3 := by omega
      have l0 : nI 0 = (0 : Int32) := rfl
      have l1 : nI 1 = (1 : Int32) := rfl
      have l2 : nI 2 = (2 : Int32) := rfl
      have l3 : nI 3 = (3 : Int32) := rfl
      have en : ∀ A : Int32, fX8_install (nI w) X = some (0, A, X) → fX9_install (nI w) X = some (A, th X 0) →
          ∃ (r : bsXr) (q : Int32 × bsX), fX8_install (nI w) X = some r ∧ (r.1 = 0 ∨ r.1 = 1 ∨ r.1 = 3) ∧ fX9_install (nI w) r.2.2 = some q ∧ q.2 14 0 0 0 = (if r.1 = 1 then (1 : Int32) else (if r.1 = 3 then (2 : Int32) else (0 : Int32))) ∧ (r.1 = 0 → r.2.1 = q.1) ∧ Inv (j + 1) q.2 :=
        fun A c r => ⟨(0, A, X), (A, th X 0), c, Or.inl rfl, r, th_rd X 0, fun _ => rfl, ((quiet.refl X).thr 0).inv h⟩
      rcases hw4 with rfl | rfl | rfl | rfl
      · refine en (if X 0 2 0 1 = -1 then -1 else X 0 2 0 1) ?_ ?_
        · unfold fX8_install fX2_isOn; rw [e1]
          simp only [Option.bind_some, if_true, hwi]
          rcases hor with q | ⟨q, q2⟩
          · simp [b2_t, b2_f, up_at, up_up, up_id, q, hm]
          · simp [b2_t, b2_f, up_at, up_up, up_id, q, q2, l0, c10]
        · have hv : th X 0 14 1 0 20 = (if X 0 2 0 1 = -1 then -1 else X 0 2 0 1) := by
            rw [hrd]
            show X 0 2 0 1 = _
            by_cases q : X 0 2 0 1 = -1 <;> simp [b2_t, b2_f, up_at, up_up, up_id, q]
          unfold fX9_install fX9_install_25; rw [e2]
          simp only [Option.bind_some, if_true, hin, c10, if_false, hrf]
          rw [if_neg (by decide)]
          have hi : (20 : Int32) + nI 0 = nI 20 := by decide
          simp only [hi, pu_inT (show 20 < 160 by decide) (by decide), if_true, pu_ix 20 (by decide), hv]
      · refine en (if X 0 2 0 1 = -1 then -1 else X 0 2 0 2) ?_ ?_
        · unfold fX8_install fX2_isOn; rw [e1]
          simp only [Option.bind_some, if_true, hwi]
          rcases hor with q | ⟨q, q2⟩
          · simp [b2_t, b2_f, up_at, up_up, up_id, q, hm]
          · simp [b2_t, b2_f, up_at, up_up, up_id, q, q2, l1, c10]
        · have hv : th X 0 14 1 0 21 = (if X 0 2 0 1 = -1 then -1 else X 0 2 0 2) := by
            rw [hrd]
            rfl
          unfold fX9_install fX9_install_25; rw [e2]
          simp only [Option.bind_some, if_true, hin, c10, if_false, hrf]
          rw [if_neg (by decide)]
          have hi : (20 : Int32) + nI 1 = nI 21 := by decide
          simp only [hi, pu_inT (show 21 < 160 by decide) (by decide), if_true, pu_ix 21 (by decide), hv]
      · refine en (if X 0 2 0 1 = -1 then -1 else X 0 6 6 1) ?_ ?_
        · unfold fX8_install fX2_isOn; rw [e1]
          simp only [Option.bind_some, if_true, hwi]
          rcases hor with q | ⟨q, q2⟩
          · simp [b2_t, b2_f, up_at, up_up, up_id, q, hm]
          · simp [b2_t, b2_f, up_at, up_up, up_id, q, q2, l2, c10]
        · have hv : th X 0 14 1 0 22 = (if X 0 2 0 1 = -1 then -1 else X 0 6 6 1) := by
            rw [hrd]
            rfl
          unfold fX9_install fX9_install_25; rw [e2]
          simp only [Option.bind_some, if_true, hin, c10, if_false, hrf]
          rw [if_neg (by decide)]
          have hi : (20 : Int32) + nI 2 = nI 22 := by decide
          simp only [hi, pu_inT (show 22 < 160 by decide) (by decide), if_true, pu_ix 22 (by decide), hv]
      · refine en (if X 0 2 0 1 = -1 then -1 else X 0 2 0 3) ?_ ?_
        · unfold fX8_install fX2_isOn; rw [e1]
          simp only [Option.bind_some, if_true, hwi]
          rcases hor with q | ⟨q, q2⟩
          · simp [b2_t, b2_f, up_at, up_up, up_id, q, hm]
          · simp [b2_t, b2_f, up_at, up_up, up_id, q, q2, l3, c10]
        · have hv : th X 0 14 1 0 27 = (if X 0 2 0 1 = -1 then -1 else X 0 2 0 3) := by
            rw [hrd]
            rfl
          unfold fX9_install fX9_install_25; rw [e2]
          simp only [Option.bind_some, if_true, hin, c10, if_false, hrf]
          rw [if_pos (by decide)]
          have hi : (20 : Int32) + (7 : Int32) = nI 27 := by decide
          simp only [hi, pu_inT (show 27 < 160 by decide) (by decide), if_true, pu_ix 27 (by decide), hv]
