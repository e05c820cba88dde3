theorem sw_01 (a : Int32) : ((a < 0 ∨ ¬ a < 2) ∧ ¬ (0 ≤ a ∧ a ≤ 1)) ∨ (¬ a < 0 ∧ a < 2 ∧ (0 ≤ a ∧ a ≤ 1) ∧ ∃ w, w < 2 ∧ a = nI w) := by
  by_cases q : (0 : Int32) ≤ a ∧ a ≤ 1
  · right
    obtain ⟨k, hk, rfl⟩ := pu_of q.1
    have h2 := (pu_le k 1 (by decide) hk).mp q.2
    exact ⟨pu_neg k hk, (pu_lt k 2 (by decide) hk).mpr (by omega), q, k, by omega, rfl⟩
  · left
    refine ⟨?_, q⟩
    by_cases h1 : a < 0
    · exact Or.inl h1
    · right
      intro h2
      have h0 := pu_nlt.mp h1
      obtain ⟨k, hk, rfl⟩ := pu_of h0
      have h3 := (pu_lt k 2 (by decide) hk).mp h2
      exact q ⟨h0, (pu_le k 1 (by decide) hk).mpr (by omega)⟩
theorem sim_save_ok : sim_save Inv := by
  intro j X a hj h
  have c10 : ¬ (1 : Int32) = 0 := by decide
  have n10 : ¬ (1 : Nat) = 0 := by decide
  have n20 : ¬ (2 : Nat) = 0 := by decide
  have z64 : (0 : Int64) = (0 : Int32).toInt64 := by decide
  have o64 : (1 : Int64) = (1 : Int32).toInt64 := by decide
  have hnb : vp_nar .boolean (1 : Int32) = 1 := by decide
  rcases h.req with ⟨e, e1, e2⟩ | ⟨e, e1, e2, n, t, Q, n1, hw, hR, ht, hQ⟩
  · exact ⟨(1, 0, X), (0, th X 1), by unfold fX8_save; rw [e1]; rfl, Or.inr (Or.inl rfl), by unfold fX9_save; rw [e2]; simp only [Option.bind_some, c10, if_false], th_rd X 1, fun q => absurd (show (1 : Nat) = 0 from q) n10, ((quiet.refl X).thr 1).inv h⟩
  · have hia : ∀ Z, fX9_in a.toInt64 (0 : Int64) (1 : Int64) Z = some (b2 (decide ((0 : Int32) ≤ a ∧ a ≤ 1)), Z) := by intro Z; rw [z64, o64, q9_in]
    rcases sw_01 a with ⟨o1, o2⟩ | ⟨o1, o2, o3, w, hw2, rfl⟩
    · refine ⟨(2, 0, X), (0, th X 2), ?_, Or.inr (Or.inr rfl), ?_, th_rd X 2, fun q => absurd (show (2 : Nat) = 0 from q) n20, ((quiet.refl X).thr 2).inv h⟩
      · unfold fX8_save; rw [e1]
        simp only [Option.bind_some, if_true]
        by_cases g : a < 0
        · rw [if_pos g]
        · rw [if_neg g, if_neg (o1.resolve_left g)]
      · unfold fX9_save fX9_save_23; rw [e2]
        simp only [Option.bind_some, if_true, hia, decide_eq_false o2, b2_f]
        rw [q9_refuse (by decide), if_neg c10]
        simp only [Option.bind_some, c10, if_false]
    · have hcp := qX3_copy (g := 10 + w) (g2 := 0) (X := X) (by omega) hw
      have ha := sCopy_alike (X 0) (X (10 + w))
      generalize sCopy (X 0) (X (10 + w)) = Y at hcp ha
      have hwY := wm_alike hw ha
      have hRY : X 14 1 0 = enc Y := by rw [hR, enc_alike ha]
      generalize hW : bsWr (up X (10 + w) Y) 13 5 0 w (1 : Int32) = W
      have wg : ∀ g, g ≠ 10 + w → g ≠ 13 → W g = X g := by
        intro g p q; rw [← hW]; funext K i d; unfold bsWr; rw [if_neg (by omega), up_ne _ _ p]
      have w10 : W (10 + w) = Y := by
        rw [← hW]; funext K i d; unfold bsWr; rw [if_neg (by omega), up_at]
      have w13 : ∀ K i d, W 13 K i d = if K = 5 ∧ i = 0 ∧ d = w then 1 else X 13 K i d := by
        intro K i d; rw [← hW]; unfold bsWr; rw [up_ne _ _ (by omega)]; simp [b2_t, b2_f, up_at, up_up, up_id]
      have w14 : W 14 = X 14 := wg 14 (by omega) (by decide)
      have hn : fX9_notLoaded W = some (0, th W 0) := by rw [q9_notLoaded (Or.inr (by rw [w14]; exact e)), w14, e, if_neg c10]
      have ht1 : (th W 0) 14 1 0 = enc Y := by rw [th_K _ _ (by decide), w14, hRY]
      have ht2 : (th W 0) 14 2 0 = X 14 2 0 := by rw [th_K _ _ (by decide), w14]
      have hto := q9_toSt (X := th W 0) (k := 8 + w) (by omega)
      rw [ht1, ht2] at hto
      have hadr : (160 : Int32) * ((8 : Int32) + nI w) = nI (160 * (8 + w)) := by
        rw [show (8 : Int32) = nI 8 from rfl, show (160 : Int32) = nI 160 from rfl, pu_add, pu_mul]
      have bw : bsIn (nI w) 2 = True := pu_inT hw2 (by decide)
      have xw : bsIx (nI w) = w := pu_ix w (by omega)
      generalize hZ : bsWr (ar (th W 0) 2 (stK (X 14 2 0) (enc Y) (8 + w))) 14 3 0 w (1 : Int32) = Z
      have zg : ∀ g, g ≠ 14 → Z g = W g := by
        intro g p; rw [← hZ]; funext K i d; unfold bsWr; rw [if_neg (by omega), ar_val, if_neg (by omega), th_g _ _ p]
      have z0 : ∀ i, i ≠ 0 → Z 14 0 0 i = X 14 0 0 i := by
        intro i p; rw [← hZ]; unfold bsWr; rw [if_neg (by omega), ar_val, if_neg (by omega)]; unfold th bsWr; rw [if_neg (by omega), w14]
      have z00 : Z 14 0 0 0 = 0 := by
        rw [← hZ]; unfold bsWr; rw [if_neg (by omega), ar_val, if_neg (by omega), th_rd]
      have zK : ∀ K, K ≠ 0 → K ≠ 2 → K ≠ 3 → Z 14 K 0 = X 14 K 0 := by
        intro K p q r; rw [← hZ]; funext i; unfold bsWr; rw [if_neg (by omega), ar_val, if_neg (by omega), th_K _ _ p, w14]
      have z2 : Z 14 2 0 = stK (X 14 2 0) (enc Y) (8 + w) := by
        rw [← hZ]; funext i; unfold bsWr; rw [if_neg (by omega), ar_rd]
      have z3 : ∀ i, Z 14 3 0 i = if i = w then 1 else X 14 3 0 i := by
        intro i; rw [← hZ]; unfold bsWr
        by_cases q : i = w
        · subst q; simp [b2_t, b2_f, up_at, up_up, up_id]
        · rw [if_neg (by omega), if_neg q, ar_val, if_neg (by omega), th_K _ _ (by decide), w14]
      refine ⟨(0, X 0 0 0 9, W), (X 0 0 0 9, Z), ?_, Or.inl rfl, ?_, z00, fun _ => rfl, ?_⟩
      · unfold fX8_save; rw [e1]
        simp only [Option.bind_some, if_true, o1, if_false, o2, bw, xw, hcp, hnb, hW]
        rw [wg 0 (by omega) (by decide)]
      · show fX9_save (nI w) W = _
        have z1r : Z 14 1 0 1 = X 0 0 0 9 := by rw [zK 1 (by decide) (by decide) (by decide), hR]; rfl
        unfold fX9_save fX9_save_23; rw [hn]
        simp only [Option.bind_some, if_true, hia, decide_eq_true o3, b2_t, c10, if_false]
        rw [q9_refuse (by decide), if_pos rfl]
        simp only [Option.bind_some, if_true, hadr]
        rw [show fX9_copies 1 160 2 1760 (0 : Int32) (nI (160 * (8 + w))) (th W 0) = some (ar (th W 0) 2 (stK (X 14 2 0) (enc Y) (8 + w))) from hto]
        simp only [Option.bind_some, bw, xw, if_true, bi_1, bx_1, hnb, hZ, z1r]
      · have hU := h.2.2.2.2.1
        show Inv (j + 1) Z
        refine h.re (by rw [zg 12 (by decide), wg 12 (by omega) (by decide)]) ?_ (fun i p _ => z0 i p) (zK 4 (by decide) (by decide) (by decide)) (zK 6 (by decide) (by decide) (by decide)) (by rw [zK 1 (by decide) (by decide) (by decide)]; exact h.2.2.2.1) ?_ ?_ ?_
        · intro K i d p q; rw [zg 13 (by decide), w13, if_neg (by omega)]
        · intro p
          rw [zg 0 (by decide), wg 0 (by omega) (by decide), zK 1 (by decide) (by decide) (by decide)]
          exact (h.2.2.1 p).up
        · obtain ⟨np, ck, u1, u2, u3, u4, u5, u6⟩ := hU
          refine ⟨np, ck, u1, u2, by rw [zg 13 (by decide), w13, if_neg (by omega)]; exact u3, by rw [zg 13 (by decide), w13, if_neg (by omega)]; exact u4, by rw [z0 4 (by decide)]; exact u5, ?_⟩
          intro i hi
          rw [zg _ (by omega), wg _ (by omega) (by omega), stRow_R, z2, stK_other (by omega), ← stRow_R]
          exact (u6 i hi).up
        · intro i hi
          by_cases q : i = w
          · subst q
            rw [z3, if_pos rfl, zg 13 (by decide), w13, if_pos ⟨rfl, rfl, rfl⟩, zg _ (by omega), w10, stRow_R, z2, stK_same (enc_160 Y)]
            exact ⟨Or.inr rfl, rfl, fun _ => ⟨n, t, Q, n1, hwY, rfl, ht, by omega⟩⟩
          · obtain ⟨b1, b2, b3⟩ := h.2.2.2.2.2.1 i hi
            rw [z3, if_neg q, zg 13 (by decide), w13, if_neg (by omega), zg _ (by omega), wg _ (by omega) (by omega), stRow_R, z2, stK_other (by omega), ← stRow_R]
            exact ⟨b1, b2, fun z => (b3 z).up⟩
theorem sim_restore_ok : sim_restore Inv := by
  intro j X a hj h
  have c10 : ¬ (1 : Int32) = 0 := by decide
  have n10 : ¬ (1 : Nat) = 0 := by decide
  have n20 : ¬ (2 : Nat) = 0 := by decide
  have n21 : ¬ (2 : Nat) = 1 := by decide
  have n12 : ¬ (1 : Nat) = 2 := by decide
  have z64 : (0 : Int64) = (0 : Int32).toInt64 := by decide
  have o64 : (1 : Int64) = (1 : Int32).toInt64 := by decide
  have hia : ∀ Z, fX9_in a.toInt64 (0 : Int64) (1 : Int64) Z = some (b2 (decide ((0 : Int32) ≤ a ∧ a ≤ 1)), Z) := by intro Z; rw [z64, o64, q9_in]
  have hth : ∀ Z : bsX, bsWr Z 14 0 0 0 (0 : Int32) = th Z 0 := fun Z => rfl
  rcases sw_01 a with ⟨o1, o2⟩ | ⟨o1, o2, o3, w, hw2, rfl⟩
  · refine ⟨(2, 0, X), (0, th X 1), ?_, Or.inr (Or.inl rfl), ?_, th_rd X 1, fun q => absurd (show (2 : Nat) = 0 from q) n20, ((quiet.refl X).thr 1).inv h⟩
    · unfold fX8_restore
      by_cases g : a < 0
      · rw [if_pos g]
      · rw [if_neg g, if_neg (o1.resolve_left g)]
    · unfold fX9_restore fX9_restore_21
      rw [hth X, hia]
      simp only [Option.bind_some, decide_eq_false o2, b2_f, if_true]
      rw [q9_refuse (by decide), if_neg c10]
      simp only [Option.bind_some, c10, if_false]
  · have bw : bsIn (nI w) 2 = True := pu_inT hw2 (by decide)
    have xw : bsIx (nI w) = w := pu_ix w (by omega)
    obtain ⟨b1, b2', b3⟩ := h.2.2.2.2.2.1 w hw2
    by_cases hsv : X 14 3 0 w = 0
    · refine ⟨(1, 0, X), (0, th X 2), ?_, Or.inr (Or.inr rfl), ?_, th_rd X 2, fun q => absurd (show (1 : Nat) = 0 from q) n10, ((quiet.refl X).thr 2).inv h⟩
      · unfold fX8_restore
        simp only [o1, o2, if_false, if_true, bw, xw, b2', hsv]
      · have r3 : th X 0 14 3 0 w = 0 := by rw [th_K _ _ (by decide)]; exact hsv
        unfold fX9_restore fX9_restore_21 fX9_restore_43
        rw [hth X, hia]
        simp only [Option.bind_some, decide_eq_true o3, b2_t, c10, if_false]
        rw [q9_refuse (by decide), if_pos rfl]
        simp only [Option.bind_some, if_true, bw, xw, r3]
        rw [q9_refuse (by decide), if_neg c10]
        simp only [Option.bind_some, c10, if_false]
    · have hs1 : X 14 3 0 w = 1 := b1.resolve_left hsv
      obtain ⟨n, t, Q, n1, hw, hR, ht, hQ⟩ := b3 hs1
      have hcp := qX3_copy (g := 0) (g2 := 10 + w) (X := X) (by omega) hw
      have ha := sCopy_alike (X (10 + w)) (X 0)
      generalize sCopy (X (10 + w)) (X 0) = Y at hcp ha
      have hwY := wm_alike hw ha
      have hRY : stRow X (8 + w) = enc Y := by rw [hR, enc_alike ha]
      have h14 : up (c13 X 0 0) 0 Y 14 = X 14 := by
        rw [up_ne _ _ (by decide)]; funext K i d; unfold c13 bsWr; rw [if_neg (by omega), if_neg (by omega)]
      have hcc : bsWr (bsWr (up X 0 Y) 13 0 0 8 (0 : Int32)) 13 0 0 9 (0 : Int32) = up (c13 X 0 0) 0 Y := by
        funext g K i d
        unfold c13 bsWr up
        by_cases g0 : g = 0
        · subst g0; simp [b2_t, b2_f, up_at, up_up, up_id]
        · simp only [g0, if_false]; rfl
      have hg2 : ∀ g, g ≠ 0 → g ≠ 13 → up (c13 X 0 0) 0 Y g = X g := by
        intro g p q; rw [up_ne _ _ p]; funext K i d; unfold c13 bsWr; rw [if_neg (by omega), if_neg (by omega)]
      have hK : ∀ K, K ≠ 0 → th (up (c13 X 0 0) 0 Y) 0 14 K 0 = X 14 K 0 := by intro K p; rw [th_K _ _ p, h14]
      have htk := q9_take (W := th (up (c13 X 0 0) 0 Y) 0) (m := 8 + w) (Y := Y) (by omega) (by rw [hK 1 (by decide)]; exact h.2.2.2.1) (by rw [← hRY]; unfold stRow; rw [hK 2 (by decide)])
      have hadr : (160 : Int32) * ((8 : Int32) + nI w) = nI (160 * (8 + w)) := by
        rw [show (8 : Int32) = nI 8 from rfl, show (160 : Int32) = nI 160 from rfl, pu_add, pu_mul]
      generalize hZ : bsWr (ro (th (up (c13 X 0 0) 0 Y) 0) (enc Y)) 14 0 0 4 (0 : Int32) = Z
      have zg : ∀ g, g ≠ 14 → Z g = up (c13 X 0 0) 0 Y g := by
        intro g p; rw [← hZ]; funext K i d; unfold bsWr; rw [if_neg (by omega), ro_val, if_neg (by omega), th_g _ _ p]
      have zK : ∀ K, K ≠ 0 → K ≠ 1 → Z 14 K 0 = X 14 K 0 := by
        intro K p q; rw [← hZ]; funext i; unfold bsWr; rw [if_neg (by omega), ro_val, if_neg (by omega), hK K p]
      have z1 : Z 14 1 0 = enc Y := by rw [← hZ]; funext i; unfold bsWr; rw [if_neg (by omega)]; exact ro_rd _ _ _
      have z4 : Z 14 0 0 4 = 0 := by rw [← hZ]; simp [b2_t, b2_f, up_at, up_up, up_id, bsWr]
      have z00 : Z 14 0 0 0 = 0 := by rw [← hZ]; unfold bsWr; rw [if_neg (by omega), ro_val, if_neg (by omega), th_rd]
      have z0 : ∀ i, i ≠ 0 → i ≠ 4 → Z 14 0 0 i = X 14 0 0 i := by
        intro i p q; rw [← hZ]; unfold bsWr; rw [if_neg (by omega), ro_val, if_neg (by omega)]; unfold th bsWr; rw [if_neg (by omega), h14]
      have z13 : ∀ K q i, Z 13 K q i = if K = 0 ∧ q = 0 ∧ (i = 8 ∨ i = 9) then 0 else X 13 K q i := by
        intro K q i; rw [zg 13 (by decide), up_ne _ _ (by decide)]; unfold c13 bsWr
        by_cases e : K = 0 ∧ q = 0 ∧ (i = 8 ∨ i = 9)
        · obtain ⟨rfl, rfl, rfl | rfl⟩ := e <;> simp [b2_t, b2_f, up_at, up_up, up_id, nI]
        · rw [if_neg (by omega), if_neg (by omega), if_neg e]
      have hY9 : Y 0 0 9 = enc Y 1 := rfl
      refine ⟨(0, Y 0 0 9, up (c13 X 0 0) 0 Y), (Y 0 0 9, Z), ?_, Or.inl rfl, ?_, z00, fun _ => rfl, ?_⟩
      · unfold fX8_restore fX8_forgetChanges
        have hsv2 : ¬ X 13 5 0 w = 0 := by rw [b2']; exact hsv
        simp only [o1, o2, if_false, if_true, bw, xw, hsv2, hcp, Option.bind_some, hcc, up_at]
      · show fX9_restore (nI w) (up (c13 X 0 0) 0 Y) = _
        have r3 : ¬ th (up (c13 X 0 0) 0 Y) 0 14 3 0 w = 0 := by rw [hK 3 (by decide)]; exact hsv
        have z1r : Z 14 1 0 1 = Y 0 0 9 := by rw [z1]; rfl
        unfold fX9_restore fX9_restore_21 fX9_restore_43
        rw [hth (up (c13 X 0 0) 0 Y), hia]
        simp only [Option.bind_some, decide_eq_true o3, b2_t, c10, if_false]
        rw [q9_refuse (by decide), if_pos rfl]
        simp only [Option.bind_some, if_true, bw, xw, r3, if_false]
        rw [q9_refuse (by decide), if_pos rfl]
        simp only [Option.bind_some, if_true, hadr]
        rw [show fX9_copies 2 1760 1 160 (nI (160 * (8 + w))) (0 : Int32) (th (up (c13 X 0 0) 0 Y) 0) = some (ro (th (up (c13 X 0 0) 0 Y) 0) (enc Y)) from htk]
        simp only [Option.bind_some, bi_1, bx_1, if_true, hZ, z1r]
      · show Inv (j + 1) Z
        refine h.re (by rw [zg 12 (by decide), hg2 _ (by decide) (by decide)]) ?_ z0 (zK 4 (by decide) (by decide)) (zK 6 (by decide) (by decide)) (by rw [z1]; exact enc_160 Y) ?_ ?_ ?_
        · intro K q i p r; rw [z13, if_neg p]
        · intro _
          rw [z1, zg 0 (by decide), up_at]
          exact ⟨n, t, Q, n1, hwY, rfl, ht, by omega⟩
        · refine ⟨0, 0, by omega, by omega, by rw [z13]; simp [b2_t, b2_f, up_at, up_up, up_id, nI], by rw [z13]; simp [b2_t, b2_f, up_at, up_up, up_id, nI], by rw [z4]; rfl, ?_⟩
          intro i hi; omega
        · refine h.2.2.2.2.2.1.keep ?_
          intro i hi
          refine ⟨by rw [zK 3 (by decide) (by decide)], by rw [z13, if_neg (by omega)], by rw [zg _ (by omega), hg2 _ (by omega) (by omega)], by unfold stRow; rw [zK 2 (by decide) (by decide)]⟩
