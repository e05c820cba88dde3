theorem tx_inv {J : Nat} {X : bsX} {L : List Int32} (h : Inv J X) (hL : L.length ≤ 400) : Inv (J + 1) (txR (th (txC X L) 0) L) := by
  obtain ⟨a1, a2, a3, a4, ⟨np, ck, u1, u2, u3, u4, u5, u6⟩, a6, ⟨tl, t1, t2, t3, t4⟩, ⟨f, f1, f2, f3, f4, f5, f6⟩, a9⟩ := h
  generalize hZ : txR (th (txC X L) 0) L = Z
  have zg : ∀ g, g ≠ 13 → g ≠ 14 → Z g = X g := by
    intro g p q; rw [← hZ, txR_g _ _ q, th_g _ _ q, txC_g _ _ p]
  have z13 : ∀ K j i, ¬ (K = 2 ∧ j = 0 ∧ i = 1) → ¬ (K = 8 ∧ j = 0) → Z 13 K j i = X 13 K j i := by
    intro K j i p q; rw [← hZ, txR_g _ _ (by decide), th_g _ _ (by decide)]; unfold txC; rw [if_neg (by omega), if_neg (by omega)]
  have z0 : ∀ i, i ≠ 0 → i ≠ 20 → Z 14 0 0 i = X 14 0 0 i := by
    intro i p q; rw [← hZ]; unfold txR; rw [if_neg (by omega), if_neg (by omega)]; unfold th bsWr; rw [if_neg (by omega), txC_g _ _ (by decide)]
  have zK : ∀ K, K ≠ 0 → K ≠ 6 → Z 14 K 0 = X 14 K 0 := by
    intro K p q; funext i; rw [← hZ]; unfold txR; rw [if_neg (by omega), if_neg (by omega), th_K _ _ p, txC_g _ _ (by decide)]
  refine ⟨by rw [z0 1 (by decide) (by decide)]; exact a1, by rw [z13 _ _ _ (by omega) (by omega), z0 1 (by decide) (by decide)]; exact a2, ?_, by rw [zK 1 (by decide) (by decide)]; exact a4, ⟨np, ck, u1, u2, by rw [z13 _ _ _ (by omega) (by omega)]; exact u3, by rw [z13 _ _ _ (by omega) (by omega)]; exact u4, by rw [z0 4 (by decide) (by decide)]; exact u5, ?_⟩, ?_, ⟨L.length, hL, ?_, ?_, ?_⟩, ⟨f, f1, by rw [z13 _ _ _ (by omega) (by omega)]; exact f2, by rw [z0 7 (by decide) (by decide)]; exact f3, by rw [z13 _ _ _ (by omega) (by omega), z0 8 (by decide) (by decide)]; exact f4, by rw [z13 _ _ _ (by omega) (by omega), z0 9 (by decide) (by decide)]; exact f5, ?_⟩, by rw [zg 12 (by decide) (by decide)]; exact a9⟩
  · intro e
    rw [z0 1 (by decide) (by decide)] at e
    rw [zg 0 (by decide) (by decide), zK 1 (by decide) (by decide)]
    exact (a3 e).up
  · intro i hi
    have : stRow Z i = stRow X i := by unfold stRow; rw [zK 2 (by decide) (by decide)]
    rw [zg _ (by omega) (by omega), this]
    exact (u6 i hi).up
  · refine InvS.keep a6 ?_
    intro i hi
    refine ⟨by rw [zK 3 (by decide) (by decide)], by rw [z13 _ _ _ (by omega) (by omega)], by rw [zg _ (by omega) (by omega)], by unfold stRow; rw [zK 2 (by decide) (by decide)]⟩
  · rw [← hZ, txR_g _ _ (by decide), th_g _ _ (by decide)]; exact txC_len X L
  · rw [← hZ]; exact txR_len _ L
  · intro i hi
    rw [← hZ, txR_g _ _ (by decide), th_g _ _ (by decide)]
    unfold txC txR
    rw [if_neg (by omega), if_pos ⟨rfl, rfl, rfl, hi⟩, if_neg (by omega), if_pos ⟨rfl, rfl, rfl, hi⟩]
  · intro i hi; rw [z13 _ _ _ (by omega) (by omega), zK 4 (by decide) (by decide)]; exact f6 i hi
/-- a call without arguments that writes the text -/
theorem tellT {f : bsX → Option bsXr} {g gg : bsX → Option (Int32 × bsX)} {J : Nat} {X : bsX} (h : Inv J X)
    (f0 : fX8_requireLoaded X = some (1, 0, X) → f X = some (1, 0, X)) (g0 : fX9_notLoaded X = some (1, th X 1) → g X = some (0, th X 1))
    (g1 : ∀ W : bsX, fX9_notLoaded W = some (0, th W 0) → g W = gg (th W 0))
    (hfg : ∀ (n t Q : Nat), fX8_requireLoaded X = some (0, 0, X) → wm Q n t (X 0) → t ≤ 9999 → Q ≤ 2 * t + J →
      ∃ L : List Int32, L.length ≤ 400 ∧ f X = some (0, nI L.length, txC X L) ∧ ∀ B : bsX, B 14 1 0 = enc (X 0) → gg B = some (nI L.length, txR B L)) :
    ∃ (r : bsXr) (q : Int32 × bsX), f X = some r ∧ (r.1 = 0 ∨ r.1 = 1) ∧ g r.2.2 = some q ∧ q.2 14 0 0 0 = (if r.1 = 1 then (1 : Int32) else (0 : Int32)) ∧ (r.1 = 0 → r.2.1 = q.1) ∧ Inv (J + 1) q.2 := by
  have n10 : ¬ (1 : Nat) = 0 := by decide
  have c10 : ¬ (1 : Int32) = 0 := by decide
  rcases h.req with ⟨e, e1, e2⟩ | ⟨e, e1, e2, n, t, Q, n1, hw, hR, ht, hQ⟩
  · exact ⟨(1, 0, X), (0, th X 1), f0 e1, Or.inr rfl, g0 e2, th_rd X 1, fun q => absurd (show (1 : Nat) = 0 from q) n10, ((quiet.refl X).thr 1).inv h⟩
  · obtain ⟨L, hL, k1, k2⟩ := hfg n t Q e1 hw ht hQ
    have w14 : txC X L 14 = X 14 := txC_g _ _ (by decide)
    have hn : fX9_notLoaded (txC X L) = some (0, th (txC X L) 0) := by rw [q9_notLoaded (Or.inr (by rw [w14]; exact e)), w14, e, if_neg c10]
    have k3 := k2 (th (txC X L) 0) (by rw [th_K _ _ (by decide), w14]; exact hR)
    have k4 := g1 _ hn
    rw [k3] at k4
    have h00 : txR (th (txC X L) 0) L 14 0 0 0 = 0 := by unfold txR; rw [if_neg (by omega), if_neg (by omega)]; exact th_rd _ 0
    exact ⟨(0, nI L.length, txC X L), (nI L.length, txR (th (txC X L) 0) L), k1, Or.inl rfl, k4, h00, fun _ => rfl, tx_inv h hL⟩
theorem sim_textByte_ok : sim_textByte Inv := by
  intro j X a hj h
  have n20 : ¬ (2 : Nat) = 0 := by decide
  have c10 : ¬ (1 : Int32) = 0 := by decide
  have z64 : (0 : Int64) = (0 : Int32).toInt64 := by decide
  have cm : (-1 : Int32) < 0 := by decide
  obtain ⟨tl, t1, t2, t3, t4⟩ := h.2.2.2.2.2.2.1
  have hth : bsWr X 14 0 0 0 (0 : Int32) = th X 0 := rfl
  have t20 : th X 0 14 0 0 20 = nI tl := by unfold th bsWr; rw [if_neg (by omega)]; exact t3
  have hin : ∀ (x : Int32) Z, fX9_in a.toInt64 (0 : Int64) x.toInt64 Z = some (b2 (decide ((0 : Int32) ≤ a ∧ a ≤ x)), Z) := by intro x Z; rw [z64, q9_in]
  have bad : ¬ ((0 : Int32) ≤ a ∧ a ≤ nI tl - 1) → fX8_textByte a X = some (2, 0, X) → ∃ (r : bsXr) (q : Int32 × bsX), fX8_textByte a X = some r ∧ (r.1 = 0 ∨ r.1 = 2) ∧ fX9_textByte a r.2.2 = some q ∧ q.2 14 0 0 0 = (if r.1 = 2 then (1 : Int32) else (0 : Int32)) ∧ (r.1 = 0 → r.2.1 = q.1) ∧ Inv (j + 1) q.2 := by
    intro k1 k2
    refine ⟨(2, 0, X), (0, th X 1), k2, Or.inr rfl, ?_, th_rd X 1, fun q => absurd (show (2 : Nat) = 0 from q) n20, ((quiet.refl X).thr 1).inv h⟩
    show fX9_textByte a X = _
    unfold fX9_textByte fX9_textByte_27
    rw [hth, t20, hin, Option.bind_some, decide_eq_false k1, b2_f, if_pos rfl]
    rw [q9_refuse (by decide), if_neg c10, Option.bind_some, if_neg c10]
  by_cases a0 : a < 0
  · refine bad (fun q => absurd q.1 (pu_nle.mpr a0)) ?_
    unfold fX8_textByte; rw [if_pos a0]
  · obtain ⟨m, hm, rfl⟩ := pu_of (pu_nlt.mp a0)
    by_cases hml : m < tl
    · have hs1 : nI tl - (1 : Int32) = nI (tl - 1) := by rw [show (1 : Int32) = nI 1 from rfl, pu_sub _ _ (by omega)]
      have hg : (0 : Int32) ≤ nI m ∧ nI m ≤ nI tl - 1 := by
        rw [hs1]; exact ⟨(pu_le 0 m (by omega) (by decide)).mpr (Nat.zero_le _), (pu_le m _ (by omega) (by omega)).mpr (by omega)⟩
      refine ⟨(0, X 13 8 0 m, X), (X 13 8 0 m, th X 0), ?_, Or.inl rfl, ?_, th_rd X 0, fun _ => rfl, ((quiet.refl X).thr 0).inv h⟩
      · unfold fX8_textByte
        rw [if_neg a0, t2, if_pos ((pu_lt m tl (by omega) (by omega)).mpr hml), if_pos ((pu_in m 600 (by omega)).mpr (by omega)), pu_ix m (by omega)]
      · show fX9_textByte (nI m) X = _
        unfold fX9_textByte fX9_textByte_27
        rw [hth, t20, hin, Option.bind_some, decide_eq_true hg, b2_t, if_neg c10]
        rw [q9_refuse (by decide), if_pos rfl, Option.bind_some, if_pos rfl, if_pos ((pu_in m 400 (by omega)).mpr (by omega)), pu_ix m (by omega)]
        show some (th X 0 14 6 0 m, th X 0) = _
        rw [th_K _ _ (show (6 : Nat) ≠ 0 by decide), ← t4 m hml]
    · refine bad ?_ ?_
      · intro q
        by_cases k0 : tl = 0
        · rw [k0] at q
          have e0 : nI 0 - (1 : Int32) = -1 := by decide
          rw [e0] at q
          exact a0 (Int32.lt_of_le_of_lt q.2 cm)
        · have hs1 : nI tl - (1 : Int32) = nI (tl - 1) := by rw [show (1 : Int32) = nI 1 from rfl, pu_sub _ _ (by omega)]
          rw [hs1] at q
          have := (pu_le m (tl - 1) (by omega) hm).mp q.2
          omega
      · unfold fX8_textByte
        rw [if_neg a0, t2, if_neg (fun q => hml ((pu_lt m tl (by omega) hm).mp q))]
