/-! UNDO, SAVE, RESTORE -/
theorem Inv.re {J : Nat} {X Z : bsX} (h : Inv J X) (z12 : Z 12 = X 12) (z13 : ∀ K j i, ¬ (K = 0 ∧ j = 0 ∧ (i = 8 ∨ i = 9)) → ¬ (K = 5 ∧ j = 0) → Z 13 K j i = X 13 K j i)
    (z0 : ∀ i, i ≠ 0 → i ≠ 4 → Z 14 0 0 i = X 14 0 0 i) (z4 : Z 14 4 0 = X 14 4 0) (z6 : Z 14 6 0 = X 14 6 0) (z1 : r160 (Z 14 1 0)) (hm : X 14 0 0 1 = 1 → Mach (J + 1) (Z 0) (Z 14 1 0)) (hU : InvU (J + 1) Z) (hS : InvS (J + 1) Z) : Inv (J + 1) Z := by
  obtain ⟨a1, a2, a3, a4, a5, a6, ⟨tl, t1, t2, t3, t4⟩, ⟨f, f1, f2, f3, f4, f5, f6⟩, a9⟩ := h
  refine ⟨by rw [z0 1 (by decide) (by decide)]; exact a1, by rw [z13 _ _ _ (by omega) (by omega), z0 1 (by decide) (by decide)]; exact a2, fun e => hm (by rw [← z0 1 (by decide) (by decide)]; exact e), z1, hU, hS, ⟨tl, t1, by rw [z13 _ _ _ (by omega) (by omega)]; exact t2, by rw [z0 20 (by decide) (by decide)]; exact t3, ?_⟩, ⟨f, f1, by rw [z13 _ _ _ (by omega) (by omega)]; exact f2, by rw [z0 7 (by decide) (by decide)]; exact f3, by rw [z13 _ _ _ (by omega) (by omega), z0 8 (by decide) (by decide)]; exact f4, by rw [z13 _ _ _ (by omega) (by omega), z0 9 (by decide) (by decide)]; exact f5, ?_⟩, by rw [z12]; exact a9⟩
  · intro i hi; rw [z13 _ _ _ (by omega) (by omega), z6]; exact t4 i hi
  · intro i hi; rw [z13 _ _ _ (by omega) (by omega), z4]; exact f6 i hi
theorem InvS.keep {J : Nat} {X Z : bsX} (h : InvS J X) (k : ∀ i, i < 2 → Z 14 3 0 i = X 14 3 0 i ∧ Z 13 5 0 i = X 13 5 0 i ∧ Z (10 + i) = X (10 + i) ∧ stRow Z (8 + i) = stRow X (8 + i)) : InvS (J + 1) Z := by
  intro i hi
  obtain ⟨b1, b2, b3⟩ := h i hi
  obtain ⟨c1, c2, c3, c4⟩ := k i hi
  rw [c1, c2, c3, c4]
  exact ⟨b1, b2, fun e => (b3 e).up⟩
theorem stRow_160 (X : bsX) (k : Nat) : r160 (stRow X k) := by
  intro d hd; unfold stRow; rw [if_neg (by omega)]
/-- both sides take a stored machine back -/
theorem q9_take {W : bsX} {m : Nat} {Y : pY} (hm : m < 11) (h1 : r160 (W 14 1 0)) (hY : stRow W m = enc Y) : fX9_copies 2 1760 1 160 (nI (160 * m)) (nI 0) W = some (ro W (enc Y)) := by
  rw [← hY]
  refine q9_fromSt hm h1 (stRow_160 W m) ?_
  intro d hd
  unfold stRow
  rw [if_pos hd]
theorem sim_undo_ok : sim_undo Inv := by
  intro j X hj h
  have c10 : ¬ (1 : Int32) = 0 := by decide
  have n10 : ¬ (1 : Nat) = 0 := by decide
  obtain ⟨np, ck, u1, u2, u3, u4, u5, u6⟩ := h.2.2.2.2.1
  by_cases hc : ck = 0
  · have x9 : X 13 0 0 9 = 0 := by rw [u4, hc]; rfl
    have x4 : bsWr X 14 0 0 0 (0 : Int32) 14 0 0 4 = 0 := by simp [b2_t, b2_f, up_at, up_up, up_id, bsWr]; rw [u5, hc]; rfl
    refine ⟨(1, 0, X), (0, th X 1), ?_, Or.inr rfl, ?_, th_rd X 1, fun q => absurd (show (1 : Nat) = 0 from q) n10, ((quiet.refl X).thr 1).inv h⟩
    · unfold fX8_undo; rw [x9, if_neg (by decide)]
    · unfold fX9_undo fX9_undo_18
      rw [if_pos x4]
      have : fX9_refuse 1 1 (bsWr X 14 0 0 0 (0 : Int32)) = some (1, th X 1) := by
        have := q9_refuse (X := X) (v := 1) (c := 1) (by decide)
        rw [if_neg c10] at this; exact this
      rw [this]
      simp only [Option.bind_some, c10, if_false]
  · have hm := u6 (ck - 1) (by omega)
    have hix : 2 + (np + 8 - ck + (ck - 1)) % 8 = 2 + (np + 7) % 8 := by omega
    rw [hix] at hm
    obtain ⟨n, t, Q, n1, hw, hR, ht, hQ⟩ := hm
    have ha := sCopy_alike (X (2 + (np + 7) % 8)) (X 0)
    have hw2 := wm_alike hw ha
    have x9 : (0 : Int32) < X 13 0 0 9 := by rw [u4]; exact (pu_lt 0 ck (by omega) (by decide)).mpr (by omega)
    have hv : X 13 0 0 8 + (8 : Int32) - (1 : Int32) - (X 13 0 0 8 + (8 : Int32) - (1 : Int32)) / (8 : Int32) * (8 : Int32) = nI ((np + 7) % 8) := by
      have : X 13 0 0 8 + (8 : Int32) - (1 : Int32) = nI (np + 7) := by
        rw [u3, show (8 : Int32) = nI 8 from rfl, show (1 : Int32) = nI 1 from rfl, pu_add, pu_sub _ _ (by omega)]
        rfl
      rw [this, pu_mod8 _ (by omega)]
    have h9 : bsWr X 13 0 0 8 (nI ((np + 7) % 8)) 13 0 0 9 = nI ck := by simp [b2_t, b2_f, up_at, up_up, up_id, bsWr]; exact u4
    have hs : nI ck - (1 : Int32) = nI (ck - 1) := by rw [show (1 : Int32) = nI 1 from rfl, pu_sub _ _ (by omega)]
    have hcc : bsWr (bsWr X 13 0 0 8 (nI ((np + 7) % 8))) 13 0 0 9 (nI (ck - 1)) = c13 X ((np + 7) % 8) (ck - 1) := rfl
    have r8 : c13 X ((np + 7) % 8) (ck - 1) 13 0 0 8 = nI ((np + 7) % 8) := by simp [b2_t, b2_f, up_at, up_up, up_id, c13, bsWr]
    have hg : ∀ g, g ≠ 13 → c13 X ((np + 7) % 8) (ck - 1) g = X g := by
      intro g e; funext K q i; unfold c13 bsWr; rw [if_neg (by omega), if_neg (by omega)]
    have e8 : ¬ (8 : Int32) ≤ nI ((np + 7) % 8) := fun q => by have := (pu_le 8 ((np + 7) % 8) (by omega) (by decide)).mp q; omega
    have hcp := qX3_copy (g := 0) (g2 := 2 + (np + 7) % 8) (X := c13 X ((np + 7) % 8) (ck - 1)) (Q := Q) (n := n) (t := t) (by omega) (by rw [hg _ (by omega)]; exact hw)
    rw [hg _ (by omega), hg _ (by decide)] at hcp
    have h14 : ∀ Y, up (c13 X ((np + 7) % 8) (ck - 1)) 0 Y 14 = X 14 := by intro Y; rw [up_ne _ _ (by decide), hg _ (by decide)]
    have hg2 : ∀ Y g, g ≠ 0 → g ≠ 13 → up (c13 X ((np + 7) % 8) (ck - 1)) 0 Y g = X g := by intro Y g a b; rw [up_ne _ _ a, hg _ b]
    generalize sCopy (X (2 + (np + 7) % 8)) (X 0) = Y at ha hw2 hcp
    have hRY : stRow X (ck - 1) = enc Y := by rw [hR, enc_alike ha]
    have x4 : bsWr (up (c13 X ((np + 7) % 8) (ck - 1)) 0 Y) 14 0 0 0 (0 : Int32) 14 0 0 4 = nI ck := by simp [b2_t, b2_f, up_at, up_up, up_id, bsWr]; rw [h14]; exact u5
    have hW14 : ∀ K, K ≠ 0 → bsWr (th (up (c13 X ((np + 7) % 8) (ck - 1)) 0 Y) 0) 14 0 0 4 (nI (ck - 1)) 14 K 0 = X 14 K 0 := by
      intro K hK; funext i; unfold bsWr; rw [if_neg (by omega), th_K _ _ hK, h14]
    have htk := q9_take (W := bsWr (th (up (c13 X ((np + 7) % 8) (ck - 1)) 0 Y) 0) 14 0 0 4 (nI (ck - 1))) (m := ck - 1) (Y := Y) (by omega) (by rw [hW14 1 (by decide)]; exact h.2.2.2.1) (by rw [← hRY]; unfold stRow; rw [hW14 2 (by decide)])
    generalize hZ : ro (bsWr (th (up (c13 X ((np + 7) % 8) (ck - 1)) 0 Y) 0) 14 0 0 4 (nI (ck - 1))) (enc Y) = Z at htk
    have zg : ∀ g, g ≠ 14 → Z g = up (c13 X ((np + 7) % 8) (ck - 1)) 0 Y g := by
      intro g e; rw [← hZ]; funext K q i; rw [ro_val, if_neg (by omega)]; unfold bsWr; rw [if_neg (by omega), th_g _ _ e]
    have zK : ∀ K, K ≠ 0 → K ≠ 1 → Z 14 K 0 = X 14 K 0 := by
      intro K a b; rw [← hZ, ← hW14 K a]; funext i; rw [ro_val, if_neg (by omega)]
    have z1 : Z 14 1 0 = enc Y := by rw [← hZ]; funext i; exact ro_rd _ _ _
    have z4 : Z 14 0 0 4 = nI (ck - 1) := by rw [← hZ, ro_val, if_neg (by omega)]; simp [b2_t, b2_f, up_at, up_up, up_id, bsWr]
    have z00 : Z 14 0 0 0 = 0 := by rw [← hZ, ro_val, if_neg (by omega)]; unfold bsWr; rw [if_neg (by omega), th_rd]
    have z0 : ∀ i, i ≠ 0 → i ≠ 4 → Z 14 0 0 i = X 14 0 0 i := by
      intro i a b; rw [← hZ, ro_val, if_neg (by omega)]; unfold bsWr; rw [if_neg (by omega)]; unfold th bsWr; rw [if_neg (by omega), h14]
    have z13 : ∀ K q i, Z 13 K q i = if K = 0 ∧ q = 0 ∧ i = 9 then nI (ck - 1) else if K = 0 ∧ q = 0 ∧ i = 8 then nI ((np + 7) % 8) else X 13 K q i := by
      intro K q i; rw [zg 13 (by decide), up_ne _ _ (by decide)]; unfold c13 bsWr; simp [b2_t, b2_f, up_at, up_up, up_id]
    refine ⟨(0, nI (ck - 1), up (c13 X ((np + 7) % 8) (ck - 1)) 0 Y), (nI (ck - 1), Z), ?_, Or.inl rfl, ?_, z00, fun _ => rfl, ?_⟩
    · unfold fX8_undo
      rw [if_pos x9, hv, h9, hs, hcc, r8, if_neg (pu_neg _ (by omega)), if_neg e8, if_pos ((pu_in _ 8 (by omega)).mpr (by omega)), pu_ix _ (by omega), hcp]
      simp only [Option.bind_some]
      congr 3
    · show fX9_undo (up (c13 X ((np + 7) % 8) (ck - 1)) 0 Y) = _
      have hne : ¬ nI ck = 0 := fun q => hc ((pu_eq ck 0 (by decide) (by omega)).mp q)
      unfold fX9_undo fX9_undo_18
      rw [x4, if_neg hne]
      have hrf : fX9_refuse 0 1 (bsWr (up (c13 X ((np + 7) % 8) (ck - 1)) 0 Y) 14 0 0 0 (0 : Int32)) = some (0, th (up (c13 X ((np + 7) % 8) (ck - 1)) 0 Y) 0) := by
        have := q9_refuse (X := up (c13 X ((np + 7) % 8) (ck - 1)) 0 Y) (v := 0) (c := 1) (by decide)
        rw [if_pos rfl] at this; exact this
      have t4 : th (up (c13 X ((np + 7) % 8) (ck - 1)) 0 Y) 0 14 0 0 4 = nI ck := x4
      have w4 : bsWr (th (up (c13 X ((np + 7) % 8) (ck - 1)) 0 Y) 0) 14 0 0 4 (nI (ck - 1)) 14 0 0 4 = nI (ck - 1) := by simp [b2_t, b2_f, up_at, up_up, up_id, bsWr]
      have hadr : (160 : Int32) * ((0 : Int32) + nI (ck - 1)) = nI (160 * (ck - 1)) := by
        rw [show (0 : Int32) = nI 0 from rfl, show (160 : Int32) = nI 160 from rfl, pu_add, pu_mul, Nat.zero_add]
      rw [hrf]
      simp only [Option.bind_some, if_true, t4, hs, w4, hadr]
      rw [show fX9_copies 2 1760 1 160 (nI (160 * (ck - 1))) (0 : Int32) (bsWr (th (up (c13 X ((np + 7) % 8) (ck - 1)) 0 Y) 0) 14 0 0 4 (nI (ck - 1))) = some Z from htk]
      simp only [Option.bind_some, z4]
    · show Inv (j + 1) Z
      refine h.re (by rw [zg 12 (by decide), hg2 _ _ (by decide) (by decide)]) ?_ z0 (zK 4 (by decide) (by decide)) (zK 6 (by decide) (by decide)) (by rw [z1]; exact enc_160 Y) ?_ ?_ ?_
      · intro K q i a b; rw [z13, if_neg (by omega), if_neg (by omega)]
      · intro _
        rw [z1, zg 0 (by decide), up_at]
        exact ⟨n, t, Q, n1, hw2, rfl, ht, by omega⟩
      · refine ⟨(np + 7) % 8, ck - 1, by omega, by omega, by rw [z13]; simp [b2_t, b2_f, up_at, up_up, up_id], by rw [z13]; simp [b2_t, b2_f, up_at, up_up, up_id], z4, ?_⟩
        intro i hi
        have a1 : ((np + 7) % 8 + 8 - (ck - 1) + i) % 8 = (np + 8 - ck + i) % 8 := by omega
        have a2 : stRow Z i = stRow X i := by unfold stRow; rw [zK 2 (by decide) (by decide)]
        rw [a1, a2, zg _ (by omega), hg2 _ _ (by omega) (by omega)]
        exact (u6 i (by omega)).up
      · refine h.2.2.2.2.2.1.keep ?_
        intro i hi
        refine ⟨by rw [zK 3 (by decide) (by decide)], by rw [z13, if_neg (by omega), if_neg (by omega)], by rw [zg _ (by omega), hg2 _ _ (by omega) (by omega)], by unfold stRow; rw [zK 2 (by decide) (by decide)]⟩
