theorem sim_spoil_ok : sim_spoil Inv := by
  intro j X a v hj h
  have c10 : ¬ (1 : Int32) = 0 := by decide
  have n10 : ¬ (1 : Nat) = 0 := by decide
  have n20 : ¬ (2 : Nat) = 0 := by decide
  have n30 : ¬ (3 : Nat) = 0 := by decide
  have z64 : (0 : Int64) = (0 : Int32).toInt64 := by decide
  have t64 : (2 : Int64) = (2 : Int32).toInt64 := by decide
  rcases h.slot a with ⟨e1, e2⟩ | ⟨e1, e2⟩ | ⟨k, n, t, Q, e1, e2, rfl, hkn, hk6, hw, hR, ht, hQ⟩
  · refine ⟨(1, 0, X), (0, th X 1), by unfold fX8_spoil; rw [e1]; rfl, Or.inr (Or.inl rfl), ?_, th_rd X 1, fun q => absurd (show (1 : Nat) = 0 from q) n10, ((quiet.refl X).thr 1).inv h⟩
    have hb : ∀ y, fX9_spoil_23 a v y X = some (0, th X 1) := by intro y; unfold fX9_spoil_23; rw [e2]; simp only [Option.bind_some, c10, if_false]
    unfold fX9_spoil fX9_spoil_22
    simp only [hb, bi_20, if_true, ite_self]
  · refine ⟨(2, 0, X), (0, th X 2), by unfold fX8_spoil; rw [e1]; rfl, Or.inr (Or.inr (Or.inl rfl)), ?_, th_rd X 2, fun q => absurd (show (2 : Nat) = 0 from q) n20, ((quiet.refl X).thr 2).inv h⟩
    have hb : ∀ y, fX9_spoil_23 a v y X = some (0, th X 2) := by intro y; unfold fX9_spoil_23; rw [e2]; simp only [Option.bind_some, c10, if_false]
    unfold fX9_spoil fX9_spoil_22
    simp only [hb, bi_20, if_true, ite_self]
  · have hl := h.one e1
    have h6 := hw.hn
    have hs := hw.sl k hk6
    have hi : ∀ Z, fX9_in v.toInt64 (0 : Int64) (2 : Int64) Z = some (b2 (decide ((0 : Int32) ≤ v ∧ v ≤ 2)), Z) := by intro Z; rw [z64, t64, q9_in]
    have sp : ∀ W : bsX, W 14 0 0 1 = 1 → W 14 1 0 = enc (X 0) → fX9_spoil (nI k) v W = fX9_spoil_23 (nI k) v (if X 0 2 0 1 = nI k then 1 else 0) W := by
      intro W w1 w2
      have r20 : W 14 1 0 20 = X 0 2 0 1 := by rw [w2]; rfl
      unfold fX9_spoil fX9_spoil_22
      rw [w1, if_neg c10]
      simp only [bi_20, bx_20, if_true, r20]
      by_cases e : X 0 2 0 1 = nI k
      · rw [if_pos e, if_pos e]
      · rw [if_neg e, if_neg e]
    have sq : ∀ (W : bsX) (y : Int32), W 14 0 0 1 = 1 → W 14 1 0 = enc (X 0) → fX9_spoil_23 (nI k) v y W = fX9_spoil_62 (nI k) v y (if ((0 : Int32) ≤ v ∧ v ≤ 2) ∧ (X 0 6 k 0 ≠ 0 ∨ y ≠ 0) then 0 else 1) (th W 0) := by
      intro W y w1 w2
      have hns := ns_ok (W := W) w1 (by rw [w2]; exact hw.sz) hkn h6
      have hh : fX9_has (nI k) (ro (th W 0) (enc (X 0))) = some (b2 (decide (X 0 6 k 0 ≠ 0)), ro (th W 0) (enc (X 0))) := q9_has hk6 hs.1
      rw [← th_ro W 0 w2] at hh
      unfold fX9_spoil_23 fX9_spoil_57 fX9_spoil_61
      rw [hns]
      simp only [Option.bind_some, if_true, hi, hh]
      by_cases g1 : (0 : Int32) ≤ v ∧ v ≤ 2
      · by_cases g2 : X 0 6 k 0 = 0
        · by_cases g3 : y = 0
          · have hG : ¬ (((0 : Int32) ≤ v ∧ v ≤ 2) ∧ (X 0 6 k 0 ≠ 0 ∨ y ≠ 0)) := fun q => q.2.elim (fun z => z g2) (fun z => z g3)
            rw [if_neg hG]
            simp only [decide_eq_true g1, b2_t, c10, if_false, g2, g3, ne_eq, not_true, decide_false, b2_f, if_true]
          · have hG : (((0 : Int32) ≤ v ∧ v ≤ 2) ∧ (X 0 6 k 0 ≠ 0 ∨ y ≠ 0)) := ⟨g1, Or.inr g3⟩
            rw [if_pos hG]
            simp only [decide_eq_true g1, b2_t, c10, if_false, g2, g3, ne_eq, not_true, decide_false, b2_f, if_true]
        · have hG : (((0 : Int32) ≤ v ∧ v ≤ 2) ∧ (X 0 6 k 0 ≠ 0 ∨ y ≠ 0)) := ⟨g1, Or.inl g2⟩
          rw [if_pos hG]
          simp only [decide_eq_true g1, b2_t, c10, if_false, g2, ne_eq, not_false_eq_true, decide_true]
      · have hG : ¬ (((0 : Int32) ≤ v ∧ v ≤ 2) ∧ (X 0 6 k 0 ≠ 0 ∨ y ≠ 0)) := fun q => g1 q.1
        rw [if_neg hG]
        simp only [decide_eq_false g1, b2_f, if_true]
    have bad : fX8_spoil (nI k) v X = some (3, 0, X) → fX9_spoil (nI k) v X = some (0, th X 3) → ∃ (x : bsXr) (q : Int32 × bsX), fX8_spoil (nI k) v X = some x ∧ (x.1 = 0 ∨ x.1 = 1 ∨ x.1 = 2 ∨ x.1 = 3) ∧ fX9_spoil (nI k) v x.2.2 = some q ∧ q.2 14 0 0 0 = (if x.1 = 1 then (1 : Int32) else (if x.1 = 2 then (2 : Int32) else (if x.1 = 3 then (3 : Int32) else (0 : Int32)))) ∧ (x.1 = 0 → x.2.1 = q.1) ∧ Inv (j + 1) q.2 :=
      fun c d => ⟨(3, 0, X), (0, th X 3), c, Or.inr (Or.inr (Or.inr rfl)), d, th_rd X 3, fun q => absurd (show (3 : Nat) = 0 from q) n30, ((quiet.refl X).thr 3).inv h⟩
    have r62 : ∀ (y : Int32) (W : bsX), fX9_spoil_62 (nI k) v y 1 (th W 0) = some (0, th W 3) := by
      intro y W
      unfold fX9_spoil_62
      rw [q9_refuse (by decide), if_neg c10]
      simp only [Option.bind_some, c10, if_false]
    by_cases g1 : (0 : Int32) ≤ v ∧ v ≤ 2
    · -- the image that is spoilt
      have good : ∀ (u : Nat) (y : Int32), (if X 0 2 0 1 = nI k then (1 : Int32) else 0) = y → X 0 6 u 0 ≠ 0 → (X 0 6 k 0 ≠ 0 ∨ y ≠ 0) → wm Q n t (sSpo u v (X 0)) → is01 (X 0 6 u 4) → is01 (X 0 6 u 5) →
          (fX8_spoil_30 (nI k) v y X = fX8_spoil_60 v u X) →
          (∀ B : bsX, (if y = 0 then (fX9_spoil_94 v (((80 : Int32) + ((13 : Int32) * nI k)) + (11 : Int32)) (ro B (enc (X 0)))) else (fX9_spoil_94 v (25 : Int32) (ro B (enc (X 0))))) = some (sSpoA u v (X 0), ro B (enc (sSpo u v (X 0))))) →
          ∃ (x : bsXr) (q : Int32 × bsX), fX8_spoil (nI k) v X = some x ∧ (x.1 = 0 ∨ x.1 = 1 ∨ x.1 = 2 ∨ x.1 = 3) ∧ fX9_spoil (nI k) v x.2.2 = some q ∧ q.2 14 0 0 0 = (if x.1 = 1 then (1 : Int32) else (if x.1 = 2 then (2 : Int32) else (if x.1 = 3 then (3 : Int32) else (0 : Int32)))) ∧ (x.1 = 0 → x.2.1 = q.1) ∧ Inv (j + 1) q.2 := by
        intro u y hy hu hor hw2 i4 i5 hc hr
        obtain ⟨np, ck, Yk, k0, k1, k2, k3, k4, k5, k6, k7, k8⟩ := h.rem hl (by omega) hw hR ht hQ
        have hG : (((0 : Int32) ≤ v ∧ v ≤ 2) ∧ (X 0 6 k 0 ≠ 0 ∨ y ≠ 0)) := ⟨g1, hor⟩
        have hrf : fX9_refuse 0 3 (th (chC X np ck Yk (sSpo u v (X 0))) 0) = some (0, th (chC X np ck Yk (sSpo u v (X 0))) 0) := by rw [q9_refuse (by decide)]; rfl
        refine ⟨(0, sSpoA u v (X 0), chC X np ck Yk (sSpo u v (X 0))), (sSpoA u v (X 0), chZ X np ck Yk (sSpo u v (X 0))), ?_, Or.inl rfl, ?_, k7 (sSpo u v (X 0)), fun _ => rfl, k8 _ n t Q (by omega) hw2 ht (by omega)⟩
        · have hq := qX8_spo (u := u) (h := v) (R := c13 (up X (2 + np) Yk) ((np + 1) % 8) (min (ck + 1) 8)) (by rw [k2]; exact i4) (by rw [k2]; exact i5)
          have hc2 : (if nI k = X 0 2 0 1 then fX8_spoil_30 (nI k) v (1 : Int32) X else fX8_spoil_30 (nI k) v (0 : Int32) X) = fX8_spoil_60 v u X := by
            rw [← hc, ← hy]
            by_cases e : X 0 2 0 1 = nI k
            · rw [if_pos e, if_pos e.symm]
            · rw [if_neg e, if_neg (fun q => e q.symm)]
          unfold fX8_spoil; rw [e1]
          simp only [Option.bind_some, if_true, rw_within]
          rw [if_pos g1]
          simp only [Option.bind_some, if_true]
          rw [hc2]
          unfold fX8_spoil_60
          rw [if_neg hu, k1]
          simp only [Option.bind_some]
          rw [hq, k2, k3]
        · show fX9_spoil (nI k) v (chC X np ck Yk (sSpo u v (X 0))) = _
          rw [sp _ (by rw [k0]; exact hl) (by rw [k0]; exact hR), sq _ _ (by rw [k0]; exact hl) (by rw [k0]; exact hR), hy, if_pos hG]
          unfold fX9_spoil_62
          rw [hrf]
          simp only [Option.bind_some, if_true, k6]
          rw [hr]
          rfl
      by_cases gT : X 0 2 0 1 = nI k
      · rcases hw.ins with e | ⟨z, z1, z2, z3, z4, z5, z6, z7, z8, z9, z10, z11, z12, z13⟩
        · exact absurd (gT.symm.trans e) (pu_m1 k (by omega))
        · have hne : X 0 2 0 1 ≠ -1 := by rw [gT]; exact pu_m1 k (by omega)
          refine good 6 1 (if_pos gT) (by rw [z5]; exact c10) (Or.inr c10) (wm_spo6 hw) z6 z7 ?_ ?_
          · unfold fX8_spoil_30; rw [if_neg c10]
          · intro B; rw [if_neg c10]; exact q9_spoI hne
      · by_cases gP : X 0 6 k 0 = 0
        · refine bad ?_ ?_
          · unfold fX8_spoil; rw [e1]
            simp only [Option.bind_some, if_true, rw_within]
            rw [if_pos g1]
            simp only [Option.bind_some, if_true]
            rw [if_neg (fun q => gT q.symm)]
            unfold fX8_spoil_30 fX8_spoil_60
            simp only [if_true, pu_inT hk6 (by decide), pu_ix6 hk6, gP]
          · have hG : ¬ (((0 : Int32) ≤ v ∧ v ≤ 2) ∧ (X 0 6 k 0 ≠ 0 ∨ (0 : Int32) ≠ 0)) := fun q => q.2.elim (fun z => z gP) (fun z => z rfl)
            rw [sp X hl hR, if_neg gT, sq X 0 hl hR, if_neg hG, r62]
        · refine good k 0 (if_neg gT) gP (Or.inl gP) (wm_spo hw hkn gP) hs.2.1 hs.2.2.1 ?_ ?_
          · unfold fX8_spoil_30; simp only [if_true, pu_inT hk6 (by decide), pu_ix6 hk6]
          · intro B; rw [if_pos rfl]; exact q9_spoS hk6
    · refine bad ?_ ?_
      · unfold fX8_spoil; rw [e1]
        simp only [Option.bind_some, if_true, rw_within]
        rw [if_neg g1]
        rfl
      · have hG : ∀ y : Int32, ¬ (((0 : Int32) ≤ v ∧ v ≤ 2) ∧ (X 0 6 k 0 ≠ 0 ∨ y ≠ 0)) := fun y q => g1 q.1
        rw [sp X hl hR, sq X _ hl hR, if_neg (hG _), r62]
