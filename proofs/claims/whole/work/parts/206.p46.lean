theorem Inv.reql {J : Nat} {X : bsX} (h : Inv J X) (hl : X 14 0 0 1 = 1) : fX8_requireLoaded X = some (0, 0, X) := by
  rcases h.req with ⟨e, _, _⟩ | ⟨_, e, _, _⟩
  · rw [e] at hl; exact absurd hl (by decide)
  · exact e
theorem q9_numbers {v s c m : Int32} {W : bsX} : fX9_areNumbers v s c m W = some (if (0 ≤ v ∧ v ≤ 99) ∧ (1 ≤ s ∧ s ≤ 99) ∧ (0 ≤ c ∧ c ≤ 99) ∧ (1 ≤ m ∧ m ≤ 99) then 1 else 0, W) := by
  have z64 : (0 : Int64) = (0 : Int32).toInt64 := by decide
  have o64 : (1 : Int64) = (1 : Int32).toInt64 := by decide
  have n64 : (99 : Int64) = (99 : Int32).toInt64 := by decide
  have c10 : ¬ (1 : Int32) = 0 := by decide
  unfold fX9_areNumbers
  rw [z64, o64, n64]
  simp only [q9_in, Option.bind_some]
  by_cases g1 : (0 : Int32) ≤ v ∧ v ≤ 99
  · by_cases g2 : (1 : Int32) ≤ s ∧ s ≤ 99
    · by_cases g3 : (0 : Int32) ≤ c ∧ c ≤ 99
      · by_cases g4 : (1 : Int32) ≤ m ∧ m ≤ 99
        · have hG : (0 ≤ v ∧ v ≤ 99) ∧ (1 ≤ s ∧ s ≤ 99) ∧ (0 ≤ c ∧ c ≤ 99) ∧ (1 ≤ m ∧ m ≤ 99) := ⟨g1, g2, g3, g4⟩
          rw [if_pos hG]
          simp only [decide_eq_true g1, decide_eq_true g2, decide_eq_true g3, decide_eq_true g4, b2_t, c10, if_false]
        · have hG : ¬ ((0 ≤ v ∧ v ≤ 99) ∧ (1 ≤ s ∧ s ≤ 99) ∧ (0 ≤ c ∧ c ≤ 99) ∧ (1 ≤ m ∧ m ≤ 99)) := fun q => g4 q.2.2.2
          rw [if_neg hG]
          simp only [decide_eq_true g1, decide_eq_true g2, decide_eq_true g3, decide_eq_false g4, b2_t, b2_f, c10, if_false, if_true]
      · have hG : ¬ ((0 ≤ v ∧ v ≤ 99) ∧ (1 ≤ s ∧ s ≤ 99) ∧ (0 ≤ c ∧ c ≤ 99) ∧ (1 ≤ m ∧ m ≤ 99)) := fun q => g3 q.2.2.1
        rw [if_neg hG]
        simp only [decide_eq_true g1, decide_eq_true g2, decide_eq_false g3, b2_t, b2_f, c10, if_false, if_true]
    · have hG : ¬ ((0 ≤ v ∧ v ≤ 99) ∧ (1 ≤ s ∧ s ≤ 99) ∧ (0 ≤ c ∧ c ≤ 99) ∧ (1 ≤ m ∧ m ≤ 99)) := fun q => g2 q.2.1
      rw [if_neg hG]
      simp only [decide_eq_true g1, decide_eq_false g2, b2_t, b2_f, c10, if_false, if_true]
  · have hG : ¬ ((0 ≤ v ∧ v ≤ 99) ∧ (1 ≤ s ∧ s ≤ 99) ∧ (0 ≤ c ∧ c ≤ 99) ∧ (1 ≤ m ∧ m ≤ 99)) := fun q => g1 q.1
    rw [if_neg hG]
    simp only [decide_eq_false g1, b2_f, if_true]
theorem q9_begin {W : bsX} {Y : pY} {n k Q t : Nat} {v s c m : Int32} (hl : W 14 0 0 1 = 1) (hR : W 14 1 0 = enc Y) (hw : wm Q n t Y) (hk : k < n) :
    fX9_begin (nI k) v s c m W = fX9_begin_51 (nI k) v s c m (if ((0 ≤ v ∧ v ≤ 99) ∧ (1 ≤ s ∧ s ≤ 99) ∧ (0 ≤ c ∧ c ≤ 99) ∧ (1 ≤ m ∧ m ≤ 99)) ∧ Y 0 0 10 ≠ 0 ∧ Y 0 0 11 ≠ nI k ∧ Y 2 0 1 = -1 then 0 else 1) (th W 0) := by
  have h6 := hw.hn
  have hst := hw.st
  have c10 : ¬ (1 : Int32) = 0 := by decide
  have hns := ns_ok (W := W) hl (by rw [hR]; exact hw.sz) hk h6
  have hio : fX9_isOn (nI k) (th W 0) = some (b2 (decide (sSt Y = 1 ∧ Y 0 0 11 = nI k)), th W 0) := by
    have := q9_isOn (k := k) (X := th W 0) (Y := Y) (a := sSt Y) (b := Y 0 0 11) (c := Y 0 0 12)
    rw [th_ro W 0 hR]; exact this
  have hhi : fX9_hasInstall (th W 0) = some (b2 (decide (Y 2 0 1 ≠ -1)), th W 0) := by
    have := q9_hasI (X := th W 0) (Y := Y) (a := sSt Y) (b := Y 0 0 11) (c := Y 0 0 12)
    rw [th_ro W 0 hR]; exact this
  have r6 : th W 0 14 1 0 6 = sSt Y := by rw [th_K _ _ (by decide), hR]; rfl
  have hru : (sSt Y = 1 ∧ Y 0 0 11 = nI k) ↔ Y 0 0 11 = nI k := by
    constructor
    · exact fun q => q.2
    · intro q
      refine ⟨?_, q⟩
      have hk1 : ¬ nI k = -1 := pu_m1 k (by omega)
      rcases hw.run with e | ⟨r, _, _, e3, _⟩
      · exact absurd (q.symm.trans e) hk1
      · unfold sSt; rw [e3, q, if_neg c10, if_neg hk1]
  unfold fX9_begin fX9_begin_46
  rw [hns]
  simp only [Option.bind_some, if_true, q9_numbers, hio, hhi, bi_6, bx_6, r6]
  by_cases gN : (0 ≤ v ∧ v ≤ 99) ∧ (1 ≤ s ∧ s ≤ 99) ∧ (0 ≤ c ∧ c ≤ 99) ∧ (1 ≤ m ∧ m ≤ 99)
  · rw [if_pos gN, if_neg c10]
    by_cases gR : Y 0 0 11 = nI k
    · have hG : ¬ (((0 ≤ v ∧ v ≤ 99) ∧ (1 ≤ s ∧ s ≤ 99) ∧ (0 ≤ c ∧ c ≤ 99) ∧ (1 ≤ m ∧ m ≤ 99)) ∧ Y 0 0 10 ≠ 0 ∧ Y 0 0 11 ≠ nI k ∧ Y 2 0 1 = -1) := fun q => q.2.2.1 gR
      rw [if_neg hG, decide_eq_true (hru.mpr gR)]
      simp only [b2_t, c10, if_false]
    · rw [decide_eq_false (fun q => gR (hru.mp q))]
      simp only [b2_f, if_true]
      by_cases gI : Y 2 0 1 = -1
      · rw [decide_eq_false (fun q => q gI)]
        simp only [b2_f, if_true]
        by_cases gO : Y 0 0 10 = 0
        · have hG : ¬ (((0 ≤ v ∧ v ≤ 99) ∧ (1 ≤ s ∧ s ≤ 99) ∧ (0 ≤ c ∧ c ≤ 99) ∧ (1 ≤ m ∧ m ≤ 99)) ∧ Y 0 0 10 ≠ 0 ∧ Y 0 0 11 ≠ nI k ∧ Y 2 0 1 = -1) := fun q => q.2.1 gO
          rw [if_neg hG, if_pos (hst.2.2.mpr gO)]
        · have hG : (((0 ≤ v ∧ v ≤ 99) ∧ (1 ≤ s ∧ s ≤ 99) ∧ (0 ≤ c ∧ c ≤ 99) ∧ (1 ≤ m ∧ m ≤ 99)) ∧ Y 0 0 10 ≠ 0 ∧ Y 0 0 11 ≠ nI k ∧ Y 2 0 1 = -1) := ⟨gN, gO, gR, gI⟩
          rw [if_pos hG, if_neg (fun q => gO (hst.2.2.mp q))]
      · have hG : ¬ (((0 ≤ v ∧ v ≤ 99) ∧ (1 ≤ s ∧ s ≤ 99) ∧ (0 ≤ c ∧ c ≤ 99) ∧ (1 ≤ m ∧ m ≤ 99)) ∧ Y 0 0 10 ≠ 0 ∧ Y 0 0 11 ≠ nI k ∧ Y 2 0 1 = -1) := fun q => gI q.2.2.2
        rw [if_neg hG, decide_eq_true (show Y 2 0 1 ≠ -1 from gI)]
        simp only [b2_t, c10, if_false]
  · have hG : ¬ (((0 ≤ v ∧ v ≤ 99) ∧ (1 ≤ s ∧ s ≤ 99) ∧ (0 ≤ c ∧ c ≤ 99) ∧ (1 ≤ m ∧ m ≤ 99)) ∧ Y 0 0 10 ≠ 0 ∧ Y 0 0 11 ≠ nI k ∧ Y 2 0 1 = -1) := fun q => gN q.1
    rw [if_neg hG, if_neg gN]
    simp only [if_true]
theorem sim_begin_ok : sim_begin Inv := by
  intro j X a v s c m hj h
  have c10 : ¬ (1 : Int32) = 0 := by decide
  have n10 : ¬ (1 : Nat) = 0 := by decide
  have n20 : ¬ (2 : Nat) = 0 := by decide
  have n30 : ¬ (3 : Nat) = 0 := by decide
  rcases h.slot a with ⟨e1, e2⟩ | ⟨e1, e2⟩ | ⟨k, n, t, Q, e1, e2, rfl, hkn, hk6, hw, hR, ht, hQ⟩
  · refine ⟨(1, 0, X), (0, th X 1), by unfold fX8_begin; rw [e1]; rfl, Or.inr (Or.inl rfl), by unfold fX9_begin; rw [e2]; simp only [Option.bind_some, c10, if_false], th_rd X 1, fun q => absurd (show (1 : Nat) = 0 from q) n10, ((quiet.refl X).thr 1).inv h⟩
  · refine ⟨(2, 0, X), (0, th X 2), by unfold fX8_begin; rw [e1]; rfl, Or.inr (Or.inr (Or.inl rfl)), by unfold fX9_begin; rw [e2]; simp only [Option.bind_some, c10, if_false], th_rd X 2, fun q => absurd (show (2 : Nat) = 0 from q) n20, ((quiet.refl X).thr 2).inv h⟩
  · have hl := h.one e1
    have h6 := hw.hn
    have hro : fX8_requireOn X = some (if X 0 0 0 10 = 0 then (3, 0, X) else (0, 0, X)) := by
      unfold fX8_requireOn
      rw [h.reql hl]
      simp only [Option.bind_some, if_true]
      by_cases e : X 0 0 0 10 = 0
      · rw [if_pos e, if_pos e]
      · rw [if_neg e, if_neg e]
    have hin : fX2_isOn 0 X = some (if X 0 2 0 1 = -1 then 0 else 1, X) := by
      unfold fX2_isOn
      rcases hw.ins with e | ⟨z, hz, e, _⟩
      · rw [e]; rfl
      · rw [e, if_neg (pu_neg z (by omega)), if_neg (pu_m1 z (by omega))]
    by_cases G : ((0 ≤ v ∧ v ≤ 99) ∧ (1 ≤ s ∧ s ≤ 99) ∧ (0 ≤ c ∧ c ≤ 99) ∧ (1 ≤ m ∧ m ≤ 99)) ∧ X 0 0 0 10 ≠ 0 ∧ X 0 0 0 11 ≠ nI k ∧ X 0 2 0 1 = -1
    · obtain ⟨np, ck, Yk, k0, k1, k2, k3, k4, k5, k6, k7, k8⟩ := h.rem hl (by omega) hw hR ht hQ
      have hb := q9_begin (W := chC X np ck Yk (sBeg k v s c m (X 0))) (Y := X 0) (v := v) (s := s) (c := c) (m := m) (by rw [k0]; exact hl) (by rw [k0]; exact hR) hw hkn
      rw [if_pos G] at hb
      obtain ⟨⟨g1, g2, g3, g4⟩, gO, gR, gI⟩ := G
      have hrf : fX9_refuse 0 3 (th (chC X np ck Yk (sBeg k v s c m (X 0))) 0) = some (0, th (chC X np ck Yk (sBeg k v s c m (X 0))) 0) := by rw [q9_refuse (by decide)]; rfl
      have hw2 := wm_beg (v := v) (s := s) (c := c) (m := m) hw hkn gO gR (pu_rng (b := 99) (by decide) g1) ((by
        obtain ⟨z, z1, rfl⟩ := pu_of (Int32.le_trans (by decide : (0 : Int32) ≤ 1) g2.1)
        exact ⟨z, by omega, (pu_le z 99 (by decide) z1).mp g2.2, rfl⟩) : rng s 0 99) (pu_rng (b := 99) (by decide) g3) (by
        obtain ⟨z, z1, rfl⟩ := pu_of (Int32.le_trans (by decide : (0 : Int32) ≤ 1) g4.1)
        exact ⟨z, (pu_le 1 z z1 (by decide)).mp g4.1, (pu_le z 99 (by decide) z1).mp g4.2, rfl⟩)
      refine ⟨(0, sBeg k v s c m (X 0) 0 0 9 + m, chC X np ck Yk (sBeg k v s c m (X 0))), (sBeg k v s c m (X 0) 0 0 9 + m, chZ X np ck Yk (sBeg k v s c m (X 0))), ?_, Or.inl rfl, ?_, k7 (sBeg k v s c m (X 0)), fun _ => rfl, k8 _ n t Q (by omega) hw2 ht (by omega)⟩
      · unfold fX8_begin; rw [e1]
        simp only [Option.bind_some, if_true, rw_within]
        rw [if_pos g1]
        simp only [Option.bind_some, if_true]
        rw [if_pos g2]
        simp only [Option.bind_some, if_true]
        rw [if_pos g3]
        simp only [Option.bind_some, if_true]
        rw [if_pos g4]
        simp only [Option.bind_some, if_true, hro, gO, if_false, hin, gI, k1, pu_inT hk6 (by decide), pu_ix6 hk6]
        rw [if_neg (fun q => gR q.symm)]
        refine qX_beg.trans ?_
        rw [k2, k3]
      · rw [hb]
        have rz : chZ X np ck Yk (sBeg k v s c m (X 0)) 14 1 0 1 = sBeg k v s c m (X 0) 0 0 9 := by rw [chZ_1]; rfl
        unfold fX9_begin_51
        have hem : fX9_empties (nI k) (ro (chB X np ck Yk (sBeg k v s c m (X 0))) (enc (X 0))) = some (ro (chB X np ck Yk (sBeg k v s c m (X 0))) (row (sEmp k (X 0)) (sSt (X 0)) (X 0 0 0 11) (X 0 0 0 12))) := q9_empties hk6
        rw [hrf]
        simp only [Option.bind_some, if_true, k6, hem, bi_20, bi_21, bi_22, bi_23, bi_24, bi_25, bi_26, bi_27, bi_1, bx_20, bx_21, bx_22, bx_23, bx_24, bx_25, bx_26, bx_27, bx_1, rw_beg hk6, rw_rd1, enc_beg, chB_ro, rz]
    · have hb := q9_begin (W := X) (Y := X 0) (v := v) (s := s) (c := c) (m := m) hl hR hw hkn
      rw [if_neg G] at hb
      refine ⟨(3, 0, X), (0, th X 3), ?_, Or.inr (Or.inr (Or.inr rfl)), ?_, th_rd X 3, fun q => absurd (show (3 : Nat) = 0 from q) n30, ((quiet.refl X).thr 3).inv h⟩
      · unfold fX8_begin; rw [e1]
        simp only [Option.bind_some, if_true, rw_within]
        by_cases g1 : (0 : Int32) ≤ v ∧ v ≤ 99
        · rw [if_pos g1]
          simp only [Option.bind_some, if_true]
          by_cases g2 : (1 : Int32) ≤ s ∧ s ≤ 99
          · rw [if_pos g2]
            simp only [Option.bind_some, if_true]
            by_cases g3 : (0 : Int32) ≤ c ∧ c ≤ 99
            · rw [if_pos g3]
              simp only [Option.bind_some, if_true]
              by_cases g4 : (1 : Int32) ≤ m ∧ m ≤ 99
              · rw [if_pos g4]
                simp only [Option.bind_some, if_true, hro]
                by_cases gO : X 0 0 0 10 = 0
                · rw [if_pos gO]; rfl
                · rw [if_neg gO]
                  simp only [if_true]
                  by_cases gR : X 0 0 0 11 = nI k
                  · rw [if_pos gR.symm]
                  · rw [if_neg (fun q => gR q.symm), hin]
                    by_cases gI : X 0 2 0 1 = -1
                    · exact absurd ⟨⟨g1, g2, g3, g4⟩, gO, gR, gI⟩ G
                    · rw [if_neg gI]
                      simp only [Option.bind_some, c10, if_false]
              · rw [if_neg g4]; rfl
            · rw [if_neg g3]; rfl
          · rw [if_neg g2]; rfl
        · rw [if_neg g1]; rfl
      · rw [hb]
        unfold fX9_begin_51
        rw [q9_refuse (by decide), if_neg c10]
        simp only [Option.bind_some, c10, if_false]
