def sCut (Y : pY) : pY := sStop (wr (wr (wr Y 0 0 10 0) 0 0 11 (-1)) 0 0 12 0)
theorem sCut_N (Y : pY) : sCut Y 0 0 10 = 0 ∧ sCut Y 0 0 11 = -1 ∧ sCut Y 0 0 12 = 0 := by
  unfold sCut
  rw [sStop_rd (by decide) (by decide), sStop_rd (by decide) (by decide), sStop_rd (by decide) (by decide)]
  simp [b2_t, b2_f, up_at, up_up, up_id, wr_rd]
theorem sCut_eq (Y : pY) : sCut Y = wr (wr (wr (sStop Y) 0 0 10 0) 0 0 11 (-1)) 0 0 12 0 := by
  funext K j i
  unfold sCut sStop sImg
  simp only [wr_rd]
  by_cases k0 : K = 0
  · subst k0; simp [b2_t, b2_f, up_at, up_up, up_id]
  · simp [b2_t, b2_f, up_at, up_up, up_id, k0]
theorem qX3_off (g : Nat) (X : bsX) : fX3_switchOff g X = some (up X g (sCut (X g))) := by
  unfold fX3_switchOff sCut
  rw [qX2_stop]
  simp [b2_t, b2_f, up_at, up_up, up_id, up_wr]
theorem enc_cut (Y : pY) : row (sStop Y) 0 (-1) 0 = enc (sCut Y) := by
  obtain ⟨h1, h2, h3⟩ := sCut_N Y
  have hs : sSt (sCut Y) = 0 := by unfold sSt; rw [h1, if_pos rfl]
  unfold enc
  rw [hs, h2, h3, sCut_eq, row_N (by decide), row_N (by decide), row_N (by decide)]
theorem wm_cut {Q n t : Nat} {Y : pY} (h : wm Q n t Y) : wm Q n t (sCut Y) := by
  obtain ⟨h1, h2, h3⟩ := sCut_N Y
  have e0 : ∀ K i, K ≠ 0 → K ≠ 2 → K ≠ 6 → sCut Y K 0 i = Y K 0 i := by
    intro K i a b c
    unfold sCut
    rw [sStop_rd b (Or.inl c), wr_rd, if_neg (by omega), wr_rd, if_neg (by omega), wr_rd, if_neg (by omega)]
  have e00 : ∀ i, i < 10 → sCut Y 0 0 i = Y 0 0 i := by
    intro i a
    unfold sCut
    rw [sStop_rd (by decide) (by decide), wr_rd, if_neg (by omega), wr_rd, if_neg (by omega), wr_rd, if_neg (by omega)]
  have e5 : ∀ k i, sCut Y 5 k i = Y 5 k i := by
    intro k i
    unfold sCut
    rw [sStop_rd (by decide) (Or.inl (by decide)), wr_rd, if_neg (by omega), wr_rd, if_neg (by omega), wr_rd, if_neg (by omega)]
  have e6 : ∀ k i, k < 6 → sCut Y 6 k i = Y 6 k i := by
    intro k i hk
    unfold sCut
    rw [sStop_rd (by decide) (Or.inr (by omega)), wr_rd, if_neg (by omega), wr_rd, if_neg (by omega), wr_rd, if_neg (by omega)]
  have hp : is01 (sCut Y 6 6 0) ∧ is01 (sCut Y 6 6 4) ∧ is01 (sCut Y 6 6 5) := sStop_pim
  have hi : sCut Y 2 0 1 = -1 := sStop_ins
  refine ⟨h.hn, by rw [e00 4 (by decide)]; exact h.sz, ?_, ?_, by rw [h1]; exact Or.inl rfl, Or.inl h2, by rw [e00 5 (by decide)]; exact h.wat, by rw [e00 6 (by decide)]; exact h.lim, by rw [e00 7 (by decide)]; exact h.ret, by rw [e00 8 (by decide)]; exact h.flo, by rw [e00 9 (by decide)]; exact h.tim, by rw [h3]; exact rng.z t, by rw [e0 3 4 (by decide) (by decide) (by decide)]; exact h.tot, hp, Or.inl hi, ?_⟩
  · intro k hk
    have := h.sl k hk
    unfold wS at this ⊢
    simp only [e5, e6 k _ hk]
    exact this
  · intro k a hk
    simp only [e5, e6 k _ hk]
    exact h.hi k a hk
  · intro i hi
    rw [e0 7 i (by decide) (by decide) (by decide), e0 8 i (by decide) (by decide) (by decide), e0 10 i (by decide) (by decide) (by decide)]
    exact h.log i hi
theorem sim_cut_ok : sim_cut Inv := by
  intro j X hj h
  have c10 : ¬ (1 : Int32) = 0 := by decide
  have n10 : ¬ (1 : Nat) = 0 := by decide
  have n30 : ¬ (3 : Nat) = 0 := by decide
  rcases h.req with ⟨e, e1, e2⟩ | ⟨e, e1, e2, n, t, Q, n1, hw, hR, ht, hQ⟩
  · exact ⟨(1, 0, X), (0, th X 1), by unfold fX8_cut fX8_requireOn; rw [e1]; rfl, Or.inr (Or.inl rfl), by unfold fX9_cut; rw [e2]; simp only [Option.bind_some, c10, if_false], th_rd X 1, fun q => absurd (show (1 : Nat) = 0 from q) n10, ((quiet.refl X).thr 1).inv h⟩
  · have hst := hw.st
    by_cases hon : X 0 0 0 10 = 0
    · have r6 : th X 0 14 1 0 6 = 0 := by rw [th_K _ _ (by decide), hR]; exact hst.2.2.mpr hon
      refine ⟨(3, 0, X), (0, th X 2), ?_, Or.inr (Or.inr rfl), ?_, th_rd X 2, fun q => absurd (show (3 : Nat) = 0 from q) n30, ((quiet.refl X).thr 2).inv h⟩
      · unfold fX8_cut fX8_requireOn; rw [e1]; simp only [Option.bind_some, if_true, hon, n30, if_false]
      · unfold fX9_cut fX9_cut_23; rw [e2]
        simp only [Option.bind_some, if_true, bi_6, bx_6, r6]
        rw [q9_refuse (by decide), if_neg c10]
        simp only [Option.bind_some, c10, if_false]
    · obtain ⟨np, ck, Yk, k0, k1, k2, k3, k4, k5, k6, k7, k8⟩ := h.rem e n1 hw hR ht hQ
      have hb := qX3_off 0 (c13 (up X (2 + np) Yk) ((np + 1) % 8) (min (ck + 1) 8))
      rw [k2, k3] at hb
      have hw2 := wm_cut hw
      have s0 : ¬ sSt (X 0) = 0 := fun q => hon (hst.2.2.mp q)
      have r6 : ¬ th (chC X np ck Yk (sCut (X 0))) 0 14 1 0 6 = 0 := by rw [k5]; exact s0
      have hrf : fX9_refuse 0 2 (th (chC X np ck Yk (sCut (X 0))) 0) = some (0, th (chC X np ck Yk (sCut (X 0))) 0) := by rw [q9_refuse (by decide)]; rfl
      have r20 : ro (chB X np ck Yk (sCut (X 0))) (enc (X 0)) 14 1 0 20 = X 0 2 0 1 := by rw [ro_rd]; rfl
      have hni : fX9_noInstall (ro (chB X np ck Yk (sCut (X 0))) (enc (X 0))) = some (ro (chB X np ck Yk (sCut (X 0))) (row (sStop (X 0)) (sSt (X 0)) (X 0 0 0 11) (X 0 0 0 12))) := q9_noInst
      refine ⟨(0, X 0 2 0 1, chC X np ck Yk (sCut (X 0))), (X 0 2 0 1, chZ X np ck Yk (sCut (X 0))), ?_, Or.inl rfl, ?_, k7 (sCut (X 0)), fun _ => rfl, k8 _ n t Q n1 hw2 ht (by omega)⟩
      · unfold fX8_cut fX8_requireOn; rw [e1]
        simp only [Option.bind_some, if_true, hon, if_false, k1, hb, k2]
      · unfold fX9_cut fX9_cut_23; rw [k4]
        simp only [Option.bind_some, if_true, bi_6, bx_6, r6, if_false, hrf, k6, bi_20, bx_20, r20, hni, bi_7, bx_7, bi_8, bx_8, rw_wr6, rw_wr7, rw_wr8, enc_cut, chB_ro]
