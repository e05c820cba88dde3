/-! MORE CALLS with a slot -/
theorem ns_ok {W : bsX} {n k : Nat} (h1 : W 14 0 0 1 = 1) (h2 : W 14 1 0 0 = nI n) (hk : k < n) (hn : n ≤ 6) : fX9_noSlot (nI k) W = some (0, th W 0) := by
  have c10 : ¬ (1 : Int32) = 0 := by decide
  have e2 : fX9_notLoaded W = some (0, th W 0) := by rw [q9_notLoaded (Or.inr h1), h1, if_neg c10]
  have hr0 : th W 0 14 1 0 0 = nI n := by rw [th_K _ _ (by decide)]; exact h2
  have hsub : nI n - (1 : Int32) = nI (n - 1) := by rw [show (1 : Int32) = nI 1 from rfl, pu_sub _ _ (by omega)]
  have z64 : (0 : Int64) = (0 : Int32).toInt64 := by decide
  have q : (0 : Int32) ≤ nI k ∧ nI k ≤ nI (n - 1) := ⟨(pu_le 0 k (by omega) (by decide)).mpr (Nat.zero_le _), (pu_le k (n - 1) (by omega) (by omega)).mpr (by omega)⟩
  have hin : fX9_isSlot (nI k) (th W 0) = some (1, th W 0) := by
    unfold fX9_isSlot
    simp only [bi_0, bx_0, if_true, hr0, hsub]
    rw [z64, q9_in, decide_eq_true q]
    simp [b2_t, b2_f, up_at, up_up, up_id]
  unfold fX9_noSlot fX9_noSlot_21
  rw [e2]
  simp only [Option.bind_some, if_true, hin, c10, if_false]
  rw [q9_refuse (by decide)]
  simp [b2_t, b2_f, up_at, up_up, up_id]
theorem sim_goodIn_ok : sim_goodIn Inv := by
  intro j X a hj h
  have n10 : ¬ (1 : Nat) = 0 := by decide
  have n20 : ¬ (2 : Nat) = 0 := by decide
  have c10 : ¬ (1 : Int32) = 0 := by decide
  rcases h.slot a with ⟨e1, e2⟩ | ⟨e1, e2⟩ | ⟨k, n, t, Q, e1, e2, rfl, hkn, hk6, hw, hR, ht, hQ⟩
  · refine ⟨(1, 0, X), (0, th X 1), by unfold fX8_goodIn; rw [e1]; rfl, Or.inr (Or.inl rfl), by unfold fX9_goodIn; rw [e2]; simp only [Option.bind_some, c10, if_false], th_rd X 1, fun q => absurd (show (1 : Nat) = 0 from q) n10, ((quiet.refl X).thr 1).inv h⟩
  · refine ⟨(2, 0, X), (0, th X 2), by unfold fX8_goodIn; rw [e1]; rfl, Or.inr (Or.inr rfl), by unfold fX9_goodIn; rw [e2]; simp only [Option.bind_some, c10, if_false], th_rd X 2, fun q => absurd (show (2 : Nat) = 0 from q) n20, ((quiet.refl X).thr 2).inv h⟩
  · obtain ⟨Y, c1, c2, c3, c4, c5, c6⟩ := Inv.copy (J := j) (by omega) hw ht hQ hR
    obtain ⟨Q', t', k1, _, _, _⟩ := qX3_toGood (g := 1) (j := k) 301 0 bsF Q n t X Y (by omega) (by unfold bsF; omega) (by omega) c2
    generalize hZ : sWhen (fun Z => decide (Z 5 k 4 ≠ 0)) 301 0 Y = p at k1
    have hl : X 14 0 0 1 = 1 := by
      rcases h.req with ⟨e, e1', _⟩ | ⟨e, _⟩
      · exfalso
        unfold fX8_requireSlot at e1
        rw [e1'] at e1
        have := Option.some.inj e1
        exact n10 (congrArg Prod.fst this)
      · exact e
    have hns := ns_ok (W := up X 1 p.2) (n := n) (k := k) (by rw [up_ne _ _ (by decide)]; exact hl) (by rw [up_ne _ _ (by decide), hR]; exact hw.sz) hkn hw.hn
    refine ⟨(0, p.1, up X 1 p.2), (p.1, lk (th (up X 1 p.2) 0) Y), ?_, Or.inl rfl, ?_, lk_th (up X 1 p.2) 0 Y, fun _ => rfl, (quiet_lk c3).inv h⟩
    · unfold fX8_goodIn fX3_ticksToGood
      rw [e1]
      simp only [Option.bind_some, if_true, c1, pu_inT hk6 (by decide), pu_ix6 hk6]
      rw [show (0 : Int32) = nI 0 from rfl, k1]
      rfl
    · obtain ⟨Z, k2⟩ := q9_toGood (X := ar (th (up X 1 p.2) 0) 2 (stK ((th (up X 1 p.2) 0) 14 2 0) (enc Y) 10)) (n := n) hk6 301 0 bsF Q t Y (by omega) (by unfold bsF; omega) (by omega) c2
      unfold fX9_goodIn fX9_goodNow
      rw [hns]
      simp only [Option.bind_some, if_true, lay_lk (wt c3)]
      have k3 : fX9_goodNow_2 bsF (nI k) (0 : Int32) (lk (th (up X 1 p.2) 0) Y) = some (rWhen (fun Z => decide (Z 5 k 4 ≠ 0)) 301 0 Y, ro (ar (th (up X 1 p.2) 0) 2 (stK ((th (up X 1 p.2) 0) 14 2 0) (enc Y) 10)) (enc Z)) := k2
      rw [k3]
      have hf : ∀ A B : pY, sim A B → (fun Z : pY => decide (Z 5 k 4 ≠ 0)) A = (fun Z : pY => decide (Z 5 k 4 ≠ 0)) B := by
        intro A B hs
        dsimp only
        rw [hs 5 k 4 (by omega) (by omega)]
      simp only [Option.bind_some]
      rw [back_lk (enc_160 Z), rWhen_eq hf 301 0 Q t Y (by omega) (by omega) c2, hZ]
      rfl
theorem sim_floorWith_ok : sim_floorWith Inv := by
  intro j X a hj h
  have c10 : ¬ (1 : Int32) = 0 := by decide
  refine tell1 (s := a) h ?_ ?_ ?_
  · intro e he q; unfold fX8_floorWith; rw [q]; simp only [Option.bind_some, he, if_false]
  · intro v q; unfold fX9_floorWith; rw [q]; simp only [Option.bind_some, c10, if_false]
  · intro k n t Q hs e1 e2 hk hk6 hw hth ht hQ
    subst hs
    have hs := hw.sl k hk6
    have hh := q9_has hk6 (X := th X 0) (Y := X 0) (a := sSt (X 0)) (b := X 0 0 0 11) (c := X 0 0 0 12) hs.1
    obtain ⟨L, l1, l2⟩ := q9_least (n := n) (q := k) hw.hn (X := th X 0) (Y := X 0) (a := sSt (X 0)) (b := X 0 0 0 11) (c := X 0 0 0 12) hw.sz hw.s01 (fun q hq => (hw.sl q hq).2.2.2.2.2.2.1) (fun q h1 h2 => ((hw.sl q h2).2.2.2.2.2.2.2.2.2 (hw.hi q h1 h2).1).2.2.1) hk
    have hro : ro (th X 0) (enc (X 0)) = th X 0 := hth.symm
    have e5 : th X 0 14 1 0 5 = X 0 0 0 8 := by rw [hth, ro_rd]; rfl
    have hh2 : fX9_has (nI k) (th X 0) = some (b2 (decide (X 0 6 k 0 ≠ 0)), th X 0) := by
      conv => lhs; rw [hth]
      refine hh.trans ?_
      show some (_, ro (th X 0) (enc (X 0))) = _
      rw [hro]
    have hl2 : fX9_leastGood (nI k) (th X 0) = some (L, th X 0) := by
      conv => lhs; rw [hth]
      refine l1.trans ?_
      show some (_, ro (th X 0) (enc (X 0))) = _
      rw [hro]
    refine ⟨if X 0 6 k 0 = 0 then X 0 0 0 8 else sFloorBy (nI k) (X 0), ?_, ?_⟩
    · unfold fX8_floorWith
      rw [e1]
      simp only [Option.bind_some, if_true, pu_inT hk6 (by decide), pu_ix6 hk6, qX3_floorBy]
      by_cases q : X 0 6 k 0 = 0 <;> simp [b2_t, b2_f, up_at, up_up, up_id, q]
    · unfold fX9_floorWith
      rw [e2]
      simp only [Option.bind_some, if_true, hh2, bi_5, bx_5, e5, hl2, l2]
      by_cases q : X 0 6 k 0 = 0 <;> simp [b2_t, b2_f, up_at, up_up, up_id, q]
theorem sim_mostBoots_ok : sim_mostBoots Inv := by
  intro j X hj h
  have c10 : ¬ (1 : Int32) = 0 := by decide
  refine tell0 h ?_ ?_ ?_
  · intro e; unfold fX8_mostBoots; rw [e]; rfl
  · intro e; unfold fX9_mostBoots; rw [e]; simp only [Option.bind_some, c10, if_false]
  · intro n t Q e1 e2 n1 hw hth ht hQ
    have h6 := hw.hn
    refine ⟨itF (fun k x => if sBoot (X 0) k then x + X 0 5 k 3 else x) 6 0 0, ?_, ?_⟩
    · unfold fX8_mostBoots
      rw [e1]
      simp only [Option.bind_some, if_true]
      refine (pu_loop (N := 6) (fun m k x => fX8_mostBoots_8 m x (nI k) X) (fun k x => if sBoot (X 0) k then x + X 0 5 k 3 else x) (fun x => (0, x, X)) (fun _ _ => True) ?_ ?_ 6 0 bsF 0 rfl (by decide) trivial).1
      · intro m k x hk _
        refine ⟨?_, trivial⟩
        simp only [fX8_mostBoots_8, fX8_mostBoots_48, pu_le6 hk, pu_inT hk (by decide), pu_ix6 hk, pu_succ, if_false, if_true, qX3_boot, Option.bind_some]
        cases sBoot (X 0) k <;> simp [b2_t, b2_f, up_at, up_up, up_id]
      · intro m x _
        simp only [fX8_mostBoots_8, pu_66, if_true]
    · unfold fX9_mostBoots
      rw [e2]
      simp only [Option.bind_some, if_true]
      rw [itF_6 h6 (fun k x h1 h2 => by rw [show sBoot (X 0) k = false from hw.nb h1 h2]; rfl) 0]
      have key := (pu_loop (N := n) (fun m k x => fX9_mostBoots_13 m x (nI k) (ro (th X 0) (enc (X 0)))) (fun k x => if sBoot (X 0) k then x + X 0 5 k 3 else x) (fun x => (x, ro (th X 0) (enc (X 0)))) (fun _ _ => True) ?_ ?_ n 0 bsF 0 (by omega) (by unfold bsF; omega) trivial).1
      · rw [← hth] at key; exact key
      · intro m k x hk _
        have hk6 : k < 6 := by omega
        refine ⟨?_, trivial⟩
        have hc : fX9_canBoot (nI k) (ro (th X 0) (enc (X 0))) = some (b2 (sBoot (X 0) k), ro (th X 0) (enc (X 0))) := q9_canBoot hk6 (hw.sl k hk6)
        have ho : fX9_of (nI k) 2 (ro (th X 0) (enc (X 0))) = some (X 0 5 k 3, ro (th X 0) (enc (X 0))) := q9_of2 hk6 _ _ _ _ _
        have h0 : ro (th X 0) (enc (X 0)) 14 1 0 0 = nI n := by rw [ro_rd]; exact hw.sz
        simp only [fX9_mostBoots_13, fX9_mostBoots_42, bi_0, bx_0, h0, pu_leN hk h6, if_true, if_false, hc, ho, Option.bind_some, pu_succ]
        cases sBoot (X 0) k <;> simp [b2_t, b2_f, up_at, up_up, up_id]
      · intro m x _
        have h0 : ro (th X 0) (enc (X 0)) 14 1 0 0 = nI n := by rw [ro_rd]; exact hw.sz
        simp only [fX9_mostBoots_13, bi_0, bx_0, h0, pu_leNN, if_true]
