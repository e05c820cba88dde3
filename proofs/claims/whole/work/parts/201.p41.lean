def chB (X : bsX) (np ck : Nat) (Yk Y' : pY) : bsX := bsWr (ar (th (chC X np ck Yk Y') 0) 2 (kpS (X 14 2 0) (X 14 1 0) ck)) 14 0 0 4 (nI (min (ck + 1) 8))
theorem chB_ro (X : bsX) (np ck : Nat) (Yk Y' : pY) : ro (chB X np ck Yk Y') (enc Y') = chZ X np ck Yk Y' := rfl
theorem chB_1 {X : bsX} {np ck : Nat} {Yk Y' : pY} (h : np < 8) : chB X np ck Yk Y' 14 1 0 = X 14 1 0 := by
  funext i; unfold chB bsWr
  rw [if_neg (by omega), ar_ne _ _ _ (by decide), th_K _ _ (by decide), chC_14 h]
/-- what both sides do before a change -/
theorem Inv.rem {J n t Q : Nat} {X : bsX} (h : Inv J X) (hl : X 14 0 0 1 = 1) (n1 : 1 ≤ n) (hw : wm Q n t (X 0)) (hR : X 14 1 0 = enc (X 0)) (ht : t ≤ 9999) (hQ : Q ≤ 2 * t + J) :
    ∃ np ck Yk, (∀ Y', chC X np ck Yk Y' 14 = X 14) ∧ fX8_remember X = some (c13 (up X (2 + np) Yk) ((np + 1) % 8) (min (ck + 1) 8)) ∧ (c13 (up X (2 + np) Yk) ((np + 1) % 8) (min (ck + 1) 8)) 0 = X 0 ∧
      (∀ Y', up (c13 (up X (2 + np) Yk) ((np + 1) % 8) (min (ck + 1) 8)) 0 Y' = chC X np ck Yk Y') ∧
      (∀ Y', fX9_notLoaded (chC X np ck Yk Y') = some (0, th (chC X np ck Yk Y') 0)) ∧
      (∀ Y', th (chC X np ck Yk Y') 0 14 1 0 = enc (X 0)) ∧
      (∀ Y', fX9_keepsAll (th (chC X np ck Yk Y') 0) = some (ro (chB X np ck Yk Y') (enc (X 0)))) ∧
      (∀ Y', chZ X np ck Yk Y' 14 0 0 0 = 0) ∧
      (∀ Y' n t Q, 1 ≤ n → wm Q n t Y' → t ≤ 9999 → Q ≤ 2 * t + (J + 1) → Inv (J + 1) (chZ X np ck Yk Y')) := by
  obtain ⟨np, ck, u1, u2, u3, u4, u5, u6⟩ := h.2.2.2.2.1
  have ha := sCopy_alike (X 0) (X (2 + np))
  have hk := wm_alike hw ha
  have hm : Mach J (sCopy (X 0) (X (2 + np))) (X 14 1 0) := ⟨n, t, Q, n1, hk, by rw [hR, enc_alike ha], ht, hQ⟩
  refine ⟨np, ck, sCopy (X 0) (X (2 + np)), fun Y' => chC_14 u1, qX8_remember u1 u2 u3 u4 hw, ?_, fun Y' => rfl, ?_, ?_, ?_, ?_, ?_⟩
  · funext K j i
    unfold c13 bsWr
    rw [if_neg (by omega), if_neg (by omega), up_ne _ _ (by omega)]
  · intro Y'
    have e : chC X np ck (sCopy (X 0) (X (2 + np))) Y' 14 0 0 1 = 1 := by rw [chC_14 u1]; exact hl
    rw [q9_notLoaded (Or.inr e), e, if_neg (by decide)]
  · intro Y'; rw [th_K _ _ (by decide), chC_14 u1]; exact hR
  · intro Y'
    have e4 : th (chC X np ck (sCopy (X 0) (X (2 + np))) Y') 0 14 0 0 4 = nI ck := by
      unfold th bsWr; rw [if_neg (by omega), chC_14 u1]; exact u5
    have e2 : th (chC X np ck (sCopy (X 0) (X (2 + np))) Y') 0 14 2 0 = X 14 2 0 := by rw [th_K _ _ (by decide), chC_14 u1]
    have e1 : th (chC X np ck (sCopy (X 0) (X (2 + np))) Y') 0 14 1 0 = X 14 1 0 := by rw [th_K _ _ (by decide), chC_14 u1]
    rw [q9_keepsAll u2 e4, e2, e1]
    have hB := chB_1 (X := X) (ck := ck) (Yk := sCopy (X 0) (X (2 + np))) (Y' := Y') u1
    rw [hR] at hB
    show some (chB X np ck (sCopy (X 0) (X (2 + np))) Y') = _
    rw [← hB, ro_id]
  · intro Y'; rw [chZ_0 u1]; simp [b2_t, b2_f, up_at, up_up, up_id]
  · intro Y' n' t' Q' k1 k2 k3 k4
    exact chg_inv h u1 u2 u6 hm hl k1 k2 k3 k4
theorem sim_power_ok : sim_power Inv := by
  intro j X hj h
  have c10 : ¬ (1 : Int32) = 0 := by decide
  have n10 : ¬ (1 : Nat) = 0 := by decide
  have n30 : ¬ (3 : Nat) = 0 := by decide
  rcases h.req with ⟨e, e1, e2⟩ | ⟨e, e1, e2, n, t, Q, n1, hw, hR, ht, hQ⟩
  · exact ⟨(1, 0, X), (0, th X 1), by unfold fX8_power; rw [e1]; rfl, Or.inr (Or.inl rfl), by unfold fX9_power; rw [e2]; simp only [Option.bind_some, c10, if_false], th_rd X 1, fun q => absurd (show (1 : Nat) = 0 from q) n10, ((quiet.refl X).thr 1).inv h⟩
  · have hst := hw.st
    by_cases hon : X 0 0 0 10 = 0
    · obtain ⟨np, ck, Yk, k0, k1, k2, k3, k4, k5, k6, k7, k8⟩ := h.rem e n1 hw hR ht hQ
      have hb := qX3_bootBy (g := 0) (c := 0) (X := c13 (up X (2 + np) Yk) ((np + 1) % 8) (min (ck + 1) 8)) (Q := Q) (n := n) (t := t) (by omega) (by rw [k2]; exact wm_boot0 hw)
      rw [k2, k3] at hb
      have hw2 := wm_boots (c := 0) (wm_boot0 hw) ⟨0, by omega, by omega, rfl⟩ (by omega)
      have s0 : sSt (X 0) = 0 := hst.2.2.mpr hon
      have r6 : th (chC X np ck Yk (sBoots 0 (X 0)).2) 0 14 1 0 6 = 0 := by rw [k5]; exact s0
      have hrf : fX9_refuse 0 2 (th (chC X np ck Yk (sBoots 0 (X 0)).2) 0) = some (0, th (chC X np ck Yk (sBoots 0 (X 0)).2) 0) := by rw [q9_refuse (by decide)]; rfl
      have hb2 := q9_boots (cs := 0) (X := chB X np ck Yk (sBoots 0 (X 0)).2) (Q := Q) (n := n) (t := t) (a := sSt (X 0)) (b := X 0 0 0 11) (c := X 0 0 0 12) (by omega) (wm_boot0 hw)
      have hb3 : fX9_boots 0 (ro (chB X np ck Yk (sBoots 0 (X 0)).2) (enc (X 0))) = some ((sBoots 0 (X 0)).1, chZ X np ck Yk (sBoots 0 (X 0)).2) := hb2
      have c0 : chC X np ck Yk (sBoots 0 (X 0)).2 0 = (sBoots 0 (X 0)).2 := by unfold chC; exact up_at _ _ _
      have r7 : chZ X np ck Yk (sBoots 0 (X 0)).2 14 1 0 7 = (sBoots 0 (X 0)).2 0 0 11 := by rw [chZ_1, enc_7]
      refine ⟨(0, (sBoots 0 (X 0)).2 0 0 11, chC X np ck Yk (sBoots 0 (X 0)).2), ((sBoots 0 (X 0)).2 0 0 11, chZ X np ck Yk (sBoots 0 (X 0)).2), ?_, Or.inl rfl, ?_, k7 (sBoots 0 (X 0)).2, fun _ => rfl, k8 _ n t (Q + 1) n1 hw2 ht (by omega)⟩
      · unfold fX8_power; rw [e1]
        simp only [Option.bind_some, if_true, hon, k1, hb, c0]
      · unfold fX9_power fX9_power_23; rw [k4]
        simp only [Option.bind_some, if_true, bi_6, bx_6, r6, hrf, k6, hb3, bi_7, bx_7, r7]
    · have r6 : ¬ th X 0 14 1 0 6 = 0 := by rw [th_K _ _ (by decide), hR]; exact fun q => hon (hst.2.2.mp q)
      refine ⟨(3, 0, X), (0, th X 2), ?_, Or.inr (Or.inr rfl), ?_, th_rd X 2, fun q => absurd (show (3 : Nat) = 0 from q) n30, ((quiet.refl X).thr 2).inv h⟩
      · unfold fX8_power; rw [e1]; simp only [Option.bind_some, if_true, hon, if_false]
      · unfold fX9_power fX9_power_23; rw [e2]
        simp only [Option.bind_some, if_true, bi_6, bx_6, r6, if_false]
        rw [q9_refuse (by decide), if_neg c10]
        simp only [Option.bind_some, c10, if_false]
theorem sim_reboot_ok : sim_reboot Inv := by
  intro j X hj h
  have c10 : ¬ (1 : Int32) = 0 := by decide
  have n10 : ¬ (1 : Nat) = 0 := by decide
  have n30 : ¬ (3 : Nat) = 0 := by decide
  rcases h.req with ⟨e, e1, e2⟩ | ⟨e, e1, e2, n, t, Q, n1, hw, hR, ht, hQ⟩
  · exact ⟨(1, 0, X), (0, th X 1), by unfold fX8_reboot fX8_requireOn; rw [e1]; rfl, Or.inr (Or.inl rfl), by unfold fX9_reboot; rw [e2]; simp only [Option.bind_some, c10, if_false], th_rd X 1, fun q => absurd (show (1 : Nat) = 0 from q) n10, ((quiet.refl X).thr 1).inv h⟩
  · have hst := hw.st
    by_cases hon : ¬ X 0 0 0 10 = 0
    · obtain ⟨np, ck, Yk, k0, k1, k2, k3, k4, k5, k6, k7, k8⟩ := h.rem e n1 hw hR ht hQ
      have hb := qX3_bootBy (g := 0) (c := 1) (X := c13 (up X (2 + np) Yk) ((np + 1) % 8) (min (ck + 1) 8)) (Q := Q) (n := n) (t := t) (by omega) (by rw [k2]; exact wm_boot0 hw)
      rw [k2, k3] at hb
      have hw2 := wm_boots (c := 1) (wm_boot0 hw) ⟨1, by omega, by omega, rfl⟩ (by omega)
      have s0 : ¬ sSt (X 0) = 0 := fun q => hon (hst.2.2.mp q)
      have r6 : ¬ th (chC X np ck Yk (sBoots 1 (X 0)).2) 0 14 1 0 6 = 0 := by rw [k5]; exact s0
      have hrf : fX9_refuse 0 2 (th (chC X np ck Yk (sBoots 1 (X 0)).2) 0) = some (0, th (chC X np ck Yk (sBoots 1 (X 0)).2) 0) := by rw [q9_refuse (by decide)]; rfl
      have hb2 := q9_boots (cs := 1) (X := chB X np ck Yk (sBoots 1 (X 0)).2) (Q := Q) (n := n) (t := t) (a := sSt (X 0)) (b := X 0 0 0 11) (c := X 0 0 0 12) (by omega) (wm_boot0 hw)
      have hb3 : fX9_boots 1 (ro (chB X np ck Yk (sBoots 1 (X 0)).2) (enc (X 0))) = some ((sBoots 1 (X 0)).1, chZ X np ck Yk (sBoots 1 (X 0)).2) := hb2
      have c0 : chC X np ck Yk (sBoots 1 (X 0)).2 0 = (sBoots 1 (X 0)).2 := by unfold chC; exact up_at _ _ _
      have r7 : chZ X np ck Yk (sBoots 1 (X 0)).2 14 1 0 7 = (sBoots 1 (X 0)).2 0 0 11 := by rw [chZ_1, enc_7]
      refine ⟨(0, (sBoots 1 (X 0)).2 0 0 11, chC X np ck Yk (sBoots 1 (X 0)).2), ((sBoots 1 (X 0)).2 0 0 11, chZ X np ck Yk (sBoots 1 (X 0)).2), ?_, Or.inl rfl, ?_, k7 (sBoots 1 (X 0)).2, fun _ => rfl, k8 _ n t (Q + 1) n1 hw2 ht (by omega)⟩
      · unfold fX8_reboot fX8_requireOn; rw [e1]
        simp only [Option.bind_some, if_true, hon, if_false, k1, hb, c0]
      · unfold fX9_reboot fX9_reboot_23; rw [k4]
        simp only [Option.bind_some, if_true, bi_6, bx_6, r6, if_false, hrf, k6, hb3, bi_7, bx_7, r7]
    · have hon2 : X 0 0 0 10 = 0 := Decidable.not_not.mp hon
      have r6 : th X 0 14 1 0 6 = 0 := by rw [th_K _ _ (by decide), hR]; exact hst.2.2.mpr hon2
      refine ⟨(3, 0, X), (0, th X 2), ?_, Or.inr (Or.inr rfl), ?_, th_rd X 2, fun q => absurd (show (3 : Nat) = 0 from q) n30, ((quiet.refl X).thr 2).inv h⟩
      · unfold fX8_reboot fX8_requireOn; rw [e1]; simp only [Option.bind_some, if_true, hon2, n30, if_false]
      · unfold fX9_reboot fX9_reboot_23; rw [e2]
        simp only [Option.bind_some, if_true, bi_6, bx_6, r6]
        rw [q9_refuse (by decide), if_neg c10]
        simp only [Option.bind_some, c10, if_false]
