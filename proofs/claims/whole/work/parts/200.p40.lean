/-! A CHANGE: both sides keep the machine, then change it -/
def chC (X : bsX) (np ck : Nat) (Yk Y' : pY) : bsX := up (c13 (up X (2 + np) Yk) ((np + 1) % 8) (min (ck + 1) 8)) 0 Y'
def chZ (X : bsX) (np ck : Nat) (Yk Y' : pY) : bsX := ro (bsWr (ar (th (chC X np ck Yk Y') 0) 2 (kpS (X 14 2 0) (X 14 1 0) ck)) 14 0 0 4 (nI (min (ck + 1) 8))) (enc Y')
theorem chC_14 {X : bsX} {np ck : Nat} {Yk Y' : pY} (h : np < 8) : chC X np ck Yk Y' 14 = X 14 := by
  unfold chC
  rw [up_ne _ _ (by decide)]
  funext K j i
  unfold c13 bsWr
  rw [if_neg (by omega), if_neg (by omega), up_ne _ _ (by omega)]
theorem chC_g {X : bsX} {np ck g : Nat} {Yk Y' : pY} (h0 : g ≠ 0) (h1 : g ≠ 2 + np) (h2 : g ≠ 13) : chC X np ck Yk Y' g = X g := by
  unfold chC
  rw [up_ne _ _ h0]
  funext K j i
  unfold c13 bsWr
  rw [if_neg (by omega), if_neg (by omega), up_ne _ _ h1]
theorem chC_k {X : bsX} {np ck : Nat} {Yk Y' : pY} (h : np < 8) : chC X np ck Yk Y' (2 + np) = Yk := by
  unfold chC
  rw [up_ne _ _ (by omega)]
  funext K j i
  unfold c13 bsWr
  rw [if_neg (by omega), if_neg (by omega), up_at]
theorem chC_13 {X : bsX} {np ck : Nat} {Yk Y' : pY} (h : np < 8) (K j i : Nat) : chC X np ck Yk Y' 13 K j i = if K = 0 ∧ j = 0 ∧ i = 9 then nI (min (ck + 1) 8) else if K = 0 ∧ j = 0 ∧ i = 8 then nI ((np + 1) % 8) else X 13 K j i := by
  unfold chC
  rw [up_ne _ _ (by decide)]
  unfold c13 bsWr
  rw [up_ne _ _ (by omega)]
  simp [b2_t, b2_f, up_at, up_up, up_id]
theorem chZ_g {X : bsX} {np ck g : Nat} {Yk Y' : pY} (h : g ≠ 14) : chZ X np ck Yk Y' g = chC X np ck Yk Y' g := by
  funext K j i
  unfold chZ
  rw [ro_val, if_neg (by omega)]
  unfold bsWr
  rw [if_neg (by omega), ar_val, if_neg (by omega), th_g _ _ h]
theorem chZ_1 {X : bsX} {np ck : Nat} {Yk Y' : pY} : chZ X np ck Yk Y' 14 1 0 = enc Y' := by
  funext i; unfold chZ; exact ro_rd _ _ _
theorem chZ_2 {X : bsX} {np ck : Nat} {Yk Y' : pY} : chZ X np ck Yk Y' 14 2 0 = kpS (X 14 2 0) (X 14 1 0) ck := by
  funext i; unfold chZ
  rw [ro_val, if_neg (by omega)]
  unfold bsWr
  rw [if_neg (by omega), ar_rd]
theorem chZ_K {X : bsX} {np ck K : Nat} {Yk Y' : pY} (h : np < 8) (h0 : K ≠ 0) (h1 : K ≠ 1) (h2 : K ≠ 2) : chZ X np ck Yk Y' 14 K 0 = X 14 K 0 := by
  funext i; unfold chZ
  rw [ro_val, if_neg (by omega)]
  unfold bsWr
  rw [if_neg (by omega), ar_val, if_neg (by omega), th_K _ _ h0, chC_14 h]
theorem chZ_0 {X : bsX} {np ck i : Nat} {Yk Y' : pY} (h : np < 8) : chZ X np ck Yk Y' 14 0 0 i = if i = 4 then nI (min (ck + 1) 8) else if i = 0 then 0 else X 14 0 0 i := by
  unfold chZ
  rw [ro_val, if_neg (by omega)]
  unfold bsWr
  by_cases e : i = 4
  · subst e; simp [b2_t, b2_f, up_at, up_up, up_id]
  · rw [if_neg (by omega), if_neg e, ar_val, if_neg (by omega)]
    unfold th bsWr
    by_cases e2 : i = 0
    · subst e2; simp [b2_t, b2_f, up_at, up_up, up_id]
    · rw [if_neg (by omega), if_neg e2, chC_14 h]
/-- the invariant behind a change -/
theorem chg_inv {J n t Q np ck : Nat} {X : bsX} {Yk Y' : pY} (h : Inv J X) (h1 : np < 8) (h2 : ck ≤ 8) (hold : ∀ i, i < ck → Mach J (X (2 + (np + 8 - ck + i) % 8)) (stRow X i)) (hm : Mach J Yk (X 14 1 0))
    (hl : X 14 0 0 1 = 1) (n1 : 1 ≤ n) (hw : wm Q n t Y') (ht : t ≤ 9999) (hQ : Q ≤ 2 * t + (J + 1)) : Inv (J + 1) (chZ X np ck Yk Y') := by
  obtain ⟨a1, a2, a3, a4, a5, a6, ⟨tl, t1, t2, t3, t4⟩, ⟨f, f1, f2, f3, f4, f5, f6⟩, a9⟩ := h
  have g13 : ∀ K j i, ¬ (K = 0 ∧ j = 0 ∧ (i = 8 ∨ i = 9)) → chZ X np ck Yk Y' 13 K j i = X 13 K j i := by
    intro K j i hn
    rw [chZ_g (by decide), chC_13 h1, if_neg (by omega), if_neg (by omega)]
  have z0 : ∀ i, i ≠ 0 → i ≠ 4 → chZ X np ck Yk Y' 14 0 0 i = X 14 0 0 i := by
    intro i e1 e2; rw [chZ_0 h1, if_neg e2, if_neg e1]
  refine ⟨by rw [z0 1 (by decide) (by decide)]; exact a1, by rw [g13 _ _ _ (by omega), z0 1 (by decide) (by decide)]; exact a2, ?_, by rw [chZ_1]; exact enc_160 Y', ?_, ?_, ⟨tl, t1, by rw [g13 _ _ _ (by omega)]; exact t2, by rw [z0 20 (by decide) (by decide)]; exact t3, ?_⟩, ⟨f, f1, by rw [g13 _ _ _ (by omega)]; exact f2, by rw [z0 7 (by decide) (by decide)]; exact f3, by rw [g13 _ _ _ (by omega), z0 8 (by decide) (by decide)]; exact f4, by rw [g13 _ _ _ (by omega), z0 9 (by decide) (by decide)]; exact f5, ?_⟩, by rw [chZ_g (by decide), chC_g (by decide) (by omega) (by decide)]; exact a9⟩
  · intro _
    rw [chZ_1, chZ_g (by decide)]
    have : chC X np ck Yk Y' 0 = Y' := by unfold chC; exact up_at _ _ _
    rw [this]
    exact ⟨n, t, Q, n1, hw, rfl, ht, hQ⟩
  · refine keep_U h1 h2 hold hm a4 ?_ ?_ ?_ chZ_2 ?_ ?_
    · rw [chZ_g (by decide), chC_13 h1]; simp [b2_t, b2_f, up_at, up_up, up_id]
    · rw [chZ_g (by decide), chC_13 h1]; simp [b2_t, b2_f, up_at, up_up, up_id]
    · rw [chZ_0 h1]; simp [b2_t, b2_f, up_at, up_up, up_id]
    · rw [chZ_g (by omega), chC_k h1]
    · intro g g1 g2 g3
      rw [chZ_g (by omega), chC_g (by omega) g3 (by omega)]
  · intro i hi
    obtain ⟨b1, b2', b3⟩ := a6 i hi
    rw [chZ_K h1 (by decide) (by decide) (by decide), g13 _ _ _ (by omega), chZ_g (by omega), chC_g (by omega) (by omega) (by omega)]
    refine ⟨b1, b2', fun e => ?_⟩
    rw [stRow_R, chZ_2, kpS_saved h2 (by omega), ← stRow_R]
    exact (b3 e).up
  · intro i hi; rw [g13 _ _ _ (by omega), chZ_K h1 (by decide) (by decide) (by decide)]; exact t4 i hi
  · intro i hi; rw [g13 _ _ _ (by omega), chZ_K h1 (by decide) (by decide) (by decide)]; exact f6 i hi
