/-! THE PARSER: load -/
def vD (D : Nat → Nat → Nat) (k i : Nat) : Int32 := if i = 1 then nI (D k 1) else if i = 2 then nI (D k 2) else if i = 3 then nI (D k 3) else if i = 4 then b2 (decide (D k 4 = 1)) else if i = 5 then b2 (decide (D k 5 = 1)) else 0
def wD (D : Nat → Nat → Nat) (k i : Nat) : Int32 := if D k 0 = 0 then 0 else if D k 0 = 2 then (if i = 2 then nI (D k 6) else if i = 3 then nI (D k 7) else if i = 4 then b2 (decide (D k 8 = 1)) else 0) else (if i = 2 then 1 else if i = 3 then 1 else 0)
def sJ (D : Nat → Nat → Nat) (j : Nat) (Y : pY) : Prop := (D j 0 = 0 → Y 6 j 0 = 0) ∧ (D j 0 ≠ 0 → Y 6 j 0 = 1 ∧ ∀ i, 1 ≤ i → i ≤ 5 → Y 6 j i = vD D j i) ∧ ∀ i, 2 ≤ i → i ≤ 8 → Y 5 j i = wD D j i
theorem sJ.keep {D : Nat → Nat → Nat} {j k : Nat} {Y : pY} (h : sJ D j Y) (hk : j ≠ k) : sJ D j (stY D k Y) := by
  obtain ⟨a, b, c⟩ := h
  refine ⟨fun z => by rw [stY_no (by omega)]; exact a z, fun z => ⟨by rw [stY_no (by omega)]; exact (b z).1, fun i i1 i2 => by rw [stY_no (by omega)]; exact (b z).2 i i1 i2⟩, fun i i1 i2 => by rw [stY_no (by omega)]; exact c i i1 i2⟩
theorem sJ_st {D : Nat → Nat → Nat} {j : Nat} {Y : pY} (h0 : D j 0 ≤ 2) (h6 : Y 6 j 0 = 0) (h5 : ∀ i, 2 ≤ i → i ≤ 8 → Y 5 j i = 0) : sJ D j (stY D j Y) := by
  by_cases c0 : D j 0 = 0
  · have e : stY D j Y = Y := by unfold stY; rw [if_pos c0]
    rw [e]
    refine ⟨fun _ => h6, fun z => absurd c0 z, fun i i1 i2 => ?_⟩
    unfold wD
    rw [if_pos c0]
    exact h5 i i1 i2
  · have i6 : ∀ i, i ≤ 5 → imY D j Y 6 j i = if i = 0 then 1 else vD D j i := by
      intro i hi
      have : i = 0 ∨ i = 1 ∨ i = 2 ∨ i = 3 ∨ i = 4 ∨ i = 5 := by omega
      rcases this with rfl | rfl | rfl | rfl | rfl | rfl <;> simp [imY, sImgL, wr_rd, vD]
    have i5 : ∀ i, 2 ≤ i → i ≤ 8 → imY D j Y 5 j i = if i = 2 then 1 else if i = 3 then 1 else 0 := by
      intro i i1 i2
      have : i = 2 ∨ i = 3 ∨ i = 4 ∨ 5 ≤ i := by omega
      rcases this with rfl | rfl | rfl | z
      · simp [imY, sImgL, wr_rd]
      · simp [imY, sImgL, wr_rd]
      · simp [imY, sImgL, wr_rd]
      · rw [imY_no (by omega), h5 i i1 i2, if_neg (by omega), if_neg (by omega)]
    by_cases c2 : D j 0 = 2
    · have e : stY D j Y = maY D j (imY D j Y) := by unfold stY; rw [if_neg c0, if_pos c2]
      rw [e]
      refine ⟨fun z => absurd z c0, fun _ => ⟨by rw [maY_no (by omega), i6 0 (by omega), if_pos rfl], fun i i1 i2 => by rw [maY_no (by omega), i6 i i2, if_neg (by omega)]⟩, fun i i1 i2 => ?_⟩
      unfold wD
      rw [if_neg c0, if_pos c2]
      have : i = 2 ∨ i = 3 ∨ i = 4 ∨ 5 ≤ i := by omega
      rcases this with rfl | rfl | rfl | z
      · simp [maY, wr_rd]
      · simp [maY, wr_rd]
      · simp [maY, wr_rd]
      · rw [maY_no (by omega), i5 i i1 i2, if_neg (by omega), if_neg (by omega), if_neg (by omega), if_neg (by omega), if_neg (by omega)]
    · have e : stY D j Y = imY D j Y := by unfold stY; rw [if_neg c0, if_neg c2]
      rw [e]
      refine ⟨fun z => absurd z c0, fun _ => ⟨by rw [i6 0 (by omega), if_pos rfl], fun i i1 i2 => by rw [i6 i i2, if_neg (by omega)]⟩, fun i i1 i2 => ?_⟩
      unfold wD
      rw [if_neg c0, if_neg c2]
      exact i5 i i1 i2
theorem fiY_no {D : Nat → Nat → Nat} {K j i : Nat} (h : K ≠ 5) (h2 : K ≠ 6) : ∀ (d k : Nat) (Y : pY), fiY D d k Y K j i = Y K j i := by
  intro d
  induction d with
  | zero => intro k Y; rfl
  | succ d ih => intro k Y; show fiY D d (k + 1) (stY D k Y) K j i = _; rw [ih, stY_no (by omega)]
theorem fiY_J {D : Nat → Nat → Nat} : ∀ (d k : Nat) (Y : pY), (∀ j, j < k → sJ D j Y) → (∀ j, k ≤ j → j < k + d → D j 0 ≤ 2 ∧ Y 6 j 0 = 0 ∧ ∀ i, 2 ≤ i → i ≤ 8 → Y 5 j i = 0) → ∀ j, j < k + d → sJ D j (fiY D d k Y) := by
  intro d
  induction d with
  | zero => intro k Y h _ j hj; exact h j (by omega)
  | succ d ih =>
    intro k Y h hb j hj
    show sJ D j (fiY D d (k + 1) (stY D k Y))
    obtain ⟨b0, b1, b2'⟩ := hb k (Nat.le_refl k) (by omega)
    refine ih (k + 1) (stY D k Y) (fun i hi => ?_) (fun i i1 i2 => ?_) j (by omega)
    · by_cases e : i = k
      · subst e
        exact sJ_st b0 b1 b2'
      · exact (h i (by omega)).keep e
    · obtain ⟨c0, c1, c2⟩ := hb i (by omega) (by omega)
      exact ⟨c0, by rw [stY_no (by omega)]; exact c1, fun z z1 z2 => by rw [stY_no (by omega)]; exact c2 z z1 z2⟩
theorem slM_len (M : List Int32) : ∀ n, (slM n M).length = 5 * n + M.length := by
  intro n
  have w1 : (wrd 1).length = 4 := by decide
  induction n with
  | zero => unfold slM; omega
  | succ n ih =>
    unfold slM
    rw [List.length_cons, List.length_append, ih, w1]
    omega
def lawL (w l f o n : Nat) (D : Nat → Nat → Nat) : List Int32 := wrd 0 ++ (fld w ++ (fld l ++ (fld f ++ (fld o ++ slM n (txM D n 0)))))
theorem parse_t {X : bsX} {w l f o n N : Nat} {D : Nat → Nat → Nat} (ha : alike (X 12) blankY) (hN : N = (lawL w l f o n D).length) (hN6 : N ≤ 600) (hT : ∀ i, i < N → X 13 6 0 i &&& 255 = (lawL w l f o n D).getD i 0)
    (w1 : 1 ≤ w) (w2 : w < 100) (l1 : 1 ≤ l) (l2 : l ≤ 9) (f2 : f ≤ 7) (o2 : o < 100) (n1 : 1 ≤ n) (n6 : n ≤ 6) (hD : ∀ k, k < n → okD D k) :
    ∃ kd q r mk Y, fX4_parse 1 (nI N) X = some (cst (bsWr (bsWr X 13 1 0 3 0) 13 1 0 4 (nI N)) kd q r 0 (-1) mk Y) ∧ MR n Y ∧ Y 0 0 5 = nI w ∧ Y 0 0 6 = nI l ∧ Y 0 0 7 = nI f ∧ Y 0 0 8 = nI o ∧ Y 3 0 4 = 0 ∧ (∀ i, i ≤ 6 → Y 4 0 i = 0) ∧ ∀ k, k < n → sJ D k Y := by
  have w7 : (wrd 0).length = 7 := by decide
  have hNn : 7 + 5 * n ≤ N := by
    rw [hN]
    unfold lawL
    simp only [List.length_append, slM_len, w7]
    omega
  unfold fX4_parse
  rw [cst_789]
  generalize hXb : bsWr (bsWr X 13 1 0 3 0) 13 1 0 4 (nI N) = Xb at *
  have hX : PX Xb N := ⟨by rw [← hXb]; unfold bsWr; rw [if_pos (by omega)], hN6⟩
  have h12 : Xb 12 = X 12 := by rw [← hXb]; funext b c d; unfold bsWr; rw [if_neg (by omega), if_neg (by omega)]
  have h6 : ∀ i, Xb 13 6 0 i = X 13 6 0 i := by intro i; rw [← hXb]; unfold bsWr; rw [if_neg (by omega), if_neg (by omega)]
  have hR : Rest Xb N 0 (lawL w l f o n D) := by
    refine ⟨by omega, fun i hi => ?_⟩
    unfold sn
    rw [if_pos (by omega), h6, hT _ (by omega), Nat.zero_add]
  obtain ⟨mk', m1, m2⟩ := marks_0 (X := Xb) (kd := Xb 13 1 0 5) (ts := Xb 13 1 0 6) (te := 0) (er := 0) (ep := -1) (x := nI N) (Y := Xb 1) 6 0 bsF (fun i => Xb 13 7 0 i) (by omega) (by unfold bsF; omega) (fun j hj => by omega)
  have hcp := copy_blank (X := cst Xb (Xb 13 1 0 5) (Xb 13 1 0 6) 0 0 (-1) mk' (Xb 1)) (by rw [cqg (by decide) (by decide), h12]; exact ha)
  rw [cqg (by decide) (by decide), cqY, cup, h12] at hcp
  have hY : alike (sCopy (X 12) (Xb 1)) blankY := alike_trans (sCopy_alike _ _) ha
  generalize sCopy (X 12) (Xb 1) = Y at hcp hY
  have bl : ∀ K j i, real K j i → ¬ (K = 0 ∧ j = 0 ∧ i = 11) → ¬ (K = 2 ∧ j = 0 ∧ i = 1) → Y K j i = 0 := by
    intro K j i h1 h2 h3
    rw [hY K j i h1]
    unfold blankY
    rw [if_neg (by omega)]
  obtain ⟨kd1, q1, r1, e1, C1⟩ := ln_first (k0 := Xb 13 1 0 5) (ts0 := Xb 13 1 0 6) (ep := -1) (mk := mk') (Y := Y) hX hR (slM_line (txM_line D n 0) n) w1 w2 l1 l2 f2 o2
  have M0 : MR 0 (wr (wr (wr (wr Y 0 0 5 (nI w)) 0 0 6 (nI l)) 0 0 7 (nI f)) 0 0 8 (nI o)) := MR_first hY ⟨w, by omega, by omega, rfl⟩ ⟨l, by omega, by omega, rfl⟩ ⟨f, by omega, by omega, rfl⟩ ⟨o, by omega, by omega, rfl⟩
  have y1 : ∀ K j i, K ≠ 0 → (wr (wr (wr (wr Y 0 0 5 (nI w)) 0 0 6 (nI l)) 0 0 7 (nI f)) 0 0 8 (nI o)) K j i = Y K j i := fun K j i h => by
    rw [wr_y _ _ _ _ _ (by omega), wr_y _ _ _ _ _ (by omega), wr_y _ _ _ _ _ (by omega), wr_y _ _ _ _ _ (by omega)]
  have y0 : (wr (wr (wr (wr Y 0 0 5 (nI w)) 0 0 6 (nI l)) 0 0 7 (nI f)) 0 0 8 (nI o)) 0 0 5 = nI w ∧ (wr (wr (wr (wr Y 0 0 5 (nI w)) 0 0 6 (nI l)) 0 0 7 (nI f)) 0 0 8 (nI o)) 0 0 6 = nI l ∧ (wr (wr (wr (wr Y 0 0 5 (nI w)) 0 0 6 (nI l)) 0 0 7 (nI f)) 0 0 8 (nI o)) 0 0 7 = nI f ∧ (wr (wr (wr (wr Y 0 0 5 (nI w)) 0 0 6 (nI l)) 0 0 7 (nI f)) 0 0 8 (nI o)) 0 0 8 = nI o := by
    refine ⟨?_, ?_, ?_, ?_⟩ <;> simp [wr_rd]
  generalize (wr (wr (wr (wr Y 0 0 5 (nI w)) 0 0 6 (nI l)) 0 0 7 (nI f)) 0 0 8 (nI o)) = Y1 at e1 M0 y1 y0
  have y2 : ∀ K j i, K ≠ 0 → wr Y1 0 0 4 (nI n) K j i = Y K j i := fun K j i h => by rw [wr_y _ _ _ _ _ (by omega)]; exact y1 K j i h
  obtain ⟨kd2, q2, r2, e2, C2, M2⟩ := pl_slots (f := bsF - n) (N := N) (ep := -1) (mk := mk') hX (txM_line D n 0) (by omega) n6 n 0 0 q1 r1 kd1 Y1 (by omega) M0 C1 (by omega)
  obtain ⟨J, kd3, q3, r3, mk3, J1, C3, M3, e3⟩ := pl_all (N := N) (ep := -1) (D := D) hX (by omega) n6 n 0 q2 r2 kd2 mk' (wr Y1 0 0 4 (nI n)) (by omega) M2 (fun j _ hj => ⟨by rw [y2 _ _ _ (by decide)]; exact bl 6 j 0 (Or.inr (Or.inl ⟨rfl, by omega, by omega⟩)) (by omega) (by omega), m1 j (by omega), hD j hj⟩) C2
  have hb : bsF - n = (bsF - n - J) + J := by unfold bsF; omega
  have hb2 : bsF - n - J = (bsF - n - J - 1) + 1 := by unfold bsF; omega
  have hb3 : bsF = (bsF - n) + n := by unfold bsF; omega
  have e4 : fX4_parse_65 1 bsF (nI N) 0 (cst Xb kd1 (nI q1) (nI r1) 0 (-1) mk' Y1) = some (cst Xb kd3 (nI q3) (nI r3) 0 (-1) mk3 (fiY D n 0 (wr Y1 0 0 4 (nI n)))) := by
    have s1 : fX4_parse_65 1 (bsF - n + n) (nI N) (nI 0) (cst Xb kd1 (nI q1) (nI r1) 0 (-1) mk' Y1) = _ := e2
    rw [← hb3] at s1
    refine (show fX4_parse_65 1 bsF (nI N) 0 (cst Xb kd1 (nI q1) (nI r1) 0 (-1) mk' Y1) = _ from s1).trans ?_
    rw [hb, e3 _ _ (by omega), hb2, pl_end C3 (by
      rw [M3.1.sz]
      exact fun z => by have := (pu_eq n 0 (by omega) (by omega)).mp z; omega)]
  have m2' : fX4_parse_27 1 bsF (nI N) 0 (cst Xb (Xb 13 1 0 5) (Xb 13 1 0 6) 0 0 (-1) (fun i => Xb 13 7 0 i) (Xb 1)) = ((fX3_copyFrom 1 12 (cst Xb (Xb 13 1 0 5) (Xb 13 1 0 6) 0 0 (-1) mk' (Xb 1))).bind fun r6 => (fX4_readToken r6).bind fun r8 => (fX4_readFirstLine 1 r8).bind fun r10 => fX4_parse_65 1 bsF (nI N) (0 : Int32) r10) := m2
  have e1' : ((fX4_readToken (cst Xb (Xb 13 1 0 5) (Xb 13 1 0 6) 0 0 (-1) mk' Y)).bind fun r8 => (fX4_readFirstLine 1 r8).bind fun r10 => fX4_parse_65 1 bsF (nI N) (0 : Int32) r10) = fX4_parse_65 1 bsF (nI N) (0 : Int32) (cst Xb kd1 (nI q1) (nI r1) 0 (-1) mk' Y1) := by
    have e5 : ((fX4_readToken (cst Xb (Xb 13 1 0 5) (Xb 13 1 0 6) 0 0 (-1) mk' Y)).bind fun r8 => fX4_readFirstLine 1 r8) = some (cst Xb kd1 (nI q1) (nI r1) 0 (-1) mk' Y1) := e1
    cases hz : fX4_readToken (cst Xb (Xb 13 1 0 5) (Xb 13 1 0 6) 0 0 (-1) mk' Y) with
    | none => rw [hz] at e5; exact absurd e5 (by simp)
    | some z =>
      rw [hz] at e5
      simp only [Option.bind_some] at e5 ⊢
      rw [e5]
      rfl
  have z5 := y0.1
  have z6 := y0.2.1
  have z7 := y0.2.2.1
  have z8 := y0.2.2.2
  refine ⟨kd3, nI q3, nI r3, mk3, fiY D n 0 (wr Y1 0 0 4 (nI n)), ?_, M3, ?_, ?_, ?_, ?_, ?_, ?_, ?_⟩
  · rw [m2', hcp]
    simp only [Option.bind_some]
    rw [e1', e4]
  · rw [fiY_no (by decide) (by decide), wr_y _ _ _ _ _ (by omega)]; exact z5
  · rw [fiY_no (by decide) (by decide), wr_y _ _ _ _ _ (by omega)]; exact z6
  · rw [fiY_no (by decide) (by decide), wr_y _ _ _ _ _ (by omega)]; exact z7
  · rw [fiY_no (by decide) (by decide), wr_y _ _ _ _ _ (by omega)]; exact z8
  · rw [fiY_no (by decide) (by decide), y2 _ _ _ (by decide)]
    exact bl 3 0 4 (by unfold real; omega) (by omega) (by omega)
  · intro i hi
    rw [fiY_no (by decide) (by decide), y2 _ _ _ (by decide)]
    exact bl 4 0 i (by unfold real; omega) (by omega) (by omega)
  · intro k hk
    refine fiY_J n 0 _ (fun j hj => by omega) (fun j _ hj => ⟨(hD j (by omega)).1, ?_, fun i i1 i2 => ?_⟩) k (by omega)
    · rw [y2 _ _ _ (by decide)]
      exact bl 6 j 0 (by unfold real; omega) (by omega) (by omega)
    · rw [y2 _ _ _ (by decide)]
      exact bl 5 j i (by unfold real; omega) (by omega) (by omega)
