theorem quiet.trans {X Y Z : bsX} (h : quiet X Y) (g : quiet Y Z) : quiet X Z :=
  ⟨fun a b c => (g.1 a b c).trans (h.1 a b c), fun i a => (g.2.1 i a).trans (h.2.1 i a), fun K a b => (g.2.2.1 K a b).trans (h.2.2.1 K a b), fun i a => (g.2.2.2 i a).trans (h.2.2.2 i a)⟩
theorem quiet_lk1 {W : bsX} {Y : pY} (hR : W 14 1 0 = enc Y) : quiet W (lk W Y) := ((quiet.refl W).lay (enc Y)).row hR.symm
theorem lk_00 (W : bsX) (Y : pY) : lk W Y 14 0 0 0 = W 14 0 0 0 := by
  unfold lk; rw [ro_val, if_neg (by omega), ar_val, if_neg (by omega)]
theorem lk_1 (W : bsX) (Y : pY) : lk W Y 14 1 0 = enc Y := by funext i; exact lk_row W Y i
theorem sWhen_r (f : pY → Bool) : ∀ (d k : Nat) (Y : pY), (sWhen f d k Y).1 = -1 ∨ ∃ m, m < k + d ∧ (sWhen f d k Y).1 = nI m := by
  intro d
  induction d with
  | zero => intro k Y; exact Or.inl rfl
  | succ d ih =>
    intro k Y
    unfold sWhen
    by_cases h1 : f Y = true
    · rw [if_pos h1]; exact Or.inr ⟨k, by omega, rfl⟩
    · rw [if_neg h1]
      by_cases h2 : sSet Y = true
      · rw [if_pos h2]; exact Or.inl rfl
      · rw [if_neg h2]
        rcases ih (k + 1) (sTick Y) with e | ⟨m, m1, m2⟩
        · exact Or.inl e
        · exact Or.inr ⟨m, by omega, m2⟩
theorem boot_try {Q n t : Nat} {Y : pY} (h0 : wm Q n t (sBoot0 Y)) (hQ : Q ≤ 30000) (X : bsX) : fX3_bootBy 1 1 (up X 1 Y) = some ((sBoots 1 Y).1, up X 1 (sBoots 1 Y).2) := by
  have k1 := qX3_bootBy (g := 1) (c := 1) (X := up X 1 Y) (Q := Q) (n := n) (t := t) (by omega) (by rw [up_at]; exact h0)
  rw [up_at, up_up] at k1
  exact k1
theorem good_try {Q n t k : Nat} {Y : pY} (h0 : wm Q n t (sBoot0 Y)) (hk : k < 6) (hQ : Q ≤ 30000) (ht : t ≤ 9999) :
    ∃ x, (x = -1 ∨ ∃ m, m < 301 ∧ x = nI m) ∧ (∀ X : bsX, ∃ Z, fX3_ticksToGood 1 k (up X 1 (sBoots 1 Y).2) = some (x, up X 1 Z)) ∧
      (∀ (B : bsX) (a b c : Int32), ∃ Z, fX9_becomesGood (nI k) (ro B (row Y a b c)) = some (if x = -1 then 0 else 1, ro B (enc Z))) := by
  have hb := wm_boots (c := 1) h0 ⟨1, by omega, by omega, rfl⟩ (by omega)
  refine ⟨(sWhen (fun Z => decide (Z 5 k 4 ≠ 0)) 301 0 (sBoots 1 Y).2).1, ?_, fun X => ⟨(sWhen (fun Z => decide (Z 5 k 4 ≠ 0)) 301 0 (sBoots 1 Y).2).2, ?_⟩, fun B a b c => ?_⟩
  · rcases sWhen_r (fun Z => decide (Z 5 k 4 ≠ 0)) 301 0 (sBoots 1 Y).2 with e | ⟨m, m1, m2⟩
    · exact Or.inl e
    · exact Or.inr ⟨m, by omega, m2⟩
  · obtain ⟨Q', t', k1, _, _, _⟩ := qX3_toGood (g := 1) (j := k) 301 0 bsF (Q + 1) n t X (sBoots 1 Y).2 (by omega) (by unfold bsF; omega) (by omega) hb
    unfold fX3_ticksToGood
    exact k1
  · have k2 := q9_boots (cs := 1) (X := B) (Q := Q) (n := n) (t := t) (a := a) (b := b) (c := c) (by omega) h0
    obtain ⟨Z, k3⟩ := q9_toGood (X := B) (n := n) hk 301 0 bsF (Q + 1) t (sBoots 1 Y).2 (by omega) (by unfold bsF; omega) (by omega) hb
    have hf : ∀ A B : pY, sim A B → (fun Z : pY => decide (Z 5 k 4 ≠ 0)) A = (fun Z : pY => decide (Z 5 k 4 ≠ 0)) B := by
      intro A B hs
      dsimp only
      rw [hs 5 k 4 (by omega) (by omega)]
    rw [rWhen_eq hf 301 0 (Q + 1) t (sBoots 1 Y).2 (by omega) (by omega) hb] at k3
    refine ⟨Z, ?_⟩
    unfold fX9_becomesGood fX9_goodNow
    rw [k2]
    simp only [Option.bind_some]
    rw [show fX9_goodNow_2 bsF (nI k) (0 : Int32) (ro B (enc (sBoots 1 Y).2)) = some ((sWhen (fun Z => decide (Z 5 k 4 ≠ 0)) 301 0 (sBoots 1 Y).2).1, ro B (enc Z)) from k3]
    simp only [Option.bind_some]
    by_cases e : (sWhen (fun Z => decide (Z 5 k 4 ≠ 0)) 301 0 (sBoots 1 Y).2).1 = -1
    · rw [if_pos e, if_pos e]
    · rw [if_neg e, if_neg e]
theorem copy_up {X : bsX} {Q n t : Nat} {Z : pY} (hw : wm Q n t (X 0)) : fX3_copyFrom 1 0 (up X 1 Z) = some (up X 1 (sCopy (X 0) Z)) := by
  have := qX3_copy (g := 1) (g2 := 0) (X := up X 1 Z) (by decide) (Q := Q) (n := n) (t := t) (by rw [up_ne _ _ (by decide)]; exact hw)
  rw [up_ne _ _ (by decide), up_at, up_up] at this
  exact this
theorem tries_loop {X : bsX} {k n t Q : Nat} (hk : k < n) (hw : wm Q n t (X 0)) (hp : X 0 6 k 0 ≠ 0) (hQ : Q ≤ 30000) (ht : t ≤ 9999) : ∀ (d m f g : Nat) (Z : pY), m + d = 8 → d < f → d < g →
    ∃ (x : Int32) (Z' : pY), fX8_triesFor_27 f (nI k) (nI m) (up X 1 Z) = some (0, x, up X 1 Z') ∧ ∀ W : bsX, W 14 1 0 = enc (X 0) → ∃ W' : bsX, fX9_triesFor_22 g (nI k) (nI m) W = some (x, W') ∧ W' 14 0 0 0 = W 14 0 0 0 ∧ quiet W W' := by
  have h6 := hw.hn
  have hk6 : k < 6 := by omega
  have c01 : ¬ (0 : Int32) = 1 := by decide
  have c10 : ¬ (1 : Int32) = 0 := by decide
  intro d
  induction d with
  | zero =>
    intro m f g Z hm hf hg
    obtain ⟨f, rfl⟩ : ∃ z, f = z + 1 := ⟨f - 1, by omega⟩
    obtain ⟨g, rfl⟩ : ∃ z, g = z + 1 := ⟨g - 1, by omega⟩
    obtain rfl : m = 8 := by omega
    have e : (7 : Int32) < nI 8 := by decide
    refine ⟨-1, Z, ?_, fun W hW => ⟨W, ?_, rfl, quiet.refl W⟩⟩
    · simp only [fX8_triesFor_27]; rw [if_pos e]
    · simp only [fX9_triesFor_22]; rw [if_pos e]
  | succ d ih =>
    intro m f g Z hm hf hg
    obtain ⟨f, rfl⟩ : ∃ z, f = z + 1 := ⟨f - 1, by omega⟩
    obtain ⟨g, rfl⟩ : ∃ z, g = z + 1 := ⟨g - 1, by omega⟩
    have e : ¬ (7 : Int32) < nI m := fun q => by have := (pu_lt 7 m (by omega) (by decide)).mp q; omega
    have hcp := copy_up (Z := Z) hw
    have ha := sCopy_alike (X 0) Z
    generalize sCopy (X 0) Z = Y at hcp ha
    have hwY := wm_alike hw ha
    have hpY : Y 6 k 0 ≠ 0 := by rw [ha 6 k 0 (by unfold real; omega)]; exact hp
    have hw2 : wm Q n t (wr Y 5 k 3 (nI m)) := by
      have := wm_mark (p := Y 5 k 2) (r := nI m) hwY hk hpY (hwY.sl k hk6).2.2.2.2.1 ⟨m, by omega, by omega, rfl⟩
      rw [wr_self] at this
      exact this
    obtain ⟨x, x1, x2, x3⟩ := good_try (wm_boot0 hw2) hk6 hQ ht
    obtain ⟨Z2, x2⟩ := x2 X
    have hb := boot_try (wm_boot0 hw2) hQ X
    have hR : ∀ W : bsX, W 14 1 0 = enc (X 0) → W 14 1 0 = enc Y := fun W hW => by rw [hW, enc_alike ha]
    have ref : ∀ W : bsX, W 14 1 0 = enc (X 0) → fX9_triesFor_22 (g + 1) (nI k) (nI m) W = if x = -1 then fX9_triesFor_22 g (nI k) (nI (m + 1)) (lk W Y) else some (nI m, lk W Y) := by
      intro W hW
      have e3 : fX9_puts (nI k) (2 : Int32) (nI m) (lk W Y) = some (ro (ar W 2 (stK (W 14 2 0) (enc Y) 10)) (row (wr Y 5 k 3 (nI m)) (sSt Y) (Y 0 0 11) (Y 0 0 12))) := q9_pu2 hk6 _ _ _ _ _ _
      obtain ⟨Z3, x3⟩ := x3 (ar W 2 (stK (W 14 2 0) (enc Y) 10)) (sSt Y) (Y 0 0 11) (Y 0 0 12)
      simp only [fX9_triesFor_22]
      rw [if_neg e, lay_lk (hR W hW)]
      simp only [Option.bind_some, e3, x3]
      by_cases q : x = -1
      · simp only [q, if_true, fX9_flag, Option.bind_some]
        rw [back_lk (enc_160 Z3)]
        simp only [Option.bind_some, c01, if_false, pu_succ]
      · simp only [q, if_false, fX9_flag, c10, Option.bind_some]
        rw [back_lk (enc_160 Z3)]
        simp only [Option.bind_some, if_true]
    have cls : fX8_triesFor_27 (f + 1) (nI k) (nI m) (up X 1 Z) = if x < 0 then fX8_triesFor_27 f (nI k) (nI (m + 1)) (up X 1 Z2) else some (0, nI m, up X 1 Z2) := by
      simp only [fX8_triesFor_27]
      rw [if_neg e, hcp]
      simp only [Option.bind_some, pu_inT hk6 (by decide), pu_ix6 hk6, if_true, up_wr, up_at, up_up, hb, x2, pu_succ]
    rcases x1 with q | ⟨q, q1, q2⟩
    · have q3 : x < 0 := by rw [q]; decide
      obtain ⟨y, Z', y1, y2⟩ := ih (m + 1) f g Z2 (by omega) (by omega) (by omega)
      refine ⟨y, Z', by rw [cls, if_pos q3]; exact y1, fun W hW => ?_⟩
      obtain ⟨W', w1, w2, w3⟩ := y2 (lk W Y) (by rw [lk_1, enc_alike ha])
      exact ⟨W', by rw [ref W hW, if_pos q]; exact w1, by rw [w2, lk_00], (quiet_lk1 (hR W hW)).trans w3⟩
    · have q3 : ¬ x < 0 := by rw [q2]; exact pu_neg q (by omega)
      have q4 : ¬ x = -1 := by rw [q2]; exact pu_m1 q (by omega)
      exact ⟨nI m, Z2, by rw [cls, if_neg q3], fun W hW => ⟨lk W Y, by rw [ref W hW, if_neg q4], lk_00 W Y, quiet_lk1 (hR W hW)⟩⟩
theorem watch_loop {X : bsX} {k n t Q : Nat} (hk : k < n) (hw : wm Q n t (X 0)) (hQ : Q ≤ 30000) (ht : t ≤ 9999) : ∀ (d m f g : Nat) (Z : pY), 1 ≤ m → m + d = 100 → d < f → d < g →
    ∃ (x : Int32) (Z' : pY), fX8_bestWatch_27 f (nI k) (nI m) (up X 1 Z) = some (0, x, up X 1 Z') ∧ ∀ W : bsX, W 14 1 0 = enc (X 0) → ∃ W' : bsX, fX9_bestWatch_22 g (nI k) (nI m) W = some (x, W') ∧ W' 14 0 0 0 = W 14 0 0 0 ∧ quiet W W' := by
  have h6 := hw.hn
  have hk6 : k < 6 := by omega
  have c01 : ¬ (0 : Int32) = 1 := by decide
  have c10 : ¬ (1 : Int32) = 0 := by decide
  intro d
  induction d with
  | zero =>
    intro m f g Z hm0 hm hf hg
    obtain ⟨f, rfl⟩ : ∃ z, f = z + 1 := ⟨f - 1, by omega⟩
    obtain ⟨g, rfl⟩ : ∃ z, g = z + 1 := ⟨g - 1, by omega⟩
    obtain rfl : m = 100 := by omega
    have e : (99 : Int32) < nI 100 := by decide
    refine ⟨-1, Z, ?_, fun W hW => ⟨W, ?_, rfl, quiet.refl W⟩⟩
    · simp only [fX8_bestWatch_27]; rw [if_pos e]
    · simp only [fX9_bestWatch_22]; rw [if_pos e]
  | succ d ih =>
    intro m f g Z hm0 hm hf hg
    obtain ⟨f, rfl⟩ : ∃ z, f = z + 1 := ⟨f - 1, by omega⟩
    obtain ⟨g, rfl⟩ : ∃ z, g = z + 1 := ⟨g - 1, by omega⟩
    have e : ¬ (99 : Int32) < nI m := fun q => by have := (pu_lt 99 m (by omega) (by decide)).mp q; omega
    have hcp := copy_up (Z := Z) hw
    have ha := sCopy_alike (X 0) Z
    generalize sCopy (X 0) Z = Y at hcp ha
    have hwY := wm_alike hw ha
    have hw2 : wm Q n t (wr Y 0 0 5 (nI m)) := wm_num hwY (by omega) (fun _ => ⟨m, by omega, by omega, rfl⟩) (fun q => absurd q (by decide)) (fun q => absurd q (by decide)) (fun q => absurd q (by decide))
    obtain ⟨x, x1, x2, x3⟩ := good_try (wm_boot0 hw2) hk6 hQ ht
    obtain ⟨Z2, x2⟩ := x2 X
    have hb := boot_try (wm_boot0 hw2) hQ X
    have hR : ∀ W : bsX, W 14 1 0 = enc (X 0) → W 14 1 0 = enc Y := fun W hW => by rw [hW, enc_alike ha]
    have ref : ∀ W : bsX, W 14 1 0 = enc (X 0) → fX9_bestWatch_22 (g + 1) (nI k) (nI m) W = if x = -1 then fX9_bestWatch_22 g (nI k) (nI (m + 1)) (lk W Y) else some (nI m, lk W Y) := by
      intro W hW
      have e3 : bsWr (lk W Y) 14 1 0 2 (nI m) = ro (ar W 2 (stK (W 14 2 0) (enc Y) 10)) (row (wr Y 0 0 5 (nI m)) (sSt Y) (Y 0 0 11) (Y 0 0 12)) := rw_wr2 _ _ _ _ _ _
      obtain ⟨Z3, x3⟩ := x3 (ar W 2 (stK (W 14 2 0) (enc Y) 10)) (sSt Y) (Y 0 0 11) (Y 0 0 12)
      simp only [fX9_bestWatch_22]
      rw [if_neg e, lay_lk (hR W hW)]
      simp only [Option.bind_some, bi_2, bx_2, if_true, e3, x3]
      by_cases q : x = -1
      · simp only [q, if_true, fX9_flag, Option.bind_some]
        rw [back_lk (enc_160 Z3)]
        simp only [Option.bind_some, c01, if_false, pu_succ]
      · simp only [q, if_false, fX9_flag, c10, Option.bind_some]
        rw [back_lk (enc_160 Z3)]
        simp only [Option.bind_some, if_true]
    have cls : fX8_bestWatch_27 (f + 1) (nI k) (nI m) (up X 1 Z) = if x < 0 then fX8_bestWatch_27 f (nI k) (nI (m + 1)) (up X 1 Z2) else some (0, nI m, up X 1 Z2) := by
      simp only [fX8_bestWatch_27]
      rw [if_neg e, hcp]
      simp only [Option.bind_some, pu_inT hk6 (by decide), pu_ix6 hk6, if_true, up_wr, up_at, up_up, hb, x2, pu_succ]
    rcases x1 with q | ⟨q, q1, q2⟩
    · have q3 : x < 0 := by rw [q]; decide
      obtain ⟨y, Z', y1, y2⟩ := ih (m + 1) f g Z2 (by omega) (by omega) (by omega) (by omega)
      refine ⟨y, Z', by rw [cls, if_pos q3]; exact y1, fun W hW => ?_⟩
      obtain ⟨W', w1, w2, w3⟩ := y2 (lk W Y) (by rw [lk_1, enc_alike ha])
      exact ⟨W', by rw [ref W hW, if_pos q]; exact w1, by rw [w2, lk_00], (quiet_lk1 (hR W hW)).trans w3⟩
    · have q3 : ¬ x < 0 := by rw [q2]; exact pu_neg q (by omega)
      have q4 : ¬ x = -1 := by rw [q2]; exact pu_m1 q (by omega)
      exact ⟨nI m, Z2, by rw [cls, if_neg q3], fun W hW => ⟨lk W Y, by rw [ref W hW, if_neg q4], lk_00 W Y, quiet_lk1 (hR W hW)⟩⟩
theorem sim_triesFor_ok : sim_triesFor Inv := by
  intro j X a hj h
  have n10 : ¬ (1 : Nat) = 0 := by decide
  have n20 : ¬ (2 : Nat) = 0 := by decide
  have c10 : ¬ (1 : Int32) = 0 := by decide
  rcases h.slot a with ⟨e1, e2⟩ | ⟨e1, e2⟩ | ⟨k, n, t, Q, e1, e2, rfl, hkn, hk6, hw, hR, ht, hQ⟩
  · refine ⟨(1, 0, X), (0, th X 1), by unfold fX8_triesFor; rw [e1]; rfl, Or.inr (Or.inl rfl), by unfold fX9_triesFor; rw [e2]; simp only [Option.bind_some, c10, if_false], th_rd X 1, fun q => absurd (show (1 : Nat) = 0 from q) n10, ((quiet.refl X).thr 1).inv h⟩
  · refine ⟨(2, 0, X), (0, th X 2), by unfold fX8_triesFor; rw [e1]; rfl, Or.inr (Or.inr rfl), by unfold fX9_triesFor; rw [e2]; simp only [Option.bind_some, c10, if_false], th_rd X 2, fun q => absurd (show (2 : Nat) = 0 from q) n20, ((quiet.refl X).thr 2).inv h⟩
  · have hl := h.one e1
    have hs := hw.sl k hk6
    have hh : ∀ W : bsX, W 14 1 0 = enc (X 0) → fX9_has (nI k) (th W 0) = some (b2 (decide (X 0 6 k 0 ≠ 0)), th W 0) := by
      intro W hW
      have : fX9_has (nI k) (ro (th W 0) (enc (X 0))) = some (b2 (decide (X 0 6 k 0 ≠ 0)), ro (th W 0) (enc (X 0))) := q9_has hk6 hs.1
      rw [← th_ro W 0 hW] at this
      exact this
    by_cases hp : X 0 6 k 0 = 0
    · refine ⟨(0, -1, X), (-1, th X 0), ?_, Or.inl rfl, ?_, th_rd X 0, fun _ => rfl, ((quiet.refl X).thr 0).inv h⟩
      · unfold fX8_triesFor; rw [e1]
        simp only [Option.bind_some, if_true, pu_inT hk6 (by decide), pu_ix6 hk6, hp]
      · unfold fX9_triesFor; rw [e2]
        simp only [Option.bind_some, if_true, hh X hR, hp, ne_eq, not_true, decide_false, b2_f]
    · obtain ⟨x, Z, s1, s2⟩ := tries_loop (X := X) hkn hw hp (by omega) ht 8 0 bsF bsF (X 1) (by omega) (by unfold bsF; omega) (by unfold bsF; omega)
      rw [up_id] at s1
      have hRu : up X 1 Z 14 1 0 = enc (X 0) := by rw [up_ne _ _ (by decide)]; exact hR
      have hns := ns_ok (W := up X 1 Z) (n := n) (k := k) (by rw [up_ne _ _ (by decide)]; exact hl) (by rw [hRu]; exact hw.sz) hkn hw.hn
      obtain ⟨W', w1, w2, w3⟩ := s2 (th (up X 1 Z) 0) (by rw [th_K _ _ (by decide)]; exact hRu)
      refine ⟨(0, x, up X 1 Z), (x, W'), ?_, Or.inl rfl, ?_, w2.trans (th_rd (up X 1 Z) 0), fun _ => rfl, ((((quiet.refl X).up1 Z).thr 0).trans w3).inv h⟩
      · unfold fX8_triesFor; rw [e1]
        simp only [Option.bind_some, if_true, pu_inT hk6 (by decide), pu_ix6 hk6, hp, if_false]
        exact s1
      · unfold fX9_triesFor; rw [hns]
        simp only [Option.bind_some, if_true, hh _ hRu, hp, ne_eq, not_false_eq_true, decide_true, b2_t, c10, if_false]
        exact w1
theorem sim_bestWatch_ok : sim_bestWatch Inv := by
  intro j X a hj h
  have n10 : ¬ (1 : Nat) = 0 := by decide
  have n20 : ¬ (2 : Nat) = 0 := by decide
  have c10 : ¬ (1 : Int32) = 0 := by decide
  rcases h.slot a with ⟨e1, e2⟩ | ⟨e1, e2⟩ | ⟨k, n, t, Q, e1, e2, rfl, hkn, hk6, hw, hR, ht, hQ⟩
  · refine ⟨(1, 0, X), (0, th X 1), by unfold fX8_bestWatch; rw [e1]; rfl, Or.inr (Or.inl rfl), by unfold fX9_bestWatch; rw [e2]; simp only [Option.bind_some, c10, if_false], th_rd X 1, fun q => absurd (show (1 : Nat) = 0 from q) n10, ((quiet.refl X).thr 1).inv h⟩
  · refine ⟨(2, 0, X), (0, th X 2), by unfold fX8_bestWatch; rw [e1]; rfl, Or.inr (Or.inr rfl), by unfold fX9_bestWatch; rw [e2]; simp only [Option.bind_some, c10, if_false], th_rd X 2, fun q => absurd (show (2 : Nat) = 0 from q) n20, ((quiet.refl X).thr 2).inv h⟩
  · have hl := h.one e1
    have hs := hw.sl k hk6
    have hh : ∀ W : bsX, W 14 1 0 = enc (X 0) → fX9_has (nI k) (th W 0) = some (b2 (decide (X 0 6 k 0 ≠ 0)), th W 0) := by
      intro W hW
      have : fX9_has (nI k) (ro (th W 0) (enc (X 0))) = some (b2 (decide (X 0 6 k 0 ≠ 0)), ro (th W 0) (enc (X 0))) := q9_has hk6 hs.1
      rw [← th_ro W 0 hW] at this
      exact this
    by_cases hp : X 0 6 k 0 = 0
    · refine ⟨(0, -1, X), (-1, th X 0), ?_, Or.inl rfl, ?_, th_rd X 0, fun _ => rfl, ((quiet.refl X).thr 0).inv h⟩
      · unfold fX8_bestWatch; rw [e1]
        simp only [Option.bind_some, if_true, pu_inT hk6 (by decide), pu_ix6 hk6, hp]
      · unfold fX9_bestWatch; rw [e2]
        simp only [Option.bind_some, if_true, hh X hR, hp, ne_eq, not_true, decide_false, b2_f]
    · obtain ⟨x, Z, s1, s2⟩ := watch_loop (X := X) hkn hw (by omega) ht 99 1 bsF bsF (X 1) (by omega) (by omega) (by unfold bsF; omega) (by unfold bsF; omega)
      rw [up_id] at s1
      have hRu : up X 1 Z 14 1 0 = enc (X 0) := by rw [up_ne _ _ (by decide)]; exact hR
      have hns := ns_ok (W := up X 1 Z) (n := n) (k := k) (by rw [up_ne _ _ (by decide)]; exact hl) (by rw [hRu]; exact hw.sz) hkn hw.hn
      obtain ⟨W', w1, w2, w3⟩ := s2 (th (up X 1 Z) 0) (by rw [th_K _ _ (by decide)]; exact hRu)
      refine ⟨(0, x, up X 1 Z), (x, W'), ?_, Or.inl rfl, ?_, w2.trans (th_rd (up X 1 Z) 0), fun _ => rfl, ((((quiet.refl X).up1 Z).thr 0).trans w3).inv h⟩
      · unfold fX8_bestWatch; rw [e1]
        simp only [Option.bind_some, if_true, pu_inT hk6 (by decide), pu_ix6 hk6, hp, if_false]
        exact s1
      · unfold fX9_bestWatch; rw [hns]
        simp only [Option.bind_some, if_true, hh _ hRu, hp, ne_eq, not_false_eq_true, decide_true, b2_t, c10, if_false]
        exact w1
