theorem resc_try {Q n t : Nat} {Y : pY} (h0 : wm Q n t (sBoot0 Y)) (hQ : Q ≤ 30000) (ht : t ≤ 9999) :
    ∃ x, (x = -1 ∨ ∃ m, m < 301 ∧ x = nI m) ∧ (∀ X : bsX, ∃ Z, fX3_ticksToRescue 1 (up X 1 (sBoots 1 Y).2) = some (x, up X 1 Z)) ∧
      (∀ B : bsX, ∃ Z, fX9_rescueNow (ro B (enc (sBoots 1 Y).2)) = some (x, ro B (enc Z))) := by
  have hb := wm_boots (c := 1) h0 ⟨1, by omega, by omega, rfl⟩ (by omega)
  refine ⟨(sWhen sResc 301 0 (sBoots 1 Y).2).1, ?_, fun X => ⟨(sWhen sResc 301 0 (sBoots 1 Y).2).2, ?_⟩, fun B => ?_⟩
  · rcases sWhen_r sResc 301 0 (sBoots 1 Y).2 with e | ⟨m, m1, m2⟩
    · exact Or.inl e
    · exact Or.inr ⟨m, by omega, m2⟩
  · obtain ⟨Q', t', k1, _, _, _⟩ := qX3_toResc (g := 1) 301 0 bsF (Q + 1) n t X (sBoots 1 Y).2 (by omega) (by unfold bsF; omega) (by omega) hb
    unfold fX3_ticksToRescue
    exact k1
  · obtain ⟨Z, k3⟩ := q9_toResc (X := B) (n := n) 301 0 bsF (Q + 1) t (sBoots 1 Y).2 (by omega) (by unfold bsF; omega) (by omega) hb
    rw [rWhen_eq (fun _ _ hs => hs.resc) 301 0 (Q + 1) t (sBoots 1 Y).2 (by omega) (by omega) hb] at k3
    exact ⟨Z, k3⟩
def keyR (key s1 s2 : Int32) : Prop := (key = -1 ∧ s1 = 301) ∨ (key ≠ -1 ∧ s1 = s2)
theorem key_loop {X : bsX} {n t Q : Nat} (hw : wm Q n t (X 0)) (hQ : Q ≤ 30000) (ht : t ≤ 9999) : ∀ (d i f g : Nat) (key s1 s2 : Int32) (Z : pY), i + d = 6 → d < f → d < g → keyR key s1 s2 →
    ∃ (x : Int32) (Z' : pY), fX8_keySlot_12 f key s1 (nI i) (up X 1 Z) = some (0, x, up X 1 Z') ∧ ∀ W : bsX, W 14 1 0 = enc (X 0) → ∃ W' : bsX, fX9_keySlot_15 g key s2 (nI i) W = some (x, W') ∧ W' 14 0 0 0 = W 14 0 0 0 ∧ quiet W W' := by
  have h6 := hw.hn
  have cm : (-1 : Int32) < 0 := by decide
  have stop : ∀ (g i : Nat) (key s2 : Int32) (W : bsX), n ≤ i → i ≤ 6 → W 14 1 0 = enc (X 0) → fX9_keySlot_15 (g + 1) key s2 (nI i) W = some (key, W) := by
    intro g i key s2 W h1 h2 hW
    have r0 : W 14 1 0 0 = nI n := by rw [hW]; exact hw.sz
    simp only [fX9_keySlot_15, bi_0, bx_0, if_true, r0]
    rw [if_pos ((pu_le n i (by omega) (by omega)).mpr h1)]
  intro d
  induction d with
  | zero =>
    intro i f g key s1 s2 Z hi hf hg hr
    obtain ⟨f, rfl⟩ : ∃ z, f = z + 1 := ⟨f - 1, by omega⟩
    obtain ⟨g, rfl⟩ : ∃ z, g = z + 1 := ⟨g - 1, by omega⟩
    obtain rfl : i = 6 := by omega
    refine ⟨key, Z, ?_, fun W hW => ⟨W, stop g 6 key s2 W h6 (by omega) hW, rfl, quiet.refl W⟩⟩
    simp only [fX8_keySlot_12, pu_66, if_true]
  | succ d ih =>
    intro i f g key s1 s2 Z hi hf hg hr
    obtain ⟨f, rfl⟩ : ∃ z, f = z + 1 := ⟨f - 1, by omega⟩
    obtain ⟨g, rfl⟩ : ∃ z, g = z + 1 := ⟨g - 1, by omega⟩
    have hi6 : i < 6 := by omega
    have hbo : fX3_isBootable 0 i (up X 1 Z) = some (b2 (sBoot (X 0) i), up X 1 Z) := by
      have := qX3_boot 0 i (up X 1 Z)
      rw [up_ne _ _ (by decide)] at this
      exact this
    by_cases hb : sBoot (X 0) i = true
    · have hin : i < n := by
        rcases Nat.lt_or_ge i n with q | q
        · exact q
        · have : sBoot (X 0) i = false := hw.nb q hi6
          rw [this] at hb; exact absurd hb (by decide)
      have hcp := copy_up (Z := Z) hw
      have ha := sCopy_alike (X 0) Z
      generalize sCopy (X 0) Z = Y at hcp ha
      have hwY := wm_alike hw ha
      have h0 := wm_empB (k := i) hwY hi6
      obtain ⟨x, x1, x2, x3⟩ := resc_try h0 hQ ht
      obtain ⟨Z2, x2⟩ := x2 X
      have hbt := boot_try h0 hQ X
      have hR : ∀ W : bsX, W 14 1 0 = enc (X 0) → W 14 1 0 = enc Y := fun W hW => by rw [hW, enc_alike ha]
      have cls : fX8_keySlot_12 (f + 1) key s1 (nI i) (up X 1 Z) = fX8_keySlot_46 (fX8_keySlot_12 f) key s1 (nI i) x (up X 1 Z2) := by
        have c10 : ¬ (1 : Int32) = 0 := by decide
        simp only [fX8_keySlot_12, pu_le6 hi6, if_false, pu_inT hi6 (by decide), pu_ix6 hi6, if_true, hbo, Option.bind_some, hb, b2_t, c10, fX8_rescueWithout, pu_lt0 hi6, pu_lt6 hi6, hcp, qX5_empty, up_at, up_up, hbt, x2]
      have ref : ∀ W : bsX, W 14 1 0 = enc (X 0) → fX9_keySlot_15 (g + 1) key s2 (nI i) W = fX9_keySlot_42 (fX9_keySlot_15 g) key s2 (nI i) x (lk W Y) := by
        intro W hW
        have c10 : ¬ (1 : Int32) = 0 := by decide
        have r0 : W 14 1 0 0 = nI n := by rw [hW]; exact hw.sz
        have hcb : fX9_canBoot (nI i) W = some (b2 (sBoot (X 0) i), W) := by
          have : fX9_canBoot (nI i) (ro W (enc (X 0))) = some (b2 (sBoot (X 0) i), ro W (enc (X 0))) := q9_canBoot hi6 (hw.sl i hi6)
          rw [← hW, ro_id] at this
          exact this
        have e3 : fX9_empties (nI i) (lk W Y) = some (ro (ar W 2 (stK (W 14 2 0) (enc Y) 10)) (row (sEmp i Y) (sSt Y) (Y 0 0 11) (Y 0 0 12))) := q9_empties hi6
        have k2 := q9_boots (cs := 1) (X := ar W 2 (stK (W 14 2 0) (enc Y) 10)) (Q := Q) (n := n) (t := t) (a := sSt Y) (b := Y 0 0 11) (c := Y 0 0 12) (by omega) h0
        obtain ⟨Z3, x3⟩ := x3 (ar W 2 (stK (W 14 2 0) (enc Y) 10))
        simp only [fX9_keySlot_15, bi_0, bx_0, if_true, r0, pu_leN hin h6, if_false, hcb, Option.bind_some, hb, b2_t, c10, fX9_rescueWithout, lay_lk (hR W hW), e3, k2, x3]
        rw [back_lk (enc_160 Z3)]
        rfl
      have next : ∀ (W : bsX), W 14 1 0 = enc (X 0) → lk W Y 14 1 0 = enc (X 0) := fun W _ => by rw [lk_1, enc_alike ha]
      have done : ∀ (key' s1' s2' : Int32), keyR key' s1' s2' → fX8_keySlot_46 (fX8_keySlot_12 f) key s1 (nI i) x (up X 1 Z2) = fX8_keySlot_12 f key' s1' (nI (i + 1)) (up X 1 Z2) → (∀ V : bsX, fX9_keySlot_42 (fX9_keySlot_15 g) key s2 (nI i) x V = fX9_keySlot_15 g key' s2' (nI (i + 1)) V) →
          ∃ (x : Int32) (Z' : pY), fX8_keySlot_12 (f + 1) key s1 (nI i) (up X 1 Z) = some (0, x, up X 1 Z') ∧ ∀ W : bsX, W 14 1 0 = enc (X 0) → ∃ W' : bsX, fX9_keySlot_15 (g + 1) key s2 (nI i) W = some (x, W') ∧ W' 14 0 0 0 = W 14 0 0 0 ∧ quiet W W' := by
        intro key' s1' s2' hr' hc hv
        obtain ⟨y, Z', y1, y2⟩ := ih (i + 1) f g key' s1' s2' Z2 (by omega) (by omega) (by omega) hr'
        refine ⟨y, Z', by rw [cls, hc]; exact y1, fun W hW => ?_⟩
        obtain ⟨W', w1, w2, w3⟩ := y2 (lk W Y) (next W hW)
        exact ⟨W', by rw [ref W hW, hv]; exact w1, by rw [w2, lk_00], (quiet_lk1 (hR W hW)).trans w3⟩
      rcases x1 with q | ⟨q, q1, q2⟩
      · refine done key s1 s2 hr ?_ ?_
        · unfold fX8_keySlot_46 fX8_keySlot_64; rw [q, if_pos cm, pu_succ]
        · intro V; unfold fX9_keySlot_42 fX9_keySlot_66; rw [q, if_pos rfl, pu_succ]
      · have q3 : ¬ x < 0 := by rw [q2]; exact pu_neg q (by omega)
        have q4 : ¬ x = -1 := by rw [q2]; exact pu_m1 q (by omega)
        have hi1 : ¬ nI i = -1 := pu_m1 i (by omega)
        rcases hr with ⟨r1, r2⟩ | ⟨r1, r2⟩
        · refine done (nI i) x x (Or.inr ⟨hi1, rfl⟩) ?_ ?_
          · have : ¬ s1 ≤ x := by
              rw [r2, q2, show (301 : Int32) = nI 301 from rfl, pu_le _ _ (by omega) (by decide)]; omega
            unfold fX8_keySlot_46 fX8_keySlot_64; rw [if_neg q3, if_neg this, pu_succ]
          · intro V; unfold fX9_keySlot_42 fX9_keySlot_61 fX9_keySlot_66; rw [if_neg q4, if_pos r1, pu_succ]
        · by_cases c : s1 ≤ x
          · refine done key s1 s2 (Or.inr ⟨r1, r2⟩) ?_ ?_
            · unfold fX8_keySlot_46 fX8_keySlot_64; rw [if_neg q3, if_pos c, pu_succ]
            · intro V; unfold fX9_keySlot_42 fX9_keySlot_61 fX9_keySlot_66; rw [if_neg q4, if_neg r1, if_pos (by rw [← r2]; exact c), pu_succ]
          · refine done (nI i) x x (Or.inr ⟨hi1, rfl⟩) ?_ ?_
            · unfold fX8_keySlot_46 fX8_keySlot_64; rw [if_neg q3, if_neg c, pu_succ]
            · intro V; unfold fX9_keySlot_42 fX9_keySlot_61 fX9_keySlot_66; rw [if_neg q4, if_neg r1, if_neg (by rw [← r2]; exact c), pu_succ]
    · have hbf : sBoot (X 0) i = false := by simpa [b2_t, b2_f, up_at, up_up, up_id] using hb
      obtain ⟨y, Z', y1, y2⟩ := ih (i + 1) f g key s1 s2 Z (by omega) (by omega) (by omega) hr
      refine ⟨y, Z', ?_, fun W hW => ?_⟩
      · simp only [fX8_keySlot_12, pu_le6 hi6, if_false, pu_inT hi6 (by decide), pu_ix6 hi6, if_true, hbo, Option.bind_some, hbf, b2_f, fX8_keySlot_46, fX8_keySlot_64, cm, pu_succ]
        exact y1
      · obtain ⟨W', w1, w2, w3⟩ := y2 W hW
        refine ⟨W', ?_, w2, w3⟩
        by_cases hin : n ≤ i
        · obtain ⟨g, rfl⟩ : ∃ z, g = z + 1 := ⟨g - 1, by omega⟩
          rw [stop _ i key s2 W hin (by omega) hW, ← w1, stop _ (i + 1) key s2 W (by omega) (by omega) hW]
        · have r0 : W 14 1 0 0 = nI n := by rw [hW]; exact hw.sz
          have hcb : fX9_canBoot (nI i) W = some (b2 (sBoot (X 0) i), W) := by
            have : fX9_canBoot (nI i) (ro W (enc (X 0))) = some (b2 (sBoot (X 0) i), ro W (enc (X 0))) := q9_canBoot hi6 (hw.sl i hi6)
            rw [← hW, ro_id] at this
            exact this
          simp only [fX9_keySlot_15, bi_0, bx_0, if_true, r0, pu_leN (show i < n by omega) h6, if_false, hcb, Option.bind_some, hbf, b2_f, fX9_keySlot_42, fX9_keySlot_66, pu_succ]
          exact w1
theorem sim_keySlot_ok : sim_keySlot Inv := by
  intro j X hj h
  have n10 : ¬ (1 : Nat) = 0 := by decide
  have c10 : ¬ (1 : Int32) = 0 := by decide
  rcases h.req with ⟨e, e1, e2⟩ | ⟨e, e1, e2, n, t, Q, n1, hw, hR, ht, hQ⟩
  · exact ⟨(1, 0, X), (0, th X 1), by unfold fX8_keySlot; rw [e1]; rfl, Or.inr rfl, by unfold fX9_keySlot; rw [e2]; simp only [Option.bind_some, c10, if_false], th_rd X 1, fun q => absurd (show (1 : Nat) = 0 from q) n10, ((quiet.refl X).thr 1).inv h⟩
  · obtain ⟨x, Z, s1, s2⟩ := key_loop (X := X) hw (by omega) ht 6 0 bsF bsF (-1) 301 0 (X 1) (by omega) (by unfold bsF; omega) (by unfold bsF; omega) (Or.inl ⟨rfl, rfl⟩)
    rw [up_id] at s1
    have hRu : up X 1 Z 14 1 0 = enc (X 0) := by rw [up_ne _ _ (by decide)]; exact hR
    have hn := nl_up e2 h.1 Z
    obtain ⟨W', w1, w2, w3⟩ := s2 (th (up X 1 Z) 0) (by rw [th_K _ _ (by decide)]; exact hRu)
    refine ⟨(0, x, up X 1 Z), (x, W'), ?_, Or.inl rfl, ?_, w2.trans (th_rd (up X 1 Z) 0), fun _ => rfl, ((((quiet.refl X).up1 Z).thr 0).trans w3).inv h⟩
    · unfold fX8_keySlot; rw [e1]
      simp only [Option.bind_some, if_true]
      exact s1
    · unfold fX9_keySlot; rw [hn]
      simp only [Option.bind_some, if_true]
      exact w1
