/-! a boot -/
theorem bit_dec : ∀ g, g < 64 → ∀ k, k < 6 → g.testBit k = false → nI g + ((1 : Int32) <<< (nI k &&& 31)) = nI g ||| ((1 : Int32) <<< (nI k &&& 31)) ∧ (g ||| 2 ^ k) < 64 ∧ nI g ||| ((1 : Int32) <<< (nI k &&& 31)) = nI (g ||| 2 ^ k) := by decide +kernel
theorem bit_oth : ∀ g, g < 64 → ∀ k, k < 6 → ∀ j, j < 6 → j ≠ k → (g ||| 2 ^ k).testBit j = g.testBit j := by decide +kernel
def gvok (gv : Int32) (Y : pY) : Prop := ∃ g, g < 64 ∧ gv = nI g ∧ ∀ k, k < 6 → sBoot Y k = true → g.testBit k = false
theorem rl.pm {n : Nat} {Y Z : pY} (h : rl n Y Z) {m : Nat} (hm : m < 1000000) (e : Y 3 0 4 = nI m) : lm Z = m := by
  obtain ⟨m2, h2, a, b, _⟩ := h.f
  have : m2 = m := (pu_eq m2 m (by omega) (by omega)).mp (by rw [← a, ← e])
  subst this
  unfold lm
  rw [b]
  exact pu_ix m2 (by omega)
theorem zLog_rd {c gv r : Int32} {Z : pY} {K j i : Nat} : zLog c gv r Z K j i = if K = 14 ∧ j = 0 ∧ i = 0 then nI (lm Z + 1) else if K = 12 ∧ j = lm Z ∧ i = 3 then r else if K = 12 ∧ j = lm Z ∧ i = 2 then gv else if K = 12 ∧ j = lm Z ∧ i = 1 then c else if K = 12 ∧ j = lm Z ∧ i = 0 then Z 0 0 9 else Z K j i := rfl
theorem zLog_y {c gv r : Int32} {Z : pY} {K j i : Nat} (h : K < 12 ∨ K = 13) : zLog c gv r Z K j i = Z K j i := zLog_no (by omega) (by omega)
theorem sAdd_y {t c gv r : Int32} {Y : pY} {K j i : Nat} (h : ¬ (7 ≤ K ∧ K ≤ 10)) (h2 : ¬ (K = 3 ∧ j = 0 ∧ i = 4)) : sAdd t c gv r Y K j i = Y K j i := by
  unfold sAdd
  rw [wr_y _ _ _ _ _ (by omega), wr_y _ _ _ _ _ (by omega), wr_y _ _ _ _ _ (by omega), wr_y _ _ _ _ _ (by omega), wr_y _ _ _ _ _ (by omega)]
theorem rl.log {n : Nat} {Y Z : pY} (h : rl n Y Z) {m : Nat} (hm : m < 999999) (em : Y 3 0 4 = nI m) (c gv r : Int32) : rl n (sAdd (Y 0 0 9) c gv r Y) (zLog c gv r (wr Z 11 0 12 (Z 11 0 12 + 1))) := by
  have hlm : lm (wr Z 11 0 12 (Z 11 0 12 + 1)) = m := by
    have := h.pm (by omega) em
    unfold lm at *
    rw [wr_y _ _ _ _ _ (by omega)]; exact this
  refine ⟨h.a.of (fun _ _ _ => sAdd_y (by omega) (by omega)) (fun _ _ _ => by rw [zLog_y (by omega), wr_y _ _ _ _ _ (by omega)]), h.b.of (fun _ _ _ _ => sAdd_y (by omega) (by omega)) (fun _ _ _ _ => by rw [zLog_y (by omega), wr_y _ _ _ _ _ (by omega)]), h.c.of (fun _ _ _ _ => sAdd_y (by omega) (by omega)) (fun _ _ _ _ _ => by rw [zLog_y (by omega), wr_y _ _ _ _ _ (by omega)]), h.d.of (sAdd_y (by omega) (by omega)) (sAdd_y (by omega) (by omega)) (fun _ _ _ => sAdd_y (by omega) (by omega)) (by rw [zLog_y (by omega), wr_y _ _ _ _ _ (by omega)]) (by rw [zLog_y (by omega), wr_y _ _ _ _ _ (by omega)]) (fun _ _ _ => by rw [zLog_y (by omega), wr_y _ _ _ _ _ (by omega)]), h.e.of (fun _ _ => sAdd_y (by omega) (by omega)) (fun _ _ _ => by rw [zLog_y (by omega), wr_y _ _ _ _ _ (by omega)]), ?_⟩
  obtain ⟨m2, h2, a, b, c2, d⟩ := h.f
  have hm2 : m2 = m := (pu_eq m2 m (by omega) (by omega)).mp (by rw [← a, ← em])
  subst hm2
  have h9 := h.num (i := 9) (by omega) (by omega)
  refine ⟨m2 + 1, by omega, ?_, ?_, ?_, ?_⟩
  · unfold sAdd
    rw [wr_s, em, pu_succ]
  · rw [zLog_rd, if_pos ⟨rfl, rfl, rfl⟩, hlm]
  · rw [zLog_y (by omega), wr_s, c2, pu_succ]
  · intro j hj hj2
    have hi : bsIx (Y 3 0 4) = m2 := by rw [em]; exact pu_ix m2 (by omega)
    simp only [zLog_rd, hlm]
    unfold sAdd
    rw [hi]
    by_cases e : j = m2
    · subst e
      simp [wr_rd, h9]
    · have hne : ¬ j % 12 = m2 % 12 := by omega
      have := d j (by omega) (by omega)
      simp [wr_rd, e, hne, this]
theorem hq_bend {B : Nat} {c gv : Int32} {X : bsX} {n m : Nat} {Y Z : pY} (h6 : n ≤ 6) (h : rl n Y Z) (hm : m < 999999) (em : Y 3 0 4 = nI m) (hB : m ≤ B) (hB2 : B ≤ 90000) :
    (∃ Z', hX11_boot_112 B c gv (-1) X Z = some (gv, X, Z') ∧ rl n (sAdd (Y 0 0 9) c gv (-1) Y) Z' ∧ Z' 0 0 11 = -1 ∧ Z' 0 0 12 = 0 ∧ Z' 0 0 10 = 2) ∧
    ∀ k, k < n → ∃ Z', hX11_boot_112 B c gv (nI k) X Z = some (gv, X, Z') ∧ rl n (sAdd (Y 0 0 9) c gv (nI k) (wr Y 5 k 6 (Y 5 k 6 + 1))) Z' ∧ Z' 0 0 11 = nI k ∧ Z' 0 0 12 = 0 ∧ Z' 0 0 10 = 1 := by
  have key : ∀ (r s : Int32) (Y1 Z1 : pY), rl n Y1 Z1 → Y1 3 0 4 = nI m → Z1 0 0 11 = r → Z1 0 0 12 = 0 → Z1 0 0 10 = s → ∃ Z', hX11_boot_154 B c gv r X Z1 = some (gv, X, Z') ∧ rl n (sAdd (Y1 0 0 9) c gv r Y1) Z' ∧ Z' 0 0 11 = r ∧ Z' 0 0 12 = 0 ∧ Z' 0 0 10 = s := by
    intro r s Y1 Z1 h1 e1 z1 z2 z3
    refine ⟨zLog c gv r (wr Z1 11 0 12 (Z1 11 0 12 + 1)), ?_, h1.log hm e1 c gv r, by rw [zLog_y (by omega), wr_y _ _ _ _ _ (by omega)]; exact z1, by rw [zLog_y (by omega), wr_y _ _ _ _ _ (by omega)]; exact z2, by rw [zLog_y (by omega), wr_y _ _ _ _ _ (by omega)]; exact z3⟩
    unfold hX11_boot_154
    have hlm : lm (wr Z1 11 0 12 (Z1 11 0 12 + 1)) = m := by
      have := h1.pm (by omega) e1
      unfold lm at *
      rw [wr_y _ _ _ _ _ (by omega)]; exact this
    rw [hlm, if_pos hB, if_pos hB2]
  constructor
  · obtain ⟨Z', e, r1, r2, r3, r4⟩ := key (-1) 2 Y (wr (wr (wr Z 0 0 12 0) 0 0 11 (-1)) 0 0 10 2) (((h.z0 12 0 (by omega)).z0 11 (-1) (by omega)).z0 10 2 (by omega)) em (by rw [wr_y _ _ _ _ _ (by omega), wr_s]) (by rw [wr_y _ _ _ _ _ (by omega), wr_y _ _ _ _ _ (by omega), wr_s]) (by rw [wr_s])
    refine ⟨Z', ?_, r1, r2, r3, r4⟩
    unfold hX11_boot_112 hX11_boot_132
    rw [if_neg (by decide), if_pos (by decide)]
    exact e
  · intro k hk
    have h2 := (((h.z0 12 0 (by omega)).z0 11 (nI k) (by omega)).z0 10 1 (by omega))
    have hl := h2.pn h6
    obtain ⟨Z', e, r1, r2, r3, r4⟩ := key (nI k) 1 (wr Y 5 k 6 (Y 5 k 6 + 1)) (wr (wr (wr (wr Z 0 0 12 0) 0 0 11 (nI k)) 0 0 10 1) 5 k 6 (Y 5 k 6 + 1)) (h2.w5 k 6 _) (by rw [wr_y _ _ _ _ _ (by omega)]; exact em) (by rw [wr_y _ _ _ _ _ (by omega), wr_y _ _ _ _ _ (by omega), wr_s]) (by rw [wr_y _ _ _ _ _ (by omega), wr_y _ _ _ _ _ (by omega), wr_y _ _ _ _ _ (by omega), wr_s]) (by rw [wr_y _ _ _ _ _ (by omega), wr_s])
    rw [wr_y _ _ _ _ _ (by omega)] at r1
    refine ⟨Z', ?_, r1, r2, r3, r4⟩
    have h56 : (wr (wr (wr Z 0 0 12 0) 0 0 11 (nI k)) 0 0 10 1) 5 k 6 = Y 5 k 6 := h2.sl hk (by omega) (by omega)
    unfold hX11_boot_112 hX11_boot_132
    rw [if_pos (show (0 : Int32) ≤ nI k from pu_nlt.mp (pu_neg k (by omega))), if_neg (pu_neg k (by omega)), hl, if_pos (pz_in hk h6), pu_ix k (by omega), h56]
    exact e
theorem sFirst_n {Q n t k : Nat} {w : Int32} {Y : pY} (hw : wm Q n t Y) (h : sFirstBut w Y = some k) : k < n ∧ ¬ Y 6 k 0 = 0 ∧ sBoot Y k = true := by
  obtain ⟨h1, h2, _⟩ := sFirst_boot h
  have hne : ¬ Y 6 k 0 = 0 := by
    intro z
    unfold sBoot sBootF at h2
    simp [z] at h2
  refine ⟨?_, hne, h2⟩
  refine Nat.lt_of_not_le fun z => hne (hw.hi k z h1).1
theorem sTry_f {Y : pY} {k : Nat} (h : Y 6 k 5 = 0) : sTry Y k = (true, wr (sTry1 Y k) 5 k 6 (Y 5 k 6 + 1)) := by unfold sTry; rw [if_pos h]
theorem sTry_d {Y : pY} {k : Nat} (h : ¬ Y 6 k 5 = 0) : sTry Y k = (false, wr (wr (wr (sTry1 Y k) 5 k 2 0) 5 k 4 0) 4 0 1 (Y 4 0 1 + 1)) := by unfold sTry; rw [if_neg h]
theorem hq_bootL {B : Nat} {c : Int32} {X : bsX} {Q n t m0 : Nat} (hB : m0 ≤ B) (hB2 : B ≤ 90000) : ∀ (d m : Nat) (gv : Int32) (Y Z : pY), cnt (sBoot Y) ≤ d → d < m → wm Q n t Y → Y 0 0 11 = -1 → Y 3 0 4 = nI m0 → rl n Y Z → gvok gv Y →
    ∃ Z', hX11_boot_8 B m c gv (oI (sFirstBut (-1) Y)) X Z = some ((sBootL d gv Y).1, X, Z') ∧ rl n (sAdd ((sBootL d gv Y).2 0 0 9) c (sBootL d gv Y).1 ((sBootL d gv Y).2 0 0 11) (sBootL d gv Y).2) Z' ∧ Z' 0 0 11 = (sBootL d gv Y).2 0 0 11 ∧ Z' 0 0 12 = 0 ∧ Z' 0 0 10 = (if (sBootL d gv Y).2 0 0 11 = -1 then 2 else 1) := by
  intro d
  induction d with
  | zero =>
    intro m gv Y Z hc hm hw hr em h _
    obtain ⟨m, rfl⟩ : ∃ z, m = z + 1 := ⟨m - 1, by omega⟩
    rw [sFirst_none (by omega)]
    obtain ⟨Z', e, r1, r2, r3, r4⟩ := (hq_bend (B := B) (c := c) (gv := gv) (X := X) hw.hn h (m := m0) (by omega) em hB hB2).1
    refine ⟨Z', ?_, ?_, ?_, r3, ?_⟩
    · rw [hX11_boot_8, if_pos (show oI none < 0 by decide)]; exact e
    · show rl n (sAdd (Y 0 0 9) c gv (Y 0 0 11) Y) Z'
      rw [hr]; exact r1
    · show Z' 0 0 11 = Y 0 0 11
      rw [hr]; exact r2
    · show Z' 0 0 10 = if Y 0 0 11 = -1 then 2 else 1
      rw [if_pos hr]; exact r4
  | succ d ih =>
    intro m gv Y Z hc hm hw hr em h hg
    obtain ⟨m, rfl⟩ : ∃ z, m = z + 1 := ⟨m - 1, by omega⟩
    have h6 := hw.hn
    cases hf : sFirstBut (-1) Y with
    | none =>
      have eL : sBootL (d + 1) gv Y = (gv, Y) := by rw [sBootL, hf] <;> rfl
      rw [eL]
      try dsimp only
      obtain ⟨Z', e, r1, r2, r3, r4⟩ := (hq_bend (B := B) (c := c) (gv := gv) (X := X) hw.hn h (m := m0) (by omega) em hB hB2).1
      refine ⟨Z', ?_, ?_, ?_, r3, ?_⟩
      · rw [hX11_boot_8, if_pos (show oI none < 0 by decide)]; exact e
      · rw [hr]; exact r1
      · rw [hr]; exact r2
      · rw [if_pos hr]; exact r4
    | some k =>
      have eL : sBootL (d + 1) gv Y = if (sTry Y k).1 then (gv, wr (sTry Y k).2 0 0 11 (nI k)) else sBootL d (gv ||| ((1 : Int32) <<< (nI k &&& 31))) (sTry Y k).2 := by rw [sBootL, hf] <;> rfl
      obtain ⟨hk, hne, hbt⟩ := sFirst_n hw hf
      have hk6 : k < 6 := by omega
      have hl := h.pn h6
      -- behind the count of tries
      have step : ∃ Z1, rl n (sTry1 Y k) Z1 ∧ hX11_boot_8 B (m + 1) c gv (oI (some k)) X Z = hX11_boot_61 B (hX11_boot_8 B m) c gv (nI k) k X Z1 := by
        have h3 := h.sl hk (i := 3) (by omega) (by omega)
        have h7 := h.sl hk (i := 7) (by omega) (by omega)
        have h13 := h.e 0 (by omega)
        have h4 := h.sl hk (i := 4) (by omega) (by omega)
        by_cases g : Y 5 k 4 = 0
        · refine ⟨wr (wr (wr Z 5 k 3 (Y 5 k 3 - 1)) 5 k 7 (Y 5 k 7 + 1)) 11 0 (13 + 0) (Y 4 0 0 + 1), ?_, ?_⟩
          · unfold sTry1
            rw [if_pos g]
            exact ((h.w5 k 3 _).w5 k 7 _).we 0 _
          · rw [hX11_boot_8, show oI (some k) = nI k from rfl, if_neg (pu_neg k (by omega)), hl, if_pos (pz_in hk h6), pu_ix k (by omega), h4, if_pos g]
            have e1 : (wr Z 5 k 3 (Z 5 k 3 - 1)) 5 k 7 = Y 5 k 7 := by rw [wr_y _ _ _ _ _ (by omega)]; exact h7
            have e2 : (wr (wr Z 5 k 3 (Z 5 k 3 - 1)) 5 k 7 (Y 5 k 7 + 1)) 11 0 13 = Y 4 0 0 := by rw [wr_y _ _ _ _ _ (by omega), wr_y _ _ _ _ _ (by omega)]; exact h13
            rw [e1, e2, h3]
        · refine ⟨Z, ?_, ?_⟩
          · unfold sTry1
            rw [if_neg g]
            exact h
          · rw [hX11_boot_8, show oI (some k) = nI k from rfl, if_neg (pu_neg k (by omega)), hl, if_pos (pz_in hk h6), pu_ix k (by omega), h4, if_neg g]
      obtain ⟨Z1, h1, e1⟩ := step
      rw [e1]
      have s65 : (sTry1 Y k) 6 k 5 = Y 6 k 5 := by unfold sTry1; split <;> simp [wr_rd]
      have s60 : (sTry1 Y k) 6 k 0 = Y 6 k 0 := by unfold sTry1; split <;> simp [wr_rd]
      have s304 : (sTry1 Y k) 3 0 4 = Y 3 0 4 := by unfold sTry1; split <;> simp [wr_rd]
      have s56 : (sTry1 Y k) 5 k 6 = Y 5 k 6 := by unfold sTry1; split <;> simp [wr_rd]
      have s401 : (sTry1 Y k) 4 0 1 = Y 4 0 1 := by unfold sTry1; split <;> simp [wr_rd]
      have z65 : Z1 6 k 5 = Y 6 k 5 := by rw [h1.im hk (by rw [s60]; exact hne) (i := 5) (by omega) (by omega), s65]
      unfold hX11_boot_61
      rw [z65]
      by_cases hd : Y 6 k 5 = 0
      · have eP : sBootL (d + 1) gv Y = (gv, wr (wr (sTry1 Y k) 5 k 6 (Y 5 k 6 + 1)) 0 0 11 (nI k)) := by rw [eL, if_pos (show (sTry Y k).1 = true by rw [sTry_f hd]), sTry_f hd]
        rw [if_pos hd, eP]
        obtain ⟨Z', e, r1, r2, r3, r4⟩ := (hq_bend (B := B) (c := c) (gv := gv) (X := X) h6 h1 (m := m0) (by omega) (by rw [s304]; exact em) hB hB2).2 k hk
        rw [s56] at r1
        have hY9 : (sTry1 Y k) 0 0 9 = Y 0 0 9 := by unfold sTry1; split <;> simp [wr_rd]
        refine ⟨Z', e, ?_, ?_, r3, ?_⟩
        · show rl n (sAdd ((wr (wr (sTry1 Y k) 5 k 6 (Y 5 k 6 + 1)) 0 0 11 (nI k)) 0 0 9) c gv ((wr (wr (sTry1 Y k) 5 k 6 (Y 5 k 6 + 1)) 0 0 11 (nI k)) 0 0 11) (wr (wr (sTry1 Y k) 5 k 6 (Y 5 k 6 + 1)) 0 0 11 (nI k))) Z'
          rw [wr_s, wr_y _ _ _ _ _ (by omega), wr_y _ _ _ _ _ (by omega)]
          have r5 := r1.y0 11 (nI k) (by omega)
          have ee : wr (sAdd ((sTry1 Y k) 0 0 9) c gv (nI k) (wr (sTry1 Y k) 5 k 6 (Y 5 k 6 + 1))) 0 0 11 (nI k) = sAdd ((sTry1 Y k) 0 0 9) c gv (nI k) (wr (wr (sTry1 Y k) 5 k 6 (Y 5 k 6 + 1)) 0 0 11 (nI k)) := by
            unfold sAdd
            rw [wr_y (wr (sTry1 Y k) 5 k 6 (Y 5 k 6 + 1)) 0 0 11 (nI k) (by omega)]
            funext a b q
            simp only [wr_rd]
            by_cases w : a = 0 ∧ b = 0 ∧ q = 11
            · rw [if_pos w]
              rw [if_neg (by omega), if_neg (by omega), if_neg (by omega), if_neg (by omega), if_neg (by omega), if_pos w]
            · simp only [w, if_false]
          rw [← ee]
          exact r5
        · show Z' 0 0 11 = (wr (wr (sTry1 Y k) 5 k 6 (Y 5 k 6 + 1)) 0 0 11 (nI k)) 0 0 11
          rw [wr_s]; exact r2
        · show Z' 0 0 10 = if (wr (wr (sTry1 Y k) 5 k 6 (Y 5 k 6 + 1)) 0 0 11 (nI k)) 0 0 11 = -1 then 2 else 1
          rw [wr_s, if_neg (pu_m1 k (by omega))]; exact r4
      · rw [if_neg hd]
        have hY2 : (sTry Y k).2 = wr (wr (wr (sTry1 Y k) 5 k 2 0) 5 k 4 0) 4 0 1 (Y 4 0 1 + 1) := by rw [sTry_d hd]
        have hf1 : (sTry Y k).1 = false := by rw [sTry_d hd]
        have e14 : (wr (wr Z1 5 k 2 0) 5 k 4 0) 11 0 14 = Y 4 0 1 := by
          rw [wr_y _ _ _ _ _ (by omega), wr_y _ _ _ _ _ (by omega), ← s401]; exact h1.e 1 (by omega)
        rw [e14]
        have h2 : rl n (sTry Y k).2 (wr (wr (wr Z1 5 k 2 0) 5 k 4 0) 11 0 14 (Y 4 0 1 + 1)) := by
          rw [hY2]
          exact ((h1.w5 k 2 0).w5 k 4 0).we 1 _
        have hw2 := wm_try hw hk6 hbt
        rw [hq_choice hw2 h2]
        simp only [Option.bind_some]
        obtain ⟨g, g1, g2, g3⟩ := hg
        obtain ⟨b1, b2, b3⟩ := bit_dec g g1 k hk6 (g3 k hk6 hbt)
        have hcl : cnt (sBoot (sTry Y k).2) < cnt (sBoot Y) := cnt_lt (fun q _ hq2 => by
          rw [sTry_boot hf1] at hq2
          split at hq2
          · exact absurd hq2 (by decide)
          · exact hq2) hk6 hbt (by rw [sTry_boot hf1, if_pos rfl])
        have hi := ih m (gv ||| ((1 : Int32) <<< (nI k &&& 31))) (sTry Y k).2 _ (by omega) (by omega) hw2 (by rw [sTry_run.1]; exact hr) (by rw [hY2, wr_y _ _ _ _ _ (by omega), wr_y _ _ _ _ _ (by omega), wr_y _ _ _ _ _ (by omega), s304]; exact em) h2 ⟨g ||| 2 ^ k, b2, by rw [g2]; exact b3, fun q hq hq2 => by
          rw [sTry_boot hf1] at hq2
          split at hq2
          · exact absurd hq2 (by decide)
          · rw [bit_oth g g1 k hk6 q hq (by assumption)]; exact g3 q hq hq2⟩
        rw [eL, if_neg (show ¬ (sTry Y k).1 = true by rw [hf1]; decide)]
        rw [show gv + ((1 : Int32) <<< (nI k &&& 31)) = gv ||| ((1 : Int32) <<< (nI k &&& 31)) by rw [g2]; exact b1]
        exact hi
/-- boot -/
theorem sBootL_12 : ∀ (d : Nat) (gv : Int32) (Y : pY), (sBootL d gv Y).2 0 0 12 = Y 0 0 12 ∧ (sBootL d gv Y).2 0 0 10 = Y 0 0 10 := by
  intro d
  induction d with
  | zero => intro gv Y; exact ⟨rfl, rfl⟩
  | succ d ih =>
    intro gv Y
    have ht : ∀ k, (sTry Y k).2 0 0 12 = Y 0 0 12 := fun k => by
      unfold sTry sTry1
      by_cases h1 : Y 6 k 5 = 0 <;> by_cases h2 : Y 5 k 4 = 0 <;> simp [h1, h2, wr_rd]
    rw [sBootL]
    cases sFirstBut (-1) Y with
    | none => exact ⟨rfl, rfl⟩
    | some k =>
      try dsimp only
      split
      · exact ⟨by show (wr (sTry Y k).2 0 0 11 (nI k)) 0 0 12 = _; rw [wr_y _ _ _ _ _ (by omega)]; exact ht k, by show (wr (sTry Y k).2 0 0 11 (nI k)) 0 0 10 = _; rw [wr_y _ _ _ _ _ (by omega)]; exact sTry_run.2⟩
      · have := ih (gv ||| ((1 : Int32) <<< (nI k &&& 31))) (sTry Y k).2
        exact ⟨by rw [this.1]; exact ht k, by rw [this.2]; exact sTry_run.2⟩
theorem sBoot0_boot {Y : pY} (k : Nat) : sBoot (sBoot0 Y) k = sBoot Y k := by
  unfold sBoot sBootF sBoot0
  simp [wr_rd]
theorem sFirst_same {w : Int32} {Y Y' : pY} (h : ∀ K j i, K = 5 ∨ K = 6 ∨ (K = 0 ∧ i = 8) → Y' K j i = Y K j i) : sFirstBut w Y' = sFirstBut w Y := by
  have hf : sFb w Y' = sFb w Y := by
    funext k b
    have e1 : sBoot Y' k = sBoot Y k := by
      unfold sBoot sBootF
      rw [h 6 k 0 (by omega), h 6 k 4 (by omega), h 6 k 1 (by omega), h 5 k 2 (by omega), h 5 k 4 (by omega), h 5 k 3 (by omega), h 0 0 8 (by omega)]
    have e2 : sPref Y' k b = sPref Y k b := by
      cases b with
      | none => rfl
      | some q =>
        unfold sPref sAhead
        try dsimp only
        rw [h 5 k 2 (by omega), h 5 q 2 (by omega), h 5 k 4 (by omega), h 5 q 4 (by omega), h 6 k 1 (by omega), h 6 q 1 (by omega)]
    unfold sFb
    rw [e1, e2]
  unfold sFirstBut
  rw [hf]
theorem hq_boot {B : Nat} {c : Int32} {X : bsX} {Q n t m0 : Nat} {Y Z : pY} (h0 : wm Q n t (sBoot0 Y)) (h : rl n Y Z) (em : Y 3 0 4 = nI m0) (hB : m0 ≤ B) (hB2 : B ≤ 90000) :
    ∃ Z', hX11_boot B c X Z = some ((sBoots c Y).1, X, Z') ∧ rl n (sBoots c Y).2 Z' ∧ rs (sBoots c Y).2 Z' := by
  have h1 : rl n (sBoot0 Y) Z := ((h.y0 10 1 (by omega)).y0 11 (-1) (by omega)).y0 12 0 (by omega)
  have hg : gvok 0 (sBoot0 Y) := ⟨0, by omega, rfl, fun k _ _ => by simp⟩
  obtain ⟨Z', e, r1, r2, r3, r4⟩ := hq_bootL (B := B) (c := c) (X := X) hB hB2 6 8 0 (sBoot0 Y) Z (cnt_6 _) (by omega) h0 (by unfold sBoot0; rw [wr_y _ _ _ _ _ (by omega), wr_s]) (by unfold sBoot0; rw [wr_y _ _ _ _ _ (by omega), wr_y _ _ _ _ _ (by omega), wr_y _ _ _ _ _ (by omega)]; exact em) h1 hg
  refine ⟨Z', ?_, r1, ?_⟩
  · unfold hX11_boot
    rw [hq_choice h0 h1]
    simp only [Option.bind_some]
    exact e
  · have s1 := sBootL_12 6 0 (sBoot0 Y)
    have y10 : (sBoot0 Y) 0 0 10 = 1 := by unfold sBoot0; rw [wr_y _ _ _ _ _ (by omega), wr_y _ _ _ _ _ (by omega), wr_s]
    have y12 : (sBoot0 Y) 0 0 12 = 0 := by unfold sBoot0; rw [wr_s]
    unfold sBoots rs
    try dsimp only
    refine ⟨?_, ?_, ?_⟩
    · rw [sAdd_y (by omega) (by omega)]; exact r2
    · rw [sAdd_y (by omega) (by omega), s1.1, y12]; exact r3
    · unfold sSt
      rw [sAdd_y (by omega) (by omega), sAdd_y (by omega) (by omega), s1.2, y10, if_neg (by decide)]
      exact r4
