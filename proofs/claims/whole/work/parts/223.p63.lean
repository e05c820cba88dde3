/-! WRITING BOOTS -/
def wBoot (Y : pY) (g : Nat) : List Int32 := (dgV (Y 7 0 g) ++ [bsChr 7 (bsIx (Y 8 0 g))]) ++ (if Y 10 0 g = -1 then [114] else dgV (Y 10 0 g))
theorem sl7 : bsSl.getD 7 0 = 5 := rfl
theorem wBoot_len {Y : pY} {n t Q g : Nat} (hw : wm Q n t Y) (ht : t ≤ 9999) (hg : g < 12) : 1 ≤ (wBoot Y g).length ∧ (wBoot Y g).length ≤ 9 := by
  obtain ⟨⟨a, _, a1, a2⟩, _, hr⟩ := hw.log g hg
  have d1 := dig_len a
  unfold wBoot
  rw [a2, dgV_n (by omega)]
  rcases hr with e | ⟨r, _, r1, r2⟩
  · rw [if_pos e]; simp only [List.length_append, List.length_cons, List.length_nil]; omega
  · have d2 := dig_len r
    rw [r2, if_neg (pu_m1 r (by omega)), dgV_n (by omega)]; simp only [List.length_append, List.length_cons, List.length_nil]; omega
theorem boot_c {X : bsX} {n t Q g : Nat} {L : List Int32} (hw : wm Q n t (X 0)) (ht : t ≤ 9999) (hg : g < 12) (hL : L.length + 10 ≤ 400) : fX8_writeBoot (nI g) (txC X L) = some (txC X (L ++ wBoot (X 0) g)) := by
  obtain ⟨⟨a, _, a1, a2⟩, ⟨c, _, c1, c2⟩, hr⟩ := hw.log g hg
  have d1 := dig_len a
  have g0 : ∀ M, txC X M 0 = X 0 := fun M => txC_g _ _ (by decide)
  have x12 : bsIx (nI g) = g := pu_ix g (by omega)
  have b12 : bsIn (nI g) 12 := (pu_in g 12 (by omega)).mpr hg
  have hc8 : vp_nar .byte (bsChr 7 c).toInt8.toInt32 = bsChr 7 c := by8_chr 7 (by decide) c (by rw [sl7]; omega)
  have hlen : bsLen 7 = nI 5 := rfl
  unfold fX8_writeBoot fX8_writeBoot_71 wBoot
  rw [if_neg (pu_neg g (by omega)), if_pos (show nI g < (12 : Int32) from (pu_lt g 12 (by decide) (by omega)).mpr hg), if_pos b12, x12, g0, a2, num_ok (by omega) (by omega), Option.bind_some, g0, c2, if_neg (pu_neg c (by omega)), hlen, if_neg (fun q => by have := (pu_le 5 c (by omega) (by decide)).mp q; omega), if_pos ((pu_in c _ (by omega)).mpr (by rw [sl7]; omega)), pu_ix c (by omega), put_ok hc8 (by simp only [List.length_append]; omega), Option.bind_some, if_pos b12, g0, dgV_n (by omega)]
  rcases hr with e | ⟨r, _, r1, r2⟩
  · rw [e, if_neg (by decide), if_pos rfl, put_ok b114 (by simp only [List.length_append, List.length_cons, List.length_nil]; omega), Option.bind_some]
    simp only [List.append_assoc]
  · rw [r2, if_pos (show (0 : Int32) ≤ nI r from (pu_le 0 r (by omega) (by decide)).mpr (Nat.zero_le _)), if_neg (pu_m1 r (by omega)), num_ok (by omega) (by simp only [List.length_append, List.length_cons, List.length_nil]; omega), Option.bind_some, dgV_n (by omega)]
    simp only [List.append_assoc]
theorem boot_r {W : bsX} {Y : pY} {n t Q T r f : Nat} {L : List Int32} (hw : wm Q n t Y) (ht : t ≤ 9999) (hW : W 14 1 0 = enc Y) (eT : Y 3 0 4 = nI T) (hT : T < 1000000) (hr : r < min T 12) (hL : L.length + 10 ≤ 400) :
    fX9_writeBoots_44 (fX9_writeBoots_16 f) (nI r) ((29 : Int32) + ((4 : Int32) * nI r)) (txR W L) = fX9_writeBoots_16 f (nI (r + 1)) (txR W (L ++ wBoot Y ((T - min T 12 + r) % 12))) := by
  have hg : (T - min T 12 + r) % 12 < 12 := by omega
  have e1 := enc_log (Y := Y) (w := 0) eT hT hr (by decide)
  have e2 := enc_log (Y := Y) (w := 1) eT hT hr (by decide)
  have e3 := enc_log (Y := Y) (w := 3) eT hT hr (by decide)
  generalize (T - min T 12 + r) % 12 = g at *
  obtain ⟨⟨a, _, a1, a2⟩, ⟨c, _, c1, c2⟩, hr'⟩ := hw.log g hg
  have d1 := dig_len a
  have hadr : (29 : Int32) + (4 : Int32) * nI r = nI (29 + 4 * r + 0) := by
    rw [show (4 : Int32) = nI 4 from rfl, pu_mul, show (29 : Int32) = nI 29 from rfl, pu_add]; rfl
  have h1 : nI (29 + 4 * r + 0) + (1 : Int32) = nI (29 + 4 * r + 1) := pu_succ _
  have h3 : nI (29 + 4 * r + 0) + (3 : Int32) = nI (29 + 4 * r + 3) := pu_add _ 3
  have row : ∀ (M : List Int32) i, txR W M 14 1 0 i = enc Y i := by intro M i; rw [txR_1, hW]
  have hc8 : bsIn (nI c) (bsSl.getD 7 0) := (pu_in c _ (by omega)).mpr (by rw [sl7]; omega)
  unfold fX9_writeBoots_44 fX9_writeBoots_105 wBoot
  rw [hadr, h1, h3, if_pos ((pu_in _ 160 (by omega)).mpr (by omega)), pu_ix _ (by omega), row, e1, show Y (7 + 0) 0 g = nI a from a2, sayNum_ok (by omega) (by omega), Option.bind_some, if_pos ((pu_in _ 160 (by omega)).mpr (by omega)), pu_ix _ (by omega), row, e2, show Y (7 + 1) 0 g = nI c from c2, if_pos hc8, pu_ix c (by omega), says_ok (by simp only [List.length_append]; omega), Option.bind_some, if_pos ((pu_in _ 160 (by omega)).mpr (by omega)), pu_ix _ (by omega), row, e3, dgV_n (by omega)]
  rcases hr' with e | ⟨q, _, q1, q2⟩
  · rw [show Y (7 + 3) 0 g = -1 from e, if_pos rfl, if_pos rfl, says_ok (by simp only [List.length_append, List.length_cons, List.length_nil]; omega), Option.bind_some, pu_succ]
    simp only [List.append_assoc]
  · rw [show Y (7 + 3) 0 g = nI q from q2, if_neg (pu_m1 q (by omega)), if_neg (pu_m1 q (by omega)), sayNum_ok (by omega) (by simp only [List.length_append, List.length_cons, List.length_nil]; omega), Option.bind_some, pu_succ, dgV_n (by omega)]
    simp only [List.append_assoc]
theorem sim_writeBoots_ok : sim_writeBoots Inv := by
  intro j X hj h
  have c10 : ¬ (1 : Int32) = 0 := by decide
  refine tellT (gg := fun B => fX9_writeBoots_16 bsF (0 : Int32) (bsWr B 14 0 0 20 (0 : Int32))) h ?_ ?_ ?_ ?_
  · intro e; unfold fX8_writeBoots; rw [e]; rfl
  · intro e; unfold fX9_writeBoots; rw [e, Option.bind_some, if_neg c10]
  · intro W e; unfold fX9_writeBoots; rw [e, Option.bind_some, if_pos rfl]
  · intro n t Q e1 hw ht hQ
    obtain ⟨T, _, hT, eT⟩ := hw.tot
    have g0 : ∀ M, txC X M 0 = X 0 := fun M => txC_g _ _ (by decide)
    have hkept : ∀ M, fX0_kept 0 (txC X M) = some (nI (min T 12), txC X M) := by intro M; unfold fX0_kept; rw [g0, eT, pu_min12 (by omega)]
    generalize hit : (fun r => wBoot (X 0) ((T - min T 12 + r) % 12)) = it
    have iti : ∀ r, it r = wBoot (X 0) ((T - min T 12 + r) % 12) := by intro r; rw [← hit]
    have itl : ∀ r, 1 ≤ (it r).length ∧ (it r).length ≤ 9 := by intro r; rw [iti]; exact wBoot_len hw ht (by omega)
    have hb : ∀ k, (jn it k).length ≤ 10 * k := fun k => jn_len k (fun i _ => (itl i).2)
    have hrow : ∀ r, r < min T 12 → ∀ M, fX0_rowOf 0 (nI (min T 12 - 1 - r)) (txC X M) = some (nI ((T - min T 12 + r) % 12), txC X M) := by
      intro r hr M
      have hs2 : nI T - (1 : Int32) - nI (min T 12 - 1 - r) = nI (T - min T 12 + r) := by
        rw [show (1 : Int32) = nI 1 from rfl, pu_sub _ _ (by omega), pu_sub _ _ (by omega)]
        congr 1; omega
      unfold fX0_rowOf
      rw [if_neg (pu_neg _ (by omega)), hkept, Option.bind_some, if_pos ((pu_lt _ (min T 12) (by omega) (by omega)).mpr (by omega))]
      dsimp only
      rw [g0, eT, hs2, pu_mod _ (by omega)]
    have hcls : ∀ d r f, r + d + 1 = min T 12 → d + 1 < f → fX8_writeBoots_26 f (nI (min T 12)) (nI (min T 12 - 1 - r)) (txC X (jn it r ++ (if r = 0 then [] else [32]))) = some (0, nI (jn it (min T 12)).length, txC X (jn it (min T 12))) := by
      intro d
      induction d with
      | zero =>
        intro r f hr hf
        obtain ⟨f, rfl⟩ : ∃ z, f = z + 1 + 1 := ⟨f - 2, by omega⟩
        have hbr := hb r
        have hl : (jn it r ++ (if r = 0 then [] else [32])).length ≤ 10 * r + 1 := by
          by_cases e : r = 0
          · rw [if_pos e]; simp only [List.length_append, List.length_nil]; omega
          · rw [if_neg e]; simp only [List.length_append, List.length_cons, List.length_nil]; omega
        have z0 : min T 12 - 1 - r = 0 := by omega
        have zr : r + 1 = min T 12 := by omega
        have hm1 : (0 : Int32) + (-1 : Int32) = -1 := by decide
        rw [fX8_writeBoots_26, if_neg (pu_neg _ (by omega)), hrow r (by omega), Option.bind_some, boot_c hw ht (by omega) (by omega), Option.bind_some, z0, if_pos (show nI 0 ≤ (0 : Int32) by decide)]
        unfold fX8_writeBoots_58
        rw [show nI 0 + (-1 : Int32) = -1 from hm1, fX8_writeBoots_26, if_pos (show (-1 : Int32) < 0 by decide), if_neg (show ¬ nI (min T 12) = 0 from fun q => by have := (pu_eq (min T 12) 0 (by decide) (by omega)).mp q; omega), txC_len, ← zr, jn, iti, ← zr]
      | succ d ih =>
        intro r f hr hf
        obtain ⟨f, rfl⟩ : ∃ z, f = z + 1 := ⟨f - 1, by omega⟩
        have hbr := hb r
        have itr := itl r
        have hl : (jn it r ++ (if r = 0 then [] else [32])).length ≤ 10 * r + 1 := by
          by_cases e : r = 0
          · rw [if_pos e]; simp only [List.length_append, List.length_nil]; omega
          · rw [if_neg e]; simp only [List.length_append, List.length_cons, List.length_nil]; omega
        have hx : nI (min T 12 - 1 - r) + (-1 : Int32) = nI (min T 12 - 1 - (r + 1)) := by
          have : nI (min T 12 - 1 - r) - (1 : Int32) = nI (min T 12 - 1 - r - 1) := by rw [show (1 : Int32) = nI 1 from rfl, pu_sub _ _ (by omega)]
          rw [show nI (min T 12 - 1 - r) + (-1 : Int32) = nI (min T 12 - 1 - r) - (1 : Int32) by rw [Int32.sub_eq_add_neg], this]
          congr 1
        have hJ : (jn it r ++ (if r = 0 then [] else [32])) ++ wBoot (X 0) ((T - min T 12 + r) % 12) = jn it (r + 1) := by rw [jn, iti]
        have hJl : (jn it (r + 1)).length ≤ 10 * (r + 1) := hb (r + 1)
        rw [fX8_writeBoots_26, if_neg (pu_neg _ (by omega)), hrow r (by omega), Option.bind_some, boot_c hw ht (by omega) (by omega), Option.bind_some, if_neg (show ¬ nI (min T 12 - 1 - r) ≤ (0 : Int32) from fun q => by have := (pu_le _ 0 (by decide) (by omega)).mp q; omega), hJ, put_ok b32 (by omega), Option.bind_some]
        unfold fX8_writeBoots_58
        rw [hx]
        have := ih (r + 1) f (by omega) (by omega)
        rw [if_neg (Nat.succ_ne_zero r)] at this
        exact this
    have href : ∀ B : bsX, B 14 1 0 = enc (X 0) → ∀ d r f, r + d = min T 12 → d < f → 0 < min T 12 → fX9_writeBoots_16 f (nI r) (txR B (jn it r)) = some (nI (jn it (min T 12)).length, txR B (jn it (min T 12))) := by
      intro B hB d
      have r28 : ∀ M, txR B M 14 1 0 28 = nI (min T 12) := by
        intro M; rw [txR_1, hB]
        show bsMin (X 0 3 0 4) 12 = _
        rw [eT, pu_min12 (by omega)]
      induction d with
      | zero =>
        intro r f hr hf h0
        obtain ⟨f, rfl⟩ : ∃ z, f = z + 1 := ⟨f - 1, by omega⟩
        obtain rfl : r = min T 12 := by omega
        have hne : (jn it (min T 12)).length ≠ 0 := by
          obtain ⟨m, hm⟩ : ∃ m, min T 12 = m + 1 := ⟨min T 12 - 1, by omega⟩
          rw [hm, jn]
          have := (itl m).1
          simp only [List.length_append]
          omega
        have hbl := hb (min T 12)
        rw [fX9_writeBoots_16, if_pos (show bsIn (28 : Int32) 160 by decide), bx_28, r28, if_pos (Int32.le_refl _), txR_len, if_neg (show ¬ nI (jn it (min T 12)).length = 0 from fun q => hne ((pu_eq _ 0 (by decide) (by omega)).mp q))]
      | succ d ih =>
        intro r f hr hf h0
        obtain ⟨f, rfl⟩ : ∃ z, f = z + 1 := ⟨f - 1, by omega⟩
        have hbr := hb r
        rw [fX9_writeBoots_16, if_pos (show bsIn (28 : Int32) 160 by decide), bx_28, r28, if_neg (fun q => by have := (pu_le (min T 12) r (by omega) (by omega)).mp q; omega)]
        by_cases k0 : r = 0
        · rw [if_pos (show nI r ≤ (0 : Int32) from (pu_le r 0 (by decide) (by omega)).mpr (by omega)), boot_r hw ht hB eT (by omega) (by omega) (by omega)]
          have hJ : jn it r ++ wBoot (X 0) ((T - min T 12 + r) % 12) = jn it (r + 1) := by rw [jn, iti, if_pos k0, List.append_nil]
          rw [hJ]
          exact ih (r + 1) f (by omega) (by omega) h0
        · rw [if_neg (show ¬ nI r ≤ (0 : Int32) from fun q => by have := (pu_le r 0 (by decide) (by omega)).mp q; omega), says_ok (by omega), Option.bind_some, boot_r hw ht hB eT (by omega) (by omega) (by simp only [List.length_append, List.length_cons, List.length_nil]; omega)]
          have hJ : (jn it r ++ [32]) ++ wBoot (X 0) ((T - min T 12 + r) % 12) = jn it (r + 1) := by rw [jn, iti, if_neg k0]
          rw [hJ]
          exact ih (r + 1) f (by omega) (by omega) h0
    have hclr : fX8_writeBoots X = fX8_writeBoots_26 bsF (nI (min T 12)) (nI (min T 12) - 1) (txC X []) := by
      unfold fX8_writeBoots fX7_clear
      rw [e1, Option.bind_some, if_pos rfl, Option.bind_some, txC_nil, hkept, Option.bind_some]
    obtain ⟨f2, hf2⟩ := bsF_5
    by_cases hK : min T 12 = 0
    · refine ⟨[45], by decide, ?_, ?_⟩
      · rw [hclr, hK, hf2, show nI 0 - (1 : Int32) = -1 by decide, fX8_writeBoots_26, if_pos (show (-1 : Int32) < 0 by decide), if_pos (show nI 0 = (0 : Int32) from rfl), put_ok b45 (by decide), Option.bind_some, txC_len]
        rfl
      · intro B hB
        show fX9_writeBoots_16 bsF (0 : Int32) (bsWr B 14 0 0 20 (0 : Int32)) = _
        have r28 : ∀ M, txR B M 14 1 0 28 = nI 0 := by
          intro M; rw [txR_1, hB]
          show bsMin (X 0 3 0 4) 12 = _
          rw [eT, pu_min12 (by omega), hK]
        rw [txR_nil, hf2, fX9_writeBoots_16, if_pos (show bsIn (28 : Int32) 160 by decide), bx_28, r28, if_pos (show nI 0 ≤ (0 : Int32) by decide), txR_len, if_pos (show nI ([] : List Int32).length = 0 from rfl), says_ok (by decide), Option.bind_some, txR_len]
        rfl
    · have hbn := hb (min T 12)
      have hs1 : nI (min T 12) - (1 : Int32) = nI (min T 12 - 1 - 0) := by rw [show (1 : Int32) = nI 1 from rfl, pu_sub _ _ (by omega)]; rfl
      refine ⟨jn it (min T 12), by omega, ?_, ?_⟩
      · rw [hclr, hs1]
        have := hcls (min T 12 - 1) 0 bsF (by omega) (by unfold bsF; omega)
        exact this
      · intro B hB
        show fX9_writeBoots_16 bsF (0 : Int32) (bsWr B 14 0 0 20 (0 : Int32)) = _
        rw [txR_nil]
        exact href B hB (min T 12) 0 bsF (by omega) (by unfold bsF; omega) (by omega)
