/-! WRITING THE MACHINE -/
def fld (n : Nat) : List Int32 := [32] ++ dig n
theorem fld_2 {n : Nat} (h : n ≤ 99) : (fld n).length ≤ 3 := by
  have := dig_small h
  unfold fld
  simp only [List.length_append, List.length_cons, List.length_nil]; omega
theorem fld_1 {n : Nat} (h : n ≤ 9) : (fld n).length ≤ 2 := by
  have := dig_1 h
  unfold fld
  simp only [List.length_append, List.length_cons, List.length_nil]; omega
theorem fld_c {X : bsX} {L : List Int32} {n : Nat} (hn : n ≤ 9999) (hL : L.length + 5 ≤ 400) : fX7_putBlankAndNumber (nI n) (txC X L) = some (txC X (L ++ fld n)) := by
  unfold fX7_putBlankAndNumber fld
  rw [put_ok b32 (by omega), Option.bind_some, num_ok hn (by simp only [List.length_append, List.length_cons, List.length_nil]; omega), Option.bind_some]
  simp only [List.append_assoc]
theorem fld_r {X : bsX} {L : List Int32} {n : Nat} (hn : n ≤ 9999) (hL : L.length + 5 ≤ 400) : fX9_saysField (nI n) (txR X L) = some (txR X (L ++ fld n)) := by
  unfold fX9_saysField fld
  rw [says_ok (by omega), Option.bind_some, sayNum_ok hn (by simp only [List.length_append, List.length_cons, List.length_nil]; omega), Option.bind_some]
  simp only [List.append_assoc]
def fldV (v : Int32) : List Int32 := fld (bsIx v)
theorem fldV_n {n : Nat} (h : n < 2147483648) : fldV (nI n) = fld n := by unfold fldV; rw [pu_ix n h]
def wImg (Y : pY) (k : Nat) : List Int32 := (((((wrd 9 ++ fld k) ++ fldV (Y 6 k 1)) ++ fldV (Y 6 k 2)) ++ fldV (Y 6 k 3)) ++ (if Y 6 k 4 = 0 then [] else wrd 10)) ++ (if Y 6 k 5 = 0 then [] else wrd 11)
def wMrk (Y : pY) (k : Nat) : List Int32 := (((wrd 12 ++ fld k) ++ fldV (Y 5 k 2)) ++ fldV (Y 5 k 3)) ++ (if Y 5 k 4 = 0 then [] else wrd 13)
def wLine (Y : pY) (k : Nat) : List Int32 := if Y 6 k 0 = 0 then [] else wImg Y k ++ wMrk Y k
theorem ite_len {p : Prop} [Decidable p] {L : List Int32} : (if p then [] else L).length ≤ L.length := by
  by_cases h : p
  · rw [if_pos h]; exact Nat.zero_le _
  · rw [if_neg h]; exact Nat.le_refl _
theorem w9 : (wrd 9).length = 6 := wrd_len 9
theorem w10 : (wrd 10).length = 9 := wrd_len 10
theorem w11 : (wrd 11).length = 8 := wrd_len 11
theorem w12 : (wrd 12).length = 5 := wrd_len 12
theorem w13 : (wrd 13).length = 5 := wrd_len 13
theorem w8 : (wrd 8).length = 5 := wrd_len 8
theorem w0 : (wrd 0).length = 7 := wrd_len 0
theorem wLine_len {Y : pY} {k : Nat} (hk : k < 6) (hs : wS Y k) : (wLine Y k).length ≤ 52 := by
  obtain ⟨v, _, v1, v2⟩ := hs.2.2.2.2.2.2.1
  obtain ⟨s, _, s1, s2⟩ := hs.2.2.2.2.2.2.2.1
  obtain ⟨c, _, c1, c2⟩ := hs.2.2.2.2.2.2.2.2.1
  obtain ⟨p, _, p1, p2⟩ := hs.2.2.2.2.1
  obtain ⟨r, _, r1, r2⟩ := hs.2.2.2.2.2.1
  have a1 := fld_2 v1
  have a2 := fld_2 s1
  have a3 := fld_2 c1
  have a4 := fld_2 (show p ≤ 99 by omega)
  have a5 := fld_2 (show r ≤ 99 by omega)
  have a6 := fld_1 (show k ≤ 9 by omega)
  have i1 := ite_len (p := Y 6 k 4 = 0) (L := wrd 10)
  have i2 := ite_len (p := Y 6 k 5 = 0) (L := wrd 11)
  have i3 := ite_len (p := Y 5 k 4 = 0) (L := wrd 13)
  have e9 := w9
  have e10 := w10
  have e11 := w11
  have e12 := w12
  have e13 := w13
  unfold wLine
  by_cases h0 : Y 6 k 0 = 0
  · rw [if_pos h0]; exact Nat.zero_le _
  · rw [if_neg h0]
    unfold wImg wMrk
    rw [v2, s2, c2, p2, r2, fldV_n (by omega), fldV_n (by omega), fldV_n (by omega), fldV_n (by omega), fldV_n (by omega)]
    simp only [List.length_append]
    omega
theorem img_c {X : bsX} {k : Nat} {L : List Int32} (hk : k < 6) (hs : wS (X 0) k) (hL : L.length + 60 ≤ 400) : fX8_writeImageLine k (txC X L) = some (txC X (L ++ wImg (X 0) k)) := by
  obtain ⟨v, _, v1, v2⟩ := hs.2.2.2.2.2.2.1
  obtain ⟨s, _, s1, s2⟩ := hs.2.2.2.2.2.2.2.1
  obtain ⟨c, _, c1, c2⟩ := hs.2.2.2.2.2.2.2.2.1
  have a1 := fld_2 v1
  have a2 := fld_2 s1
  have a3 := fld_2 c1
  have a6 := fld_1 (show k ≤ 9 by omega)
  have e9 := w9
  have e10 := w10
  have g0 : ∀ M, txC X M 0 = X 0 := fun M => txC_g _ _ (by decide)
  have fin : ∀ M : List Int32, M.length + 9 ≤ 400 → fX8_writeImageLine_83 k (txC X M) = some (txC X (M ++ (if X 0 6 k 5 = 0 then [] else wrd 11))) := by
    intro M hM
    unfold fX8_writeImageLine_83
    rw [g0]
    by_cases h : X 0 6 k 5 = 0
    · rw [if_pos h, if_pos h, List.append_nil]
    · rw [if_neg h, if_neg h, word_ok (by decide) hM, Option.bind_some]
  unfold fX8_writeImageLine wImg
  rw [word_ok (by decide) (by omega), Option.bind_some, fld_c (by omega) (by simp only [List.length_append]; omega), Option.bind_some, g0, v2, fld_c (by omega) (by simp only [List.length_append]; omega), Option.bind_some, g0, s2, fld_c (by omega) (by simp only [List.length_append]; omega), Option.bind_some, g0, c2, fld_c (by omega) (by simp only [List.length_append]; omega), Option.bind_some, g0, fldV_n (by omega), fldV_n (by omega), fldV_n (by omega)]
  by_cases h : X 0 6 k 4 = 0
  · rw [if_pos h, if_pos h, fin _ (by simp only [List.length_append]; omega)]
    simp only [List.append_assoc, List.nil_append, List.append_nil]
  · rw [if_neg h, if_neg h, word_ok (by decide) (by simp only [List.length_append]; omega), Option.bind_some, fin _ (by simp only [List.length_append]; omega)]
    simp only [List.append_assoc]
theorem mrk_c {X : bsX} {k : Nat} {L : List Int32} (hk : k < 6) (hs : wS (X 0) k) (hL : L.length + 30 ≤ 400) : fX8_writeMarkLine k (txC X L) = some (txC X (L ++ wMrk (X 0) k)) := by
  obtain ⟨p, _, p1, p2⟩ := hs.2.2.2.2.1
  obtain ⟨r, _, r1, r2⟩ := hs.2.2.2.2.2.1
  have a4 := fld_2 (show p ≤ 99 by omega)
  have a5 := fld_2 (show r ≤ 99 by omega)
  have a6 := fld_1 (show k ≤ 9 by omega)
  have e12 := w12
  have g0 : ∀ M, txC X M 0 = X 0 := fun M => txC_g _ _ (by decide)
  unfold fX8_writeMarkLine wMrk
  rw [word_ok (by decide) (by omega), Option.bind_some, fld_c (by omega) (by simp only [List.length_append]; omega), Option.bind_some, g0, p2, fld_c (by omega) (by simp only [List.length_append]; omega), Option.bind_some, g0, r2, fld_c (by omega) (by simp only [List.length_append]; omega), Option.bind_some, g0, fldV_n (by omega), fldV_n (by omega)]
  by_cases h : X 0 5 k 4 = 0
  · rw [if_pos h, if_pos h]
    simp only [List.append_assoc, List.append_nil]
  · rw [if_neg h, if_neg h, word_ok (by decide) (by simp only [List.length_append]; omega), Option.bind_some]
    simp only [List.append_assoc]
theorem line_r {W : bsX} {Y : pY} {n t Q k : Nat} {L : List Int32} (hw : wm Q n t Y) (hW : W 14 1 0 = enc Y) (hk : k < 6) (hL : L.length + 70 ≤ 400) : fX9_saysImage (nI k) (txR W L) = some (txR W (L ++ (wImg Y k ++ wMrk Y k))) := by
  have hs := hw.sl k hk
  have c10 : ¬ (1 : Int32) = 0 := by decide
  obtain ⟨v, _, v1, v2⟩ := hs.2.2.2.2.2.2.1
  obtain ⟨s, _, s1, s2⟩ := hs.2.2.2.2.2.2.2.1
  obtain ⟨c, _, c1, c2⟩ := hs.2.2.2.2.2.2.2.2.1
  obtain ⟨p, _, p1, p2⟩ := hs.2.2.2.2.1
  obtain ⟨r, _, r1, r2⟩ := hs.2.2.2.2.2.1
  have a1 := fld_2 v1
  have a2 := fld_2 s1
  have a3 := fld_2 c1
  have a4 := fld_2 (show p ≤ 99 by omega)
  have a5 := fld_2 (show r ≤ 99 by omega)
  have a6 := fld_1 (show k ≤ 9 by omega)
  have e9 := w9
  have e10 := w10
  have e11 := w11
  have e12 := w12
  have h8 : ∀ M, fX9_of (nI k) (8 : Int32) (txR W M) = some (nI v, txR W M) := by
    intro M
    have : fX9_of (nI k) (8 : Int32) (ro (txR W M) (enc Y)) = some (Y 6 k 1, ro (txR W M) (enc Y)) := q9_of8 hk _ _ _ _ _
    rw [← txro hW, v2] at this; exact this
  have h9 : ∀ M, fX9_of (nI k) (9 : Int32) (txR W M) = some (nI s, txR W M) := by
    intro M
    have : fX9_of (nI k) (9 : Int32) (ro (txR W M) (enc Y)) = some (Y 6 k 2, ro (txR W M) (enc Y)) := q9_of9 hk _ _ _ _ _
    rw [← txro hW, s2] at this; exact this
  have h10 : ∀ M, fX9_of (nI k) (10 : Int32) (txR W M) = some (nI c, txR W M) := by
    intro M
    have : fX9_of (nI k) (10 : Int32) (ro (txR W M) (enc Y)) = some (Y 6 k 3, ro (txR W M) (enc Y)) := q9_of10 hk _ _ _ _ _
    rw [← txro hW, c2] at this; exact this
  have h11 : ∀ M, fX9_of (nI k) (11 : Int32) (txR W M) = some (Y 6 k 4, txR W M) := by
    intro M
    have : fX9_of (nI k) (11 : Int32) (ro (txR W M) (enc Y)) = some (Y 6 k 4, ro (txR W M) (enc Y)) := q9_of11 hk _ _ _ _ _
    rw [← txro hW] at this; exact this
  have h12 : ∀ M, fX9_of (nI k) (12 : Int32) (txR W M) = some (Y 6 k 5, txR W M) := by
    intro M
    have : fX9_of (nI k) (12 : Int32) (ro (txR W M) (enc Y)) = some (Y 6 k 5, ro (txR W M) (enc Y)) := q9_of12 hk _ _ _ _ _
    rw [← txro hW] at this; exact this
  have h1' : ∀ M, fX9_of (nI k) (1 : Int32) (txR W M) = some (nI p, txR W M) := by
    intro M
    have : fX9_of (nI k) (1 : Int32) (ro (txR W M) (enc Y)) = some (Y 5 k 2, ro (txR W M) (enc Y)) := q9_of1 hk _ _ _ _ _
    rw [← txro hW, p2] at this; exact this
  have h2' : ∀ M, fX9_of (nI k) (2 : Int32) (txR W M) = some (nI r, txR W M) := by
    intro M
    have : fX9_of (nI k) (2 : Int32) (ro (txR W M) (enc Y)) = some (Y 5 k 3, ro (txR W M) (enc Y)) := q9_of2 hk _ _ _ _ _
    rw [← txro hW, r2] at this; exact this
  have hg : ∀ M, fX9_isGood (nI k) (txR W M) = some (b2 (decide (Y 5 k 4 ≠ 0)), txR W M) := by
    intro M
    have : fX9_isGood (nI k) (ro (txR W M) (enc Y)) = some (b2 (decide (Y 5 k 4 ≠ 0)), ro (txR W M) (enc Y)) := q9_good hk hs.2.2.2.1
    rw [← txro hW] at this; exact this
  have o4 : ∀ x : Int32, is01 x → (x = 1 ↔ ¬ x = 0) := by
    intro x hx
    rcases hx with rfl | rfl
    · decide
    · decide
  have mk : ∀ M : List Int32, M.length + 30 ≤ 400 → fX9_saysImage_81 (nI k) (txR W M) = some (txR W (M ++ wMrk Y k)) := by
    intro M hM
    unfold fX9_saysImage_81 wMrk
    rw [sayWord_ok (by omega), Option.bind_some, fld_r (by omega) (by simp only [List.length_append]; omega), Option.bind_some, h1', Option.bind_some, fld_r (by omega) (by simp only [List.length_append]; omega), Option.bind_some, h2', Option.bind_some, fld_r (by omega) (by simp only [List.length_append]; omega), Option.bind_some, hg, Option.bind_some, p2, r2, fldV_n (by omega), fldV_n (by omega)]
    by_cases h : Y 5 k 4 = 0
    · rw [decide_eq_false (fun q => q h), b2_f, if_pos rfl, if_pos h]
      simp only [List.append_assoc, List.append_nil]
    · rw [decide_eq_true (show Y 5 k 4 ≠ 0 from h), b2_t, if_neg c10, if_neg h, sayWord_ok (by simp only [List.length_append]; omega), Option.bind_some]
      simp only [List.append_assoc]
  have dm : ∀ M : List Int32, M.length + 40 ≤ 400 → fX9_saysImage_63 (nI k) (txR W M) = some (txR W (M ++ ((if Y 6 k 5 = 0 then [] else wrd 11) ++ wMrk Y k))) := by
    intro M hM
    unfold fX9_saysImage_63
    rw [h12, Option.bind_some]
    by_cases h : Y 6 k 5 = 0
    · rw [if_neg (fun q => (o4 _ hs.2.2.1).mp q h), if_pos h, mk M (by omega), List.nil_append]
    · rw [if_pos ((o4 _ hs.2.2.1).mpr h), if_neg h, sayWord_ok (by omega), Option.bind_some, mk _ (by simp only [List.length_append]; omega)]
      simp only [List.append_assoc]
  unfold fX9_saysImage wImg
  rw [sayWord_ok (by omega), Option.bind_some, fld_r (by omega) (by simp only [List.length_append]; omega), Option.bind_some, h8, Option.bind_some, fld_r (by omega) (by simp only [List.length_append]; omega), Option.bind_some, h9, Option.bind_some, fld_r (by omega) (by simp only [List.length_append]; omega), Option.bind_some, h10, Option.bind_some, fld_r (by omega) (by simp only [List.length_append]; omega), Option.bind_some, h11, Option.bind_some, v2, s2, c2, fldV_n (by omega), fldV_n (by omega), fldV_n (by omega)]
  by_cases h : Y 6 k 4 = 0
  · rw [if_neg (fun q => (o4 _ hs.2.1).mp q h), if_pos h, dm _ (by simp only [List.length_append]; omega)]
    simp only [List.append_assoc, List.nil_append, List.append_nil]
  · rw [if_pos ((o4 _ hs.2.1).mpr h), if_neg h, sayWord_ok (by simp only [List.length_append]; omega), Option.bind_some, dm _ (by simp only [List.length_append]; omega)]
    simp only [List.append_assoc]
/-- items one behind another -/
def ln (it : Nat → List Int32) (L : List Int32) : Nat → List Int32
  | 0 => L
  | k + 1 => ln it L k ++ it k
theorem ln_len {it : Nat → List Int32} {L : List Int32} {b : Nat} : ∀ k, (∀ i, i < k → (it i).length ≤ b) → (ln it L k).length ≤ L.length + b * k := by
  intro k
  induction k with
  | zero => intro _; exact Nat.le_refl _
  | succ k ih =>
    intro h
    have h1 := ih (fun i hi => h i (by omega))
    have h2 := h k (by omega)
    rw [Nat.mul_succ]
    simp only [ln, List.length_append]
    omega
theorem ln_cut {it : Nat → List Int32} {L : List Int32} {n : Nat} : ∀ d, (∀ i, n ≤ i → i < n + d → it i = []) → ln it L (n + d) = ln it L n := by
  intro d
  induction d with
  | zero => intro _; rfl
  | succ d ih =>
    intro h
    rw [Nat.add_succ, ln, h (n + d) (by omega) (by omega), List.append_nil]
    exact ih (fun i a b => h i a (by omega))
theorem sim_writeMachine_ok : sim_writeMachine Inv := by
  intro j X hj h
  have c10 : ¬ (1 : Int32) = 0 := by decide
  refine tellT (gg := fun B => (fX9_saysWord 0 (bsWr B 14 0 0 20 (0 : Int32))).bind fun r18 => fX9_writeMachine_22 bsF (2 : Int32) r18) h ?_ ?_ ?_ ?_
  · intro e; unfold fX8_writeMachine; rw [e]; rfl
  · intro e; unfold fX9_writeMachine; rw [e, Option.bind_some, if_neg c10]
  · intro W e; unfold fX9_writeMachine; rw [e, Option.bind_some, if_pos rfl]
  · intro n t Q e1 hw ht hQ
    have h6 := hw.hn
    have hsz : X 0 0 0 4 = nI n := hw.sz
    have g0 : ∀ M, txC X M 0 = X 0 := fun M => txC_g _ _ (by decide)
    obtain ⟨w, _, w1, w2⟩ := hw.wat
    obtain ⟨l, _, l1, l2⟩ := hw.lim
    obtain ⟨e, _, r1, r2⟩ := hw.ret
    obtain ⟨o, _, o1, o2⟩ := hw.flo
    have aw := fld_2 w1
    have al := fld_2 (show l ≤ 99 by omega)
    have ae := fld_2 (show e ≤ 99 by omega)
    have ao := fld_2 o1
    have z0 := w0
    have z8 := w8
    generalize hT1 : (((wrd 0 ++ fld w) ++ fld l) ++ fld e) ++ fld o = T1
    have t1 : T1.length ≤ 19 := by rw [← hT1]; simp only [List.length_append]; omega
    have hR : ∀ k, (ln (fun _ => wrd 8) T1 k).length ≤ T1.length + 5 * k := fun k => ln_len k (fun i _ => by rw [z8]; exact Nat.le_refl 5)
    generalize hT2 : ln (fun _ => wrd 8) T1 n = T2
    have t2 : T2.length ≤ 49 := by rw [← hT2]; have := hR n; omega
    have hlb : ∀ k, k ≤ 6 → (ln (wLine (X 0)) T2 k).length ≤ T2.length + 52 * k := fun k hk => ln_len k (fun i hi => wLine_len (by omega) (hw.sl i (by omega)))
    have hlb6 := hlb 6 (Nat.le_refl 6)
    have hcut : ln (wLine (X 0)) T2 6 = ln (wLine (X 0)) T2 n := by
      have := ln_cut (it := wLine (X 0)) (L := T2) (n := n) (6 - n) (fun i a b => by unfold wLine; rw [if_pos (hw.hi i a (by omega)).1])
      rw [show n + (6 - n) = 6 by omega] at this
      exact this
    have cL : ∀ d k f, k + d = 6 → d < f → fX8_writeMachine_108 f (nI k) (txC X (ln (wLine (X 0)) T2 k)) = some (0, nI (ln (wLine (X 0)) T2 6).length, txC X (ln (wLine (X 0)) T2 6)) := by
      intro d
      induction d with
      | zero =>
        intro k f hk hf
        obtain ⟨f, rfl⟩ : ∃ z, f = z + 1 := ⟨f - 1, by omega⟩
        obtain rfl : k = 6 := by omega
        rw [fX8_writeMachine_108, if_pos (show (6 : Int32) ≤ nI 6 by decide), txC_len]
      | succ d ih =>
        intro k f hk hf
        obtain ⟨f, rfl⟩ : ∃ z, f = z + 1 := ⟨f - 1, by omega⟩
        have hk6 : k < 6 := by omega
        have hb := hlb k (by omega)
        have hs := hw.sl k hk6
        rw [fX8_writeMachine_108, if_neg (show ¬ (6 : Int32) ≤ nI k from fun q => by have := (pu_le 6 k (by omega) (by decide)).mp q; omega), if_pos ((pu_in k 6 (by omega)).mpr hk6), pu_ix k (by omega), g0]
        by_cases h0 : X 0 6 k 0 = 0
        · rw [if_pos h0]
          unfold fX8_writeMachine_158
          rw [pu_succ]
          have hJ : ln (wLine (X 0)) T2 k = ln (wLine (X 0)) T2 (k + 1) := by rw [ln, show wLine (X 0) k = [] from if_pos h0, List.append_nil]
          rw [hJ]
          exact ih (k + 1) f (by omega) (by omega)
        · have hl := wLine_len hk6 hs
          have hl2 : (wImg (X 0) k).length + (wMrk (X 0) k).length ≤ 52 := by
            unfold wLine at hl; rw [if_neg h0] at hl; simp only [List.length_append] at hl; exact hl
          have hi : (wImg (X 0) k).length ≤ 40 := by
            obtain ⟨v, _, v1, v2⟩ := hs.2.2.2.2.2.2.1
            obtain ⟨s, _, s1, s2⟩ := hs.2.2.2.2.2.2.2.1
            obtain ⟨c, _, c1, c2⟩ := hs.2.2.2.2.2.2.2.2.1
            have a1 := fld_2 v1
            have a2 := fld_2 s1
            have a3 := fld_2 c1
            have a6 := fld_1 (show k ≤ 9 by omega)
            have i1 := ite_len (p := X 0 6 k 4 = 0) (L := wrd 10)
            have i2 := ite_len (p := X 0 6 k 5 = 0) (L := wrd 11)
            have e9 := w9
            have e10 := w10
            have e11 := w11
            unfold wImg
            rw [v2, s2, c2, fldV_n (by omega), fldV_n (by omega), fldV_n (by omega)]
            simp only [List.length_append]
            omega
          rw [if_neg h0, img_c hk6 hs (by omega), Option.bind_some, mrk_c hk6 hs (by simp only [List.length_append]; omega), Option.bind_some]
          unfold fX8_writeMachine_158
          rw [pu_succ]
          have hJ : (ln (wLine (X 0)) T2 k ++ wImg (X 0) k) ++ wMrk (X 0) k = ln (wLine (X 0)) T2 (k + 1) := by rw [ln, show wLine (X 0) k = wImg (X 0) k ++ wMrk (X 0) k from if_neg h0, List.append_assoc]
          rw [hJ]
          exact ih (k + 1) f (by omega) (by omega)
    have cS : ∀ d k f, k + d = n → d < f → fX8_writeMachine_79 f (nI k) (txC X (ln (fun _ => wrd 8) T1 k)) = some (0, nI (ln (wLine (X 0)) T2 6).length, txC X (ln (wLine (X 0)) T2 6)) := by
      intro d
      induction d with
      | zero =>
        intro k f hk hf
        obtain ⟨f, rfl⟩ : ∃ z, f = z + 1 := ⟨f - 1, by omega⟩
        obtain rfl : k = n := by omega
        rw [fX8_writeMachine_79, g0, hsz, if_pos (Int32.le_refl _), hT2]
        exact cL 6 0 bsF (by omega) (by unfold bsF; omega)
      | succ d ih =>
        intro k f hk hf
        obtain ⟨f, rfl⟩ : ∃ z, f = z + 1 := ⟨f - 1, by omega⟩
        have hb := hR k
        rw [fX8_writeMachine_79, g0, hsz, if_neg (fun q => by have := (pu_le n k (by omega) (by omega)).mp q; omega), word_ok (by decide) (by omega), Option.bind_some, pu_succ]
        exact ih (k + 1) f (by omega) (by omega)
    have rL : ∀ B : bsX, B 14 1 0 = enc (X 0) → ∀ d k f, k + d = n → d < f → fX9_writeMachine_70 f (nI k) (txR B (ln (wLine (X 0)) T2 k)) = some (nI (ln (wLine (X 0)) T2 n).length, txR B (ln (wLine (X 0)) T2 n)) := by
      intro B hB d
      have rr : ∀ M, txR B M 14 1 0 0 = nI n := by intro M; rw [txR_1, hB]; exact hw.sz
      induction d with
      | zero =>
        intro k f hk hf
        obtain ⟨f, rfl⟩ : ∃ z, f = z + 1 := ⟨f - 1, by omega⟩
        obtain rfl : k = n := by omega
        rw [fX9_writeMachine_70, if_pos (show bsIn (0 : Int32) 160 by decide), bx_0, rr, if_pos (Int32.le_refl _), txR_len]
      | succ d ih =>
        intro k f hk hf
        obtain ⟨f, rfl⟩ : ∃ z, f = z + 1 := ⟨f - 1, by omega⟩
        have hk6 : k < 6 := by omega
        have hb := hlb k (by omega)
        have hs := hw.sl k hk6
        have hh : ∀ M, fX9_has (nI k) (txR B M) = some (b2 (decide (X 0 6 k 0 ≠ 0)), txR B M) := by
          intro M
          have : fX9_has (nI k) (ro (txR B M) (enc (X 0))) = some (b2 (decide (X 0 6 k 0 ≠ 0)), ro (txR B M) (enc (X 0))) := q9_has hk6 hs.1
          rw [← txro hB] at this; exact this
        rw [fX9_writeMachine_70, if_pos (show bsIn (0 : Int32) 160 by decide), bx_0, rr, if_neg (fun q => by have := (pu_le n k (by omega) (by omega)).mp q; omega), hh, Option.bind_some]
        by_cases h0 : X 0 6 k 0 = 0
        · rw [decide_eq_false (fun q => q h0), b2_f, if_pos rfl]
          unfold fX9_writeMachine_93
          rw [pu_succ]
          have hJ : ln (wLine (X 0)) T2 k = ln (wLine (X 0)) T2 (k + 1) := by rw [ln, show wLine (X 0) k = [] from if_pos h0, List.append_nil]
          rw [hJ]
          exact ih (k + 1) f (by omega) (by omega)
        · rw [decide_eq_true (show X 0 6 k 0 ≠ 0 from h0), b2_t, if_neg c10, line_r hw hB hk6 (by omega), Option.bind_some]
          unfold fX9_writeMachine_93
          rw [pu_succ]
          have hJ : ln (wLine (X 0)) T2 k ++ (wImg (X 0) k ++ wMrk (X 0) k) = ln (wLine (X 0)) T2 (k + 1) := by rw [ln, show wLine (X 0) k = wImg (X 0) k ++ wMrk (X 0) k from if_neg h0]
          rw [hJ]
          exact ih (k + 1) f (by omega) (by omega)
    have rS : ∀ B : bsX, B 14 1 0 = enc (X 0) → ∀ d k f, k + d = n → d < f → fX9_writeMachine_45 f (nI k) (txR B (ln (fun _ => wrd 8) T1 k)) = some (nI (ln (wLine (X 0)) T2 n).length, txR B (ln (wLine (X 0)) T2 n)) := by
      intro B hB d
      have rr : ∀ M, txR B M 14 1 0 0 = nI n := by intro M; rw [txR_1, hB]; exact hw.sz
      induction d with
      | zero =>
        intro k f hk hf
        obtain ⟨f, rfl⟩ : ∃ z, f = z + 1 := ⟨f - 1, by omega⟩
        obtain rfl : k = n := by omega
        rw [fX9_writeMachine_45, if_pos (show bsIn (0 : Int32) 160 by decide), bx_0, rr, if_pos (Int32.le_refl _), hT2]
        exact rL B hB k 0 bsF (by omega) (by unfold bsF; omega)
      | succ d ih =>
        intro k f hk hf
        obtain ⟨f, rfl⟩ : ∃ z, f = z + 1 := ⟨f - 1, by omega⟩
        have hb := hR k
        rw [fX9_writeMachine_45, if_pos (show bsIn (0 : Int32) 160 by decide), bx_0, rr, if_neg (fun q => by have := (pu_le n k (by omega) (by omega)).mp q; omega), sayWord_ok (by omega), Option.bind_some, pu_succ]
        exact ih (k + 1) f (by omega) (by omega)
    have rF : ∀ (B : bsX), B 14 1 0 = enc (X 0) → ∀ (m x f : Nat) (v : Int32) (M : List Int32), 2 ≤ m → m ≤ 5 → X 0 0 0 (m + 3) = nI x → x ≤ 99 → M.length + 5 ≤ 400 → fX9_writeMachine_22 (f + 1) (nI m) (txR B M) = fX9_writeMachine_22 f (nI (m + 1)) (txR B (M ++ fld x)) := by
      intro B hB m x f v M m2 m5 hx hx2 hM
      have hrd : txR B M 14 1 0 m = nI x := by
        rw [txR_1, hB, ← hx]
        have : m = 2 ∨ m = 3 ∨ m = 4 ∨ m = 5 := by omega
        rcases this with rfl | rfl | rfl | rfl <;> rfl
      rw [fX9_writeMachine_22, if_neg (show ¬ (5 : Int32) < nI m from fun q => by have := (pu_lt 5 m (by omega) (by decide)).mp q; omega), if_pos ((pu_in m 160 (by omega)).mpr (by omega)), pu_ix m (by omega), hrd, fld_r (by omega) hM, Option.bind_some, pu_succ]
    obtain ⟨f2, hf2⟩ := bsF_5
    refine ⟨ln (wLine (X 0)) T2 6, by omega, ?_, ?_⟩
    · unfold fX8_writeMachine fX7_clear
      rw [e1, Option.bind_some, if_pos rfl, Option.bind_some, txC_nil, word_ok (by decide) (by decide), Option.bind_some, g0, w2, fld_c (by omega) (by simp only [List.length_append, List.length_nil]; omega), Option.bind_some, g0, l2, fld_c (by omega) (by simp only [List.length_append, List.length_nil]; omega), Option.bind_some, g0, r2, fld_c (by omega) (by simp only [List.length_append, List.length_nil]; omega), Option.bind_some, g0, o2, fld_c (by omega) (by simp only [List.length_append, List.length_nil]; omega), Option.bind_some, List.nil_append, hT1]
      exact cS n 0 bsF (by omega) (by unfold bsF; omega)
    · intro B hB
      show ((fX9_saysWord 0 (bsWr B 14 0 0 20 (0 : Int32))).bind fun r18 => fX9_writeMachine_22 bsF (2 : Int32) r18) = _
      rw [txR_nil, sayWord_ok (by decide), Option.bind_some, List.nil_append, show (2 : Int32) = nI 2 from rfl, show fX9_writeMachine_22 bsF = fX9_writeMachine_22 (f2 + 5) by rw [hf2]]
      rw [rF B hB 2 w (f2 + 4) 0 _ (by omega) (by omega) w2 (by omega) (by omega), rF B hB 3 l (f2 + 3) 0 _ (by omega) (by omega) l2 (by omega) (by simp only [List.length_append]; omega), rF B hB 4 e (f2 + 2) 0 _ (by omega) (by omega) r2 (by omega) (by simp only [List.length_append]; omega), rF B hB 5 o (f2 + 1) 0 _ (by omega) (by omega) o2 (by omega) (by simp only [List.length_append]; omega), hT1, fX9_writeMachine_22, if_pos (show (5 : Int32) < nI (5 + 1) by decide), hcut]
      exact rS B hB n 0 bsF (by omega) (by unfold bsF; omega)
