/-! TEXTS: the three texts of the class -/
theorem wr_slots {Q n t : Nat} {X : bsX} (h7 : X 13 0 0 7 = 1) (hw : wm Q n t (X 0)) : (jn (wSlot (X 0)) n).length ≤ 120 ∧ fX8_writeSlots X = some (0, nI (jn (wSlot (X 0)) n).length, txC X (jn (wSlot (X 0)) n)) := by
  have h6 := hw.hn
  have hsz : X 0 0 0 4 = nI n := hw.sz
  have hb : ∀ k, k ≤ n → (jn (wSlot (X 0)) k).length ≤ 20 * k := fun k hk => jn_len k (fun i hi => wSlot_len (hw.sl i (by omega)))
  have hcls : ∀ d k f, k + d = n → d < f → fX8_writeSlots_13 f (nI k) (txC X (jn (wSlot (X 0)) k)) = some (0, nI (jn (wSlot (X 0)) n).length, txC X (jn (wSlot (X 0)) n)) := by
    intro d
    induction d with
    | zero =>
      intro k f hk hf
      obtain ⟨f, rfl⟩ : ∃ z, f = z + 1 := ⟨f - 1, by omega⟩
      obtain rfl : k = n := by omega
      rw [fX8_writeSlots_13, txC_g X _ (show (0 : Nat) ≠ 13 by decide), hsz, txC_len, if_pos (Int32.le_refl _), ite_self]
    | succ d ih =>
      intro k f hk hf
      obtain ⟨f, rfl⟩ : ∃ z, f = z + 1 := ⟨f - 1, by omega⟩
      have hk6 : k < 6 := by omega
      have hbk := hb k (by omega)
      have step : ∀ M : List Int32, M.length + 20 ≤ 400 → M ++ wSlot (X 0) k = jn (wSlot (X 0)) (k + 1) → fX8_writeSlots_43 (fX8_writeSlots_13 f) (nI k) (txC X M) = some (0, nI (jn (wSlot (X 0)) n).length, txC X (jn (wSlot (X 0)) n)) := by
        intro M hM hJ
        unfold fX8_writeSlots_43
        rw [if_pos ((pu_in k 6 (by omega)).mpr hk6), pu_ix k (by omega), slot_c (hw.sl k hk6) hM, Option.bind_some, hJ, pu_succ]
        exact ih (k + 1) f (by omega) (by omega)
      rw [fX8_writeSlots_13, txC_g X _ (show (0 : Nat) ≠ 13 by decide), hsz, if_neg (fun q => by have := (pu_le 6 k (by omega) (by decide)).mp q; omega), if_neg (fun q => by have := (pu_le n k (by omega) (by omega)).mp q; omega)]
      by_cases k0 : k = 0
      · rw [if_pos (show nI k ≤ (0 : Int32) from (pu_le k 0 (by decide) (by omega)).mpr (by omega))]
        refine step _ (by omega) ?_
        simp only [jn, k0, if_true, List.append_nil]
      · rw [if_neg (show ¬ nI k ≤ (0 : Int32) from fun q => by have := (pu_le k 0 (by decide) (by omega)).mp q; omega), put_ok b32 (by omega), Option.bind_some]
        refine step _ (by simp only [List.length_append, List.length_cons, List.length_nil]; omega) ?_
        simp only [jn, k0, if_false]
  refine ⟨by have := hb n (Nat.le_refl n); omega, ?_⟩
  unfold fX8_writeSlots fX7_clear
  rw [q8_req h7]
  simp only [Option.bind_some, if_true]
  rw [txC_nil]
  exact hcls n 0 bsF (by omega) (by unfold bsF; omega)
theorem wr_boots {Q n t T : Nat} {X : bsX} (h7 : X 13 0 0 7 = 1) (hw : wm Q n t (X 0)) (ht : t ≤ 9999) (hT : T < 1000000) (eT : X 0 3 0 4 = nI T) : (jn (fun r => wBoot (X 0) ((T - min T 12 + r) % 12)) (min T 12)).length ≤ 120 ∧ fX8_writeBoots X = some (0, nI (if T = 0 then [45] else jn (fun r => wBoot (X 0) ((T - min T 12 + r) % 12)) (min T 12)).length, txC X (if T = 0 then [45] else jn (fun r => wBoot (X 0) ((T - min T 12 + r) % 12)) (min T 12))) := by
  have g0 : ∀ M, txC X M 0 = X 0 := fun M => txC_g _ _ (by decide)
  have hkept : ∀ M, fX0_kept 0 (txC X M) = some (nI (min T 12), txC X M) := by intro M; unfold fX0_kept; rw [g0, eT, pu_min12 (by omega)]
  generalize hit : (fun r => wBoot (X 0) ((T - min T 12 + r) % 12)) = it
  have iti : ∀ r, it r = wBoot (X 0) ((T - min T 12 + r) % 12) := by intro r; rw [← hit]
  have itl : ∀ r, 1 ≤ (it r).length ∧ (it r).length ≤ 9 := by intro r; rw [iti]; exact wBoot_len hw ht (by omega)
  have hb : ∀ k, (jn it k).length ≤ 10 * k := fun k => jn_len k (fun i _ => (itl i).2)
  have hrow : ∀ r, r < min T 12 → ∀ M, fX0_rowOf 0 (nI (min T 12 - 1 - r)) (txC X M) = some (nI ((T - min T 12 + r) % 12), txC X M) := by
    intro r hr M
    have hs2 : nI T - (1 : Int32) - nI (min T 12 - 1 - r) = nI (T - min T 12 + r) := by
      rw [show (1 : Int32) = nI 1 from rfl, pu_sub _ _ (by omega), pu_sub _ _ (by omega)]
      congr 1; omega
    unfold fX0_rowOf
    rw [if_neg (pu_neg _ (by omega)), hkept, Option.bind_some, if_pos ((pu_lt _ (min T 12) (by omega) (by omega)).mpr (by omega))]
    dsimp only
    rw [g0, eT, hs2, pu_mod _ (by omega)]
  have hcls : ∀ d r f, r + d + 1 = min T 12 → d + 1 < f → fX8_writeBoots_26 f (nI (min T 12)) (nI (min T 12 - 1 - r)) (txC X (jn it r ++ (if r = 0 then [] else [32]))) = some (0, nI (jn it (min T 12)).length, txC X (jn it (min T 12))) := by
    intro d
    induction d with
    | zero =>
      intro r f hr hf
      obtain ⟨f, rfl⟩ : ∃ z, f = z + 1 + 1 := ⟨f - 2, by omega⟩
      have hbr := hb r
      have hl : (jn it r ++ (if r = 0 then [] else [32])).length ≤ 10 * r + 1 := by
        by_cases e : r = 0
        · rw [if_pos e]; simp only [List.length_append, List.length_nil]; omega
        · rw [if_neg e]; simp only [List.length_append, List.length_cons, List.length_nil]; omega
      have z0 : min T 12 - 1 - r = 0 := by omega
      have zr : r + 1 = min T 12 := by omega
      have hm1 : (0 : Int32) + (-1 : Int32) = -1 := by decide
      rw [fX8_writeBoots_26, if_neg (pu_neg _ (by omega)), hrow r (by omega), Option.bind_some, boot_c hw ht (by omega) (by omega), Option.bind_some, z0, if_pos (show nI 0 ≤ (0 : Int32) by decide)]
      unfold fX8_writeBoots_58
      rw [show nI 0 + (-1 : Int32) = -1 from hm1, fX8_writeBoots_26, if_pos (show (-1 : Int32) < 0 by decide), if_neg (show ¬ nI (min T 12) = 0 from fun q => by have := (pu_eq (min T 12) 0 (by decide) (by omega)).mp q; omega), txC_len, ← zr, jn, iti, ← zr]
    | succ d ih =>
      intro r f hr hf
      obtain ⟨f, rfl⟩ : ∃ z, f = z + 1 := ⟨f - 1, by omega⟩
      have hbr := hb r
      have itr := itl r
      have hl : (jn it r ++ (if r = 0 then [] else [32])).length ≤ 10 * r + 1 := by
        by_cases e : r = 0
        · rw [if_pos e]; simp only [List.length_append, List.length_nil]; omega
        · rw [if_neg e]; simp only [List.length_append, List.length_cons, List.length_nil]; omega
      have hx : nI (min T 12 - 1 - r) + (-1 : Int32) = nI (min T 12 - 1 - (r + 1)) := by
        have : nI (min T 12 - 1 - r) - (1 : Int32) = nI (min T 12 - 1 - r - 1) := by rw [show (1 : Int32) = nI 1 from rfl, pu_sub _ _ (by omega)]
        rw [show nI (min T 12 - 1 - r) + (-1 : Int32) = nI (min T 12 - 1 - r) - (1 : Int32) by rw [Int32.sub_eq_add_neg], this]
        congr 1
      have hJ : (jn it r ++ (if r = 0 then [] else [32])) ++ wBoot (X 0) ((T - min T 12 + r) % 12) = jn it (r + 1) := by rw [jn, iti]
      have hJl : (jn it (r + 1)).length ≤ 10 * (r + 1) := hb (r + 1)
      rw [fX8_writeBoots_26, if_neg (pu_neg _ (by omega)), hrow r (by omega), Option.bind_some, boot_c hw ht (by omega) (by omega), Option.bind_some, if_neg (show ¬ nI (min T 12 - 1 - r) ≤ (0 : Int32) from fun q => by have := (pu_le _ 0 (by decide) (by omega)).mp q; omega), hJ, put_ok b32 (by omega), Option.bind_some]
      unfold fX8_writeBoots_58
      rw [hx]
      have := ih (r + 1) f (by omega) (by omega)
      rw [if_neg (Nat.succ_ne_zero r)] at this
      exact this
  refine ⟨by have := hb (min T 12); omega, ?_⟩
  unfold fX8_writeBoots fX7_clear
  rw [q8_req h7]
  simp only [Option.bind_some, if_true]
  rw [txC_nil, hkept]
  simp only [Option.bind_some]
  by_cases c : T = 0
  · rw [if_pos c]
    obtain ⟨f, hf⟩ := bsF_5
    have hm : min T 12 = 0 := by omega
    have hm1 : nI 0 - (1 : Int32) = -1 := by decide
    rw [hm, hm1, hf, fX8_writeBoots_26, if_pos (show (-1 : Int32) < 0 by decide), if_pos (show nI 0 = 0 from rfl), put_ok b45 (by simp)]
    rfl
  · rw [if_neg c]
    have := hcls (min T 12 - 1) 0 bsF (by omega) (by unfold bsF; omega)
    rw [if_pos rfl, show jn it 0 ++ [] = [] from rfl, Nat.sub_zero] at this
    rw [show nI (min T 12) - (1 : Int32) = nI (min T 12 - 1) from pu_sub _ 1 (by omega)]
    exact this
theorem wr_mach {Q n t : Nat} {X : bsX} (h7 : X 13 0 0 7 = 1) (hw : wm Q n t (X 0)) : ∃ T1 T2 : List Int32, T1 = (((wrd 0 ++ fldV (X 0 0 0 5)) ++ fldV (X 0 0 0 6)) ++ fldV (X 0 0 0 7)) ++ fldV (X 0 0 0 8) ∧ T2 = lnL (fun _ => wrd 8) T1 n ∧ T2.length ≤ 49 ∧ (lnL (wLine (X 0)) T2 n).length ≤ 361 ∧ fX8_writeMachine X = some (0, nI (lnL (wLine (X 0)) T2 n).length, txC X (lnL (wLine (X 0)) T2 n)) := by
  have h6 := hw.hn
  have hsz : X 0 0 0 4 = nI n := hw.sz
  have g0 : ∀ M, txC X M 0 = X 0 := fun M => txC_g _ _ (by decide)
  obtain ⟨w, _, w1, w2⟩ := hw.wat
  obtain ⟨l, _, l1, l2⟩ := hw.lim
  obtain ⟨e, _, r1, r2⟩ := hw.ret
  obtain ⟨o, _, o1, o2⟩ := hw.flo
  have aw := fld_2 w1
  have al := fld_2 (show l ≤ 99 by omega)
  have ae := fld_2 (show e ≤ 99 by omega)
  have ao := fld_2 o1
  have z0 := wq0
  have z8 := wq8
  generalize hT1 : (((wrd 0 ++ fld w) ++ fld l) ++ fld e) ++ fld o = T1
  have t1 : T1.length ≤ 19 := by rw [← hT1]; simp only [List.length_append]; omega
  have hR : ∀ k, (lnL (fun _ => wrd 8) T1 k).length ≤ T1.length + 5 * k := fun k => lnL_len k (fun i _ => by rw [z8]; exact Nat.le_refl 5)
  generalize hT2 : lnL (fun _ => wrd 8) T1 n = T2
  have t2 : T2.length ≤ 49 := by rw [← hT2]; have := hR n; omega
  have hlb : ∀ k, k ≤ 6 → (lnL (wLine (X 0)) T2 k).length ≤ T2.length + 52 * k := fun k hk => lnL_len k (fun i hi => wLine_len (by omega) (hw.sl i (by omega)))
  have hlb6 := hlb 6 (Nat.le_refl 6)
  have hcut : lnL (wLine (X 0)) T2 6 = lnL (wLine (X 0)) T2 n := by
    have := lnL_cut (it := wLine (X 0)) (L := T2) (n := n) (6 - n) (fun i a b => by unfold wLine; rw [if_pos (hw.hi i a (by omega)).1])
    rw [show n + (6 - n) = 6 by omega] at this
    exact this
  have cL : ∀ d k f, k + d = 6 → d < f → fX8_writeMachine_108 f (nI k) (txC X (lnL (wLine (X 0)) T2 k)) = some (0, nI (lnL (wLine (X 0)) T2 6).length, txC X (lnL (wLine (X 0)) T2 6)) := by
    intro d
    induction d with
    | zero =>
      intro k f hk hf
      obtain ⟨f, rfl⟩ : ∃ z, f = z + 1 := ⟨f - 1, by omega⟩
      obtain rfl : k = 6 := by omega
      rw [fX8_writeMachine_108, if_pos (show (6 : Int32) ≤ nI 6 by decide), txC_len]
    | succ d ih =>
      intro k f hk hf
      obtain ⟨f, rfl⟩ : ∃ z, f = z + 1 := ⟨f - 1, by omega⟩
      have hk6 : k < 6 := by omega
      have hb := hlb k (by omega)
      have hs := hw.sl k hk6
      rw [fX8_writeMachine_108, if_neg (show ¬ (6 : Int32) ≤ nI k from fun q => by have := (pu_le 6 k (by omega) (by decide)).mp q; omega), if_pos ((pu_in k 6 (by omega)).mpr hk6), pu_ix k (by omega), g0]
      by_cases h0 : X 0 6 k 0 = 0
      · rw [if_pos h0]
        unfold fX8_writeMachine_158
        rw [pu_succ]
        have hJ : lnL (wLine (X 0)) T2 k = lnL (wLine (X 0)) T2 (k + 1) := by rw [lnL, show wLine (X 0) k = [] from if_pos h0, List.append_nil]
        rw [hJ]
        exact ih (k + 1) f (by omega) (by omega)
      · have hl := wLine_len hk6 hs
        have hl2 : (wImg (X 0) k).length + (wMrk (X 0) k).length ≤ 52 := by
          unfold wLine at hl; rw [if_neg h0] at hl; simp only [List.length_append] at hl; exact hl
        have hi : (wImg (X 0) k).length ≤ 40 := by
          obtain ⟨v, _, v1, v2⟩ := hs.2.2.2.2.2.2.1
          obtain ⟨s, _, s1, s2⟩ := hs.2.2.2.2.2.2.2.1
          obtain ⟨c, _, c1, c2⟩ := hs.2.2.2.2.2.2.2.2.1
          have a1 := fld_2 v1
          have a2 := fld_2 s1
          have a3 := fld_2 c1
          have a6 := fld_1 (show k ≤ 9 by omega)
          have i1 := ite_len (p := X 0 6 k 4 = 0) (L := wrd 10)
          have i2 := ite_len (p := X 0 6 k 5 = 0) (L := wrd 11)
          have e9 := wq9
          have e10 := wq10
          have e11 := wq11
          unfold wImg
          rw [v2, s2, c2, fldV_n (by omega), fldV_n (by omega), fldV_n (by omega)]
          simp only [List.length_append]
          omega
        rw [if_neg h0, img_c hk6 hs (by omega), Option.bind_some, mrk_c hk6 hs (by simp only [List.length_append]; omega), Option.bind_some]
        unfold fX8_writeMachine_158
        rw [pu_succ]
        have hJ : (lnL (wLine (X 0)) T2 k ++ wImg (X 0) k) ++ wMrk (X 0) k = lnL (wLine (X 0)) T2 (k + 1) := by rw [lnL, show wLine (X 0) k = wImg (X 0) k ++ wMrk (X 0) k from if_neg h0, List.append_assoc]
        rw [hJ]
        exact ih (k + 1) f (by omega) (by omega)
  have cS : ∀ d k f, k + d = n → d < f → fX8_writeMachine_79 f (nI k) (txC X (lnL (fun _ => wrd 8) T1 k)) = some (0, nI (lnL (wLine (X 0)) T2 6).length, txC X (lnL (wLine (X 0)) T2 6)) := by
    intro d
    induction d with
    | zero =>
      intro k f hk hf
      obtain ⟨f, rfl⟩ : ∃ z, f = z + 1 := ⟨f - 1, by omega⟩
      obtain rfl : k = n := by omega
      rw [fX8_writeMachine_79, g0, hsz, if_pos (Int32.le_refl _), hT2]
      exact cL 6 0 bsF (by omega) (by unfold bsF; omega)
    | succ d ih =>
      intro k f hk hf
      obtain ⟨f, rfl⟩ : ∃ z, f = z + 1 := ⟨f - 1, by omega⟩
      have hb := hR k
      rw [fX8_writeMachine_79, g0, hsz, if_neg (fun q => by have := (pu_le n k (by omega) (by omega)).mp q; omega), word_ok (by decide) (by omega), Option.bind_some, pu_succ]
      exact ih (k + 1) f (by omega) (by omega)
  refine ⟨T1, T2, by rw [← hT1, w2, l2, r2, o2, fldV_n (by omega), fldV_n (by omega), fldV_n (by omega), fldV_n (by omega)], hT2.symm, t2, by rw [← hcut]; omega, ?_⟩
  rw [← hcut]
  unfold fX8_writeMachine fX7_clear
  rw [q8_req h7]
  simp only [Option.bind_some, if_true]
  rw [txC_nil, word_ok (by decide) (by simp)]
  simp only [Option.bind_some, g0, w2, l2, r2, o2]
  rw [List.nil_append, fld_c (by omega) (by omega)]
  simp only [Option.bind_some, g0, w2, l2, r2, o2]
  rw [fld_c (by omega) (by simp only [List.length_append]; omega)]
  simp only [Option.bind_some, g0, w2, l2, r2, o2]
  rw [fld_c (by omega) (by simp only [List.length_append]; omega)]
  simp only [Option.bind_some, g0, w2, l2, r2, o2]
  rw [fld_c (by omega) (by simp only [List.length_append]; omega)]
  simp only [Option.bind_some]
  rw [hT1]
  exact cS n 0 bsF (by omega) (by unfold bsF; omega)
