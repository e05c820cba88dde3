/-! TEXTS: all -/
theorem txC_7 {X : bsX} {L : List Int32} (i : Nat) : txC X L 13 0 0 i = X 13 0 0 i := by unfold txC; rw [if_neg (by omega), if_neg (by omega)]
theorem tx_ok {Q n t T : Nat} {X : bsX} {Z : pY} (P : PI Q n t X Z) (ht : t ≤ 9999) (hT : T < 1000000) (eT : X 0 3 0 4 = nI T) : ∃ X', hL_texts X Z = some (1, X', Z) ∧ X' 0 = X 0 ∧ ∀ i, X' 13 0 0 i = X 13 0 0 i := by
  obtain ⟨h7, n1, hw, hr, hs⟩ := id P
  have h6 := hw.hn
  have hl := hr.pn h6
  have hlm := hr.pm hT eT
  obtain ⟨w, _, w9, ew⟩ := hw.wat
  obtain ⟨l, _, l9, el⟩ := hw.lim
  obtain ⟨e, _, e9, ee⟩ := hw.ret
  obtain ⟨o, _, o9, eo⟩ := hw.flo
  have z5 : Z 0 0 5 = nI w := by rw [hr.num (i := 5) (by omega) (by omega)]; exact ew
  have z6 : Z 0 0 6 = nI l := by rw [hr.num (i := 6) (by omega) (by omega)]; exact el
  have z7 : Z 0 0 7 = nI e := by rw [hr.num (i := 7) (by omega) (by omega)]; exact ee
  have z8 : Z 0 0 8 = nI o := by rw [hr.num (i := 8) (by omega) (by omega)]; exact eo
  have dw := tl_dec (k := w) (by omega)
  have dl := tl_dec (k := l) (by omega)
  have de := tl_dec (k := e) (by omega)
  have d0 := tl_dec (k := o) (by omega)
  have gw := (sb_dg_in w).2
  have gl := (sb_dg_in l).2
  have ge := (sb_dg_in e).2
  have g0 := (sb_dg_in o).2
  have s14 : stN 14 = 8 := rfl
  obtain ⟨T1, T2, eT1, eT2, l2, l361, wm3⟩ := wr_mach h7 hw
  obtain ⟨l120, ws⟩ := wr_slots h7 hw
  have k0 : ∀ L : List Int32, txC X L 0 = X 0 := fun L => txC_g X L (show (0 : Nat) ≠ 13 by decide)
  unfold hL_texts
  rw [z5, z6, z7, z8, pu_ix w (by omega), pu_ix l (by omega), pu_ix e (by omega), pu_ix o (by omega)]
  rw [if_pos (nn_nI (by omega)), if_pos (by omega), if_pos (by omega), if_pos (nn_nI (by omega)), if_pos (by omega), if_pos (by omega), if_pos (nn_nI (by omega)), if_pos (by omega), if_pos (by omega), if_pos (nn_nI (by omega)), if_pos (by omega)]
  have hT1 : T1.length ≤ 19 := by
    have a1 := fld_2 (show w ≤ 99 by omega)
    have a2 := fld_2 (show l ≤ 99 by omega)
    have a3 := fld_2 (show e ≤ 99 by omega)
    have a4 := fld_2 (show o ≤ 99 by omega)
    have a0 := wq0
    rw [eT1, ew, el, ee, eo, fldV_n (by omega), fldV_n (by omega), fldV_n (by omega), fldV_n (by omega)]
    simp only [List.length_append]
    omega
  have main : ∀ (A : Nat → Nat) (mA : Nat), tl A mA = T1 → ∃ X', hL_texts_74 8 (fun _ => 0) 0 (fun _ => 0) 0 A mA 0 X Z = some (1, X', Z) ∧ X' 0 = X 0 ∧ ∀ i, X' 13 0 0 i = X 13 0 0 i := by
    intro A mA hA
    obtain ⟨t16, n16, h1, h2⟩ := tx_74 (nn0 := 0) (nn8 := 0) (tt0 := fun _ => 0) (tt8 := fun _ => 0) P hT1 n 0 8 A mA (by omega) (by omega) hA
    rw [show (0 : Int32) = nI 0 from rfl, h1]
    rw [← eT2] at h2
    obtain ⟨ta, na, tb, nb, a1, a2, a3⟩ := tx_102 (nn8 := 0) (tt8 := fun _ => 0) P l2 n 0 8 (fun _ => 0) 0 t16 n16 (by omega) (by omega) rfl h2
    rw [show (0 : Int32) = nI 0 from rfl, a1, hlm]
    have em : bsMax (nI 0) (nI T - 12) = nI (T - min T 12 + 0) := by
      by_cases c : 12 ≤ T
      · rw [show (12 : Int32) = nI 12 from rfl, pu_sub T 12 c, bsMax_nI (by omega) (by omega)]
        congr 1
        omega
      · have : nI T - (12 : Int32) < 0 := by
          rw [Int32.lt_iff_toInt_lt, show (12 : Int32) = nI 12 from rfl]
          have hs : ∀ z, z < 12 → (nI z - nI 12).toInt < (0 : Int32).toInt := by decide +kernel
          exact hs T (by omega)
        unfold bsMax
        rw [show T - min T 12 + 0 = 0 by omega]
        by_cases c2 : nI 0 < nI T - 12
        · exact absurd c2 (Int32.not_lt.mpr (Int32.le_of_lt this))
        · rw [if_neg c2]
    rw [show (0 : Int32) = nI 0 from rfl, em]
    obtain ⟨tc, nc, m', b1, b2⟩ := tx_422 (nn0 := na) (nn16 := nb) (tt0 := ta) (tt16 := tb) P ht hT eT (min T 12) 0 14 (fun _ => 0) 0 (by omega) (by omega) rfl
    rw [b1, hL_texts_422, hlm, if_pos (pz_nn T), ws]
    simp only [Option.bind_some, if_true]
    have hna : na ≤ 120 := by have := l120; rw [← a2, tl_len] at this; exact this
    have hnb : nb ≤ 361 := by have := l361; rw [← a3, tl_len] at this; exact this
    rw [if_pos (show na ≤ 512 by omega), isText_ok a2.symm (by omega)]
    simp only [Option.bind_some]
    rw [if_neg (show ¬ (1 : Int32) = 0 by decide)]
    generalize hX1 : txC X (jn (wSlot (X 0)) n) = X1
    have x10 : X1 0 = X 0 := by rw [← hX1]; exact k0 _
    have x17 : ∀ i, X1 13 0 0 i = X 13 0 0 i := fun i => by rw [← hX1]; exact txC_7 i
    obtain ⟨l3, wb⟩ := wr_boots (T := T) (X := X1) (by rw [x17]; exact h7) (by rw [x10]; exact hw) ht hT (by rw [x10]; exact eT)
    rw [x10] at l3 wb
    have hnc : nc ≤ 120 := by have := l3; rw [← b2, tl_len] at this; exact this
    rw [wb]
    simp only [Option.bind_some, if_true]
    -- the third text, from contents X2
    have fin : ∀ X2 : bsX, X2 0 = X 0 → (∀ i, X2 13 0 0 i = X 13 0 0 i) → ∃ X', ((fX8_writeMachine X2).bind fun r16 => if r16.1 = 0 then (if nb ≤ 512 then ((hL_isText tb nb r16.2.1 r16.2.2).bind fun r20 => if r20.1 = 0 then (some ((0 : Int32), r20.2, Z)) else (some ((1 : Int32), r20.2, Z))) else none) else none) = some (1, X', Z) ∧ X' 0 = X 0 ∧ ∀ i, X' 13 0 0 i = X 13 0 0 i := by
      intro X2 x20 x27
      obtain ⟨U1, U2, u1, u2, u3, u4, u5⟩ := wr_mach (X := X2) (by rw [x27]; exact h7) (by rw [x20]; exact hw)
      rw [x20] at u1 u4 u5
      have hU : U2 = T2 := by rw [u2, eT2, u1, eT1]
      rw [u5, hU]
      simp only [Option.bind_some, if_true]
      rw [if_pos (show nb ≤ 512 by omega), isText_ok a3.symm (by omega)]
      simp only [Option.bind_some]
      rw [if_neg (show ¬ (1 : Int32) = 0 by decide)]
      exact ⟨_, rfl, by rw [txC_g X2 _ (show (0 : Nat) ≠ 13 by decide)]; exact x20, fun i => by rw [txC_7]; exact x27 i⟩
    by_cases c : T = 0
    · have n0 : nc = 0 := by
        have : (tl tc nc).length = 0 := by rw [b2, c]; rfl
        rw [tl_len] at this
        exact this
      rw [if_pos c, if_pos (show nI nc = 0 by rw [n0]; rfl), isText_ok (show [45] = tl (stT 21) (stN 21) from tl_21.symm) (by decide)]
      simp only [Option.bind_some]
      rw [if_neg (show ¬ (1 : Int32) = 0 by decide)]
      exact fin _ (by rw [txC_g X1 _ (show (0 : Nat) ≠ 13 by decide)]; exact x10) (fun i => by rw [txC_7]; exact x17 i)
    · have p8 : min T 12 ≤ nc := by
        have := jn_pos (it := fun r => wBoot (X 0) ((T - min T 12 + r) % 12)) (min T 12) (fun i _ => (wBoot_len hw ht (by omega)).1)
        rw [← b2, tl_len] at this
        exact this
      rw [if_neg c, if_neg (show ¬ nI nc = 0 from fun q => by have := (pu_eq nc 0 (by omega) (by omega)).mp q; omega), if_pos (show nc ≤ 512 by omega), isText_ok b2.symm (by omega)]
      simp only [Option.bind_some]
      rw [if_neg (show ¬ (1 : Int32) = 0 by decide)]
      exact fin _ (by rw [txC_g X1 _ (show (0 : Nat) ≠ 13 by decide)]; exact x10) (fun i => by rw [txC_7]; exact x17 i)
  refine main _ _ ?_
  rw [eT1, ew, el, ee, eo, fldV_n (by omega), fldV_n (by omega), fldV_n (by omega), fldV_n (by omega)]
  simp only [tl_cat, tl_14, tl_c32, dw, dl, de, d0, fld, List.append_assoc, List.cons_append, List.nil_append]
