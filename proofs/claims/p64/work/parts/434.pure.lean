/-! TEXTS: a builder's letters as a list -/
def tl (t : Nat → Nat) (n : Nat) : List Int32 := (List.range n).map (fun i => nI (t i))
theorem tl_len (t : Nat → Nat) (n : Nat) : (tl t n).length = n := by unfold tl; rw [List.length_map, List.length_range]
theorem tl_get {t : Nat → Nat} {n i : Nat} (h : i < n) : (tl t n).getD i 0 = nI (t i) := by
  unfold tl
  rw [List.getD_eq_getElem?_getD, List.getElem?_map, List.getElem?_range h]
  rfl
theorem tl_cat {t s : Nat → Nat} {n m : Nat} : tl (sb_cat t n s) (n + m) = tl t n ++ tl s m := by
  unfold tl
  rw [List.range_add, List.map_append, List.map_map]
  congr 1
  · refine List.map_congr_left (fun i hi => ?_)
    have h := List.mem_range.mp hi
    unfold sb_cat
    rw [if_pos h]
  · refine List.map_congr_left (fun i _ => ?_)
    show nI (sb_cat t n s (n + i)) = nI (s i)
    unfold sb_cat
    rw [if_neg (by omega), Nat.add_sub_cancel_left]
theorem tl_one {c : Nat} : tl (fun _ => c) 1 = [nI c] := rfl
theorem tl_zero {t : Nat → Nat} : tl t 0 = [] := rfl
theorem tl_8 : tl (stT 8) (stN 8) = wrd 8 := by decide +kernel
theorem tl_10 : tl (stT 10) (stN 10) = wrd 10 := by decide +kernel
theorem tl_11 : tl (stT 11) (stN 11) = wrd 11 := by decide +kernel
theorem tl_13 : tl (stT 13) (stN 13) = wrd 13 := by decide +kernel
theorem tl_14 : tl (stT 14) (stN 14) = wrd 0 ++ [32] := by decide +kernel
theorem tl_15 : tl (stT 15) (stN 15) = wrd 9 ++ [32] := by decide +kernel
theorem tl_16 : tl (stT 16) (stN 16) = [] := by decide +kernel
theorem tl_17 : tl (stT 17) (stN 17) = wrd 12 ++ [32] := by decide +kernel
theorem tl_18 : tl (stT 18) (stN 18) = [32] := by decide +kernel
theorem tl_19 : tl (stT 19) (stN 19) = [33] := by decide +kernel
theorem tl_20 : tl (stT 20) (stN 20) = [42] := by decide +kernel
theorem tl_21 : tl (stT 21) (stN 21) = [45] := by decide +kernel
theorem tl_dec {k : Nat} (h : k ≤ 9999) : tl (sb_dec k) (sb_dg k) = dig k := by
  have d : ∀ i, sb_dec k i = 48 + k / 10 ^ (sb_dg k - 1 - i) % 10 := fun _ => rfl
  by_cases c1 : k < 10
  · have e : sb_dg k = 1 := by unfold sb_dg; rw [if_pos c1]
    rw [e]
    show [nI (sb_dec k 0)] = _
    rw [d, e]
    unfold dig dg1
    rw [if_neg (by omega), if_neg (by omega), if_neg (by omega), if_pos (by omega)]
    rfl
  · by_cases c2 : k < 100
    · have e : sb_dg k = 2 := by unfold sb_dg; rw [if_neg c1, if_pos c2]
      rw [e]
      show [nI (sb_dec k 0), nI (sb_dec k 1)] = _
      rw [d, d, e]
      unfold dig dg1
      rw [if_neg (by omega), if_neg (by omega), if_pos (by omega), if_pos (by omega)]
      rfl
    · by_cases c3 : k < 1000
      · have e : sb_dg k = 3 := by unfold sb_dg; rw [if_neg c1, if_neg c2, if_pos c3]
        rw [e]
        show [nI (sb_dec k 0), nI (sb_dec k 1), nI (sb_dec k 2)] = _
        rw [d, d, d, e]
        unfold dig dg1
        rw [if_neg (by omega), if_pos (by omega), if_pos (by omega), if_pos (by omega)]
        rfl
      · have e : sb_dg k = 4 := by unfold sb_dg; rw [if_neg c1, if_neg c2, if_neg c3, if_pos (by omega)]
        rw [e]
        show [nI (sb_dec k 0), nI (sb_dec k 1), nI (sb_dec k 2), nI (sb_dec k 3)] = _
        rw [d, d, d, d, e]
        unfold dig dg1
        rw [if_pos (by omega), if_pos (by omega), if_pos (by omega), if_pos (by omega)]
        rfl
theorem tb_in {X0 : bsX} {L : List Int32} {i : Nat} (hi : i < L.length) (hL : L.length ≤ 512) : fX8_textByte (nI i) (txC X0 L) = some (0, L.getD i 0, txC X0 L) := by
  have e : txC X0 L 13 8 0 i = L.getD i 0 := by unfold txC; rw [if_neg (by omega), if_pos ⟨rfl, rfl, rfl, hi⟩]
  unfold fX8_textByte
  rw [if_neg (pu_neg i (by omega)), txC_len, if_pos ((pu_lt i L.length (by omega) (by omega)).mpr hi), if_pos ((pu_in i 600 (by omega)).mpr (by omega)), pu_ix i (by omega), e]
theorem tb_out {X0 : bsX} {L : List Int32} (hL : L.length ≤ 512) : fX8_textByte (nI L.length) (txC X0 L) = some (2, 0, txC X0 L) := by
  unfold fX8_textByte
  rw [if_neg (pu_neg _ (by omega)), txC_len, if_neg (fun q => absurd ((pu_lt _ _ (by omega) (by omega)).mp q) (Nat.lt_irrefl _))]
theorem tx_hTx {t : Nat → Nat} {n : Nat} {X0 : bsX} {k : bsX → Option (Int32 × bsX)} (hn : n ≤ 512) : ∀ d i, i + d = n → hTx t k d i (txC X0 (tl t n)) = k (txC X0 (tl t n)) := by
  intro d
  induction d with
  | zero => intro i _; rw [hTx]
  | succ d ih =>
    intro i hi
    rw [hTx, tb_in (by rw [tl_len]; omega) (by rw [tl_len]; exact hn)]
    simp only [Option.bind_some, if_true]
    rw [if_pos (tl_get (by omega)), ih (i + 1) (by omega)]
theorem isText_ok {t : Nat → Nat} {n : Nat} {X0 : bsX} {L : List Int32} (hL : L = tl t n) (hn : n ≤ 512) : hL_isText t n (nI L.length) (txC X0 L) = some (1, txC X0 L) := by
  subst hL
  unfold hL_isText
  have ob := tb_out (X0 := X0) (L := tl t n) (by rw [tl_len]; exact hn)
  rw [if_pos (by rw [tl_len]), tx_hTx hn n 0 (by omega), ob]
  simp only [Option.bind_some]
  rw [if_pos (show 0 < 2 ∧ 2 ≤ 3 by decide), if_pos (show nI 2 = 2 from rfl)]
