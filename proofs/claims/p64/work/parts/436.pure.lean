/-! TEXTS: the law's builders -/
abbrev txK : Type := (Nat → Nat) → Nat → (Nat → Nat) → Nat → (Nat → Nat) → Nat → Int32 → bsX → pY → Option (Int32 × bsX × pY)
theorem tl_c32 : tl (fun _ => 32) 1 = [32] := rfl
theorem tl_c45 : tl (fun _ => 45) 1 = [45] := rfl
theorem tl_c47 : tl (fun _ => 47) 1 = [47] := rfl
theorem tl_c58 : tl (fun _ => 58) 1 = [58] := rfl
theorem tl_c114 : tl (fun _ => 114) 1 = [114] := rfl
theorem nn_nI {k : Nat} (h : k < 2147483648) : 0 ≤ nI k := pu_nlt.mp (pu_neg k h)
theorem tx_398 {K : txK} {a0 a8 t : Nat → Nat} {b0 b8 n u1 : Nat} {x5 : Int32} {X : bsX} {Z : pY} (h : n + stN u1 ≤ 512) : hL_texts_398 K a0 b0 a8 b8 t n x5 u1 X Z = K a0 b0 a8 b8 (sb_cat t n (stT u1)) (n + stN u1) (x5 + 1) X Z := by
  unfold hL_texts_398 hL_texts_402
  rw [if_pos h]
theorem tx_338 {K : txK} {a0 a8 t : Nat → Nat} {b0 b8 n u1 j p r : Nat} {X : bsX} {Z : pY} (hj : j < 6) (hu : stN u1 ≤ 9) (hn : n + 60 ≤ 512) (e2 : Z 5 j 2 = nI p) (hp : p ≤ 15) (e3 : Z 5 j 3 = nI r) (hr : r ≤ 7) :
    ∃ t' n', hL_texts_338 K a0 b0 a8 b8 t n (nI j) j u1 X Z = K a0 b0 a8 b8 t' n' (nI j + 1) X Z ∧ tl t' n' = tl t n ++ (tl (stT u1) (stN u1) ++ ((((wrd 12 ++ fld j) ++ fld p) ++ fld r) ++ (if Z 5 j 4 = 0 then [] else wrd 13))) := by
  have s17 : stN 17 = 6 := rfl
  have s16 : stN 16 = 0 := rfl
  have s13 : stN 13 = 5 := rfl
  have gj := (sb_dg_in j).2
  have gp := (sb_dg_in p).2
  have gr := (sb_dg_in r).2
  have dj := tl_dec (k := j) (by omega)
  have dp := tl_dec (k := p) (by omega)
  have dr := tl_dec (k := r) (by omega)
  unfold hL_texts_338
  rw [e2, e3, pu_ix j (by omega), pu_ix p (by omega), pu_ix r (by omega)]
  rw [if_pos (by omega), if_pos (by omega), if_pos (nn_nI (by omega)), if_pos (by omega), if_pos (by omega), if_pos (nn_nI (by omega)), if_pos (by omega), if_pos (by omega), if_pos (nn_nI (by omega)), if_pos (by omega)]
  by_cases g : Z 5 j 4 = 0
  · rw [if_pos g, tx_398 (by omega)]
    refine ⟨_, _, rfl, ?_⟩
    simp only [tl_cat, tl_17, tl_c32, dj, dp, dr, tl_16, g, if_true, fld, List.append_assoc, List.cons_append, List.nil_append, List.append_nil]
  · rw [if_neg g, tx_398 (by omega)]
    refine ⟨_, _, rfl, ?_⟩
    simp only [tl_cat, tl_17, tl_c32, dj, dp, dr, tl_13, g, if_false, fld, List.append_assoc, List.cons_append, List.nil_append, List.append_nil]
theorem tx_315 {K : txK} {a0 a8 t : Nat → Nat} {b0 b8 n u1 j p r : Nat} {X : bsX} {Z : pY} (hj : j < 6) (hu : stN u1 ≤ 9) (hn : n + 69 ≤ 512) (e2 : Z 5 j 2 = nI p) (hp : p ≤ 15) (e3 : Z 5 j 3 = nI r) (hr : r ≤ 7) :
    ∃ t' n', hL_texts_315 K a0 b0 a8 b8 t n (nI j) j u1 X Z = K a0 b0 a8 b8 t' n' (nI j + 1) X Z ∧ tl t' n' = tl t n ++ (tl (stT u1) (stN u1) ++ ((if Z 6 j 5 = 1 then wrd 11 else []) ++ ((((wrd 12 ++ fld j) ++ fld p) ++ fld r) ++ (if Z 5 j 4 = 0 then [] else wrd 13)))) := by
  have s16 : stN 16 = 0 := rfl
  have s11 : stN 11 = 8 := rfl
  unfold hL_texts_315
  rw [if_pos (by omega)]
  by_cases g : Z 6 j 5 = 1
  · rw [if_pos g, if_pos g]
    obtain ⟨t', n', h1, h2⟩ := tx_338 (K := K) (a0 := a0) (b0 := b0) (a8 := a8) (b8 := b8) (t := sb_cat t n (stT u1)) (n := n + stN u1) (u1 := 11) (X := X) (Z := Z) hj (by omega) (by omega) e2 hp e3 hr
    refine ⟨t', n', h1, ?_⟩
    rw [h2, tl_cat, tl_11]
    simp only [List.append_assoc]
  · rw [if_neg g, if_neg g]
    obtain ⟨t', n', h1, h2⟩ := tx_338 (K := K) (a0 := a0) (b0 := b0) (a8 := a8) (b8 := b8) (t := sb_cat t n (stT u1)) (n := n + stN u1) (u1 := 16) (X := X) (Z := Z) hj (by omega) (by omega) e2 hp e3 hr
    refine ⟨t', n', h1, ?_⟩
    rw [h2, tl_cat, tl_16]
    simp only [List.append_assoc]
theorem tx_233 {K : txK} {a0 a8 t : Nat → Nat} {b0 b8 n u1 j p r v s c : Nat} {X : bsX} {Z : pY} (hj : j < 6) (hu : stN u1 ≤ 9) (h0 : b0 + 9 ≤ 512) (hn : n + 130 ≤ 512) (e1 : Z 6 j 1 = nI v) (hv : v ≤ 99) (es : Z 6 j 2 = nI s) (hs : s ≤ 99) (ec : Z 6 j 3 = nI c) (hc : c ≤ 99) (e2 : Z 5 j 2 = nI p) (hp : p ≤ 15) (e3 : Z 5 j 3 = nI r) (hr : r ≤ 7) :
    ∃ t' n', hL_texts_233 K a0 b0 a8 b8 t n (nI j) j u1 X Z = K (sb_cat a0 b0 (stT u1)) (b0 + stN u1) a8 b8 t' n' (nI j + 1) X Z ∧ tl t' n' = tl t n ++ (((((wrd 9 ++ fld j) ++ fld v) ++ fld s) ++ fld c) ++ ((if Z 6 j 4 = 1 then wrd 10 else []) ++ ((if Z 6 j 5 = 1 then wrd 11 else []) ++ ((((wrd 12 ++ fld j) ++ fld p) ++ fld r) ++ (if Z 5 j 4 = 0 then [] else wrd 13))))) := by
  have s15 : stN 15 = 7 := rfl
  have s16 : stN 16 = 0 := rfl
  have s10 : stN 10 = 9 := rfl
  have gj := (sb_dg_in j).2
  have gv := (sb_dg_in v).2
  have gs := (sb_dg_in s).2
  have gc := (sb_dg_in c).2
  have dj := tl_dec (k := j) (by omega)
  have dv := tl_dec (k := v) (by omega)
  have ds := tl_dec (k := s) (by omega)
  have dc := tl_dec (k := c) (by omega)
  unfold hL_texts_233
  rw [e1, es, ec, pu_ix j (by omega), pu_ix v (by omega), pu_ix s (by omega), pu_ix c (by omega)]
  rw [if_pos (by omega), if_pos (by omega), if_pos (nn_nI (by omega)), if_pos (by omega), if_pos (by omega), if_pos (nn_nI (by omega)), if_pos (by omega), if_pos (by omega), if_pos (nn_nI (by omega)), if_pos (by omega), if_pos (by omega), if_pos (nn_nI (by omega)), if_pos (by omega)]
  by_cases g : Z 6 j 4 = 1
  · rw [if_pos g, if_pos g]
    refine Exists.elim (tx_315 (K := K) (a0 := sb_cat a0 b0 (stT u1)) (b0 := b0 + stN u1) (a8 := a8) (b8 := b8) (u1 := 10) (X := X) (Z := Z) hj (by omega) ?_ e2 hp e3 hr) (fun t' h => Exists.elim h (fun n' h => ⟨t', n', h.1, ?_⟩))
    · omega
    · rw [h.2]
      simp only [tl_cat, tl_15, tl_10, tl_c32, dj, dv, ds, dc, fld, List.append_assoc, List.cons_append, List.nil_append, List.append_nil]
  · rw [if_neg g, if_neg g]
    refine Exists.elim (tx_315 (K := K) (a0 := sb_cat a0 b0 (stT u1)) (b0 := b0 + stN u1) (a8 := a8) (b8 := b8) (u1 := 16) (X := X) (Z := Z) hj (by omega) ?_ e2 hp e3 hr) (fun t' h => Exists.elim h (fun n' h => ⟨t', n', h.1, ?_⟩))
    · omega
    · rw [h.2]
      simp only [tl_cat, tl_15, tl_16, tl_c32, dj, dv, ds, dc, fld, List.append_assoc, List.cons_append, List.nil_append, List.append_nil]
