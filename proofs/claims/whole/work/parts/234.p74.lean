theorem parse_ex {X W : bsX} {n : Nat} {ts kd nm mr : Int32} {R : Nat → Int32} (hn : n ≤ 600) (ha : alike (X 12) blankY) (hW : PW (bsWr (bsWr X 13 1 0 3 0) 13 1 0 4 (nI n)) W n) (hR : r160 R) :
    PJ (bsWr (bsWr X 13 1 0 3 0) 13 1 0 4 (nI n)) W (-1) (fX4_parse 1 (nI n) X) ((fX9_token (rst W 0 ts kd nm 0 (-1) mr R)).bind fun r6 => fX9_reads r6) := by
  unfold fX4_parse
  rw [cst_789]
  generalize hXb : bsWr (bsWr X 13 1 0 3 0) 13 1 0 4 (nI n) = Xb at *
  have hX : PX Xb n := ⟨by rw [← hXb]; simp [b2_t, b2_f, up_at, up_up, up_id, bsWr], hn⟩
  have h12 : Xb 12 = X 12 := by rw [← hXb]; funext b c d; unfold bsWr; rw [if_neg (by omega), if_neg (by omega)]
  obtain ⟨mk', m1, m2⟩ := marks_0 (X := Xb) (kd := Xb 13 1 0 5) (ts := Xb 13 1 0 6) (te := 0) (er := 0) (ep := -1) (x := nI n) (Y := Xb 1) 6 0 bsF (fun i => Xb 13 7 0 i) (by omega) (by unfold bsF; omega) (fun j hj => by omega)
  have hcp := copy_blank (X := cst Xb (Xb 13 1 0 5) (Xb 13 1 0 6) 0 0 (-1) mk' (Xb 1)) (by rw [cg (by decide) (by decide), h12]; exact ha)
  rw [cg (by decide) (by decide), cY, cup, h12] at hcp
  have hY : alike (sCopy (X 12) (Xb 1)) blankY := alike_trans (sCopy_alike _ _) ha
  generalize sCopy (X 12) (Xb 1) = Y at hcp hY
  obtain ⟨kd0, kr0, q0, r0, a1, a2, a3, a4, a5, a6, a7, a8⟩ := tok_ex hX hW (Nat.zero_le n)
  obtain ⟨nm0, b1, b2'⟩ := a8 ts kd nm 0 (-1) mr R
  have hT0 : Tk Xb n kd0 kr0 q0 r0 nm0 := ⟨a2, a3, a4, a5, fun z => ⟨a6 z, b2' z⟩⟩
  have a7' : fX4_readToken (cst Xb (Xb 13 1 0 5) (Xb 13 1 0 6) 0 0 (-1) mk' Y) = some (cst Xb kd0 (nI q0) (nI r0) 0 (-1) mk' Y) := a7 _ _ _ _ _ _
  have b1' : fX9_token (rst W 0 ts kd nm 0 (-1) mr R) = some (rst W (nI r0) (nI q0) kr0 nm0 0 (-1) mr R) := b1
  have hz : zR R 0 = R := by funext d; unfold zR; rw [if_neg (Nat.not_lt_zero d)]
  have hrz := reads_zero (W := W) (te := nI r0) (ts := nI q0) (kd := kr0) (nm := nm0) (er := 0) (ep := -1) (mr := mr) hR 160 0 bsF (by omega) (by unfold bsF; omega)
  rw [hz, enc_blank hY] at hrz
  have hrd : fX9_reads (rst W (nI r0) (nI q0) kr0 nm0 0 (-1) mr R) = ((fX9_isWord 0 (rst W (nI r0) (nI q0) kr0 nm0 0 (-1) 0 (enc Y))).bind fun r12 => if r12.1 = 0 then (fX9_reads_54 (1 : Int32) r12.2) else (fX9_reads_54 (0 : Int32) r12.2)) := hrz
  have m2' : fX4_parse_27 1 bsF (nI n) 0 (cst Xb (Xb 13 1 0 5) (Xb 13 1 0 6) 0 0 (-1) (fun i => Xb 13 7 0 i) (Xb 1)) = ((fX3_copyFrom 1 12 (cst Xb (Xb 13 1 0 5) (Xb 13 1 0 6) 0 0 (-1) mk' (Xb 1))).bind fun r6 => (fX4_readToken r6).bind fun r8 => (fX4_readFirstLine 1 r8).bind fun r10 => fX4_parse_65 1 bsF (nI n) (0 : Int32) r10) := m2
  rw [m2', hcp, Option.bind_some, a7', Option.bind_some, b1', Option.bind_some, hrd]
  exact first_ex hX hW hT0 hY (MK_0 m1)
/-- where the reference's reading begins, behind the class's state C -/
def Wof (C : bsX) (n : Nat) : bsX := bsWr (bsWr (ar (th C 0) 5 (cpR (th C 0 14 1 0) (th C 0 14 5 0) 0 0 160)) 14 0 0 7 0) 14 0 0 10 (nI n)
theorem Wof_g {C : bsX} {n g : Nat} (h : g ≠ 14) : Wof C n g = C g := by
  funext b c d; unfold Wof bsWr
  rw [if_neg (by omega), if_neg (by omega), ar_val, if_neg (by omega), th_g _ _ h]
theorem Wof_0 {C : bsX} {n i : Nat} (h0 : i ≠ 0) (h7 : i ≠ 7) (h10 : i ≠ 10) : Wof C n 14 0 0 i = C 14 0 0 i := by
  unfold Wof
  rw [show bsWr (bsWr (ar (th C 0) 5 (cpR (th C 0 14 1 0) (th C 0 14 5 0) 0 0 160)) 14 0 0 7 0) 14 0 0 10 (nI n) 14 0 0 i = ar (th C 0) 5 (cpR (th C 0 14 1 0) (th C 0 14 5 0) 0 0 160) 14 0 0 i by unfold bsWr; rw [if_neg (by omega), if_neg (by omega)], ar_val, if_neg (by omega)]
  unfold th bsWr
  rw [if_neg (by omega)]
theorem Wof_00 {C : bsX} {n : Nat} : Wof C n 14 0 0 0 = 0 := by
  unfold Wof
  rw [show bsWr (bsWr (ar (th C 0) 5 (cpR (th C 0 14 1 0) (th C 0 14 5 0) 0 0 160)) 14 0 0 7 0) 14 0 0 10 (nI n) 14 0 0 0 = ar (th C 0) 5 (cpR (th C 0 14 1 0) (th C 0 14 5 0) 0 0 160) 14 0 0 0 by unfold bsWr; rw [if_neg (by omega), if_neg (by omega)], ar_val, if_neg (by omega), th_rd]
theorem Wof_7 {C : bsX} {n : Nat} : Wof C n 14 0 0 7 = 0 := by
  unfold Wof; simp [b2_t, b2_f, up_at, up_up, up_id, bsWr]
theorem Wof_10 {C : bsX} {n : Nat} : Wof C n 14 0 0 10 = nI n := by
  unfold Wof; simp [b2_t, b2_f, up_at, up_up, up_id, bsWr]
theorem Wof_K {C : bsX} {n K : Nat} (h0 : K ≠ 0) (h5 : K ≠ 5) : Wof C n 14 K 0 = C 14 K 0 := by
  funext i
  unfold Wof
  rw [show bsWr (bsWr (ar (th C 0) 5 (cpR (th C 0 14 1 0) (th C 0 14 5 0) 0 0 160)) 14 0 0 7 0) 14 0 0 10 (nI n) 14 K 0 i = ar (th C 0) 5 (cpR (th C 0 14 1 0) (th C 0 14 5 0) 0 0 160) 14 K 0 i by unfold bsWr; rw [if_neg (by omega), if_neg (by omega)], ar_val, if_neg (by omega), th_K _ _ h0]
theorem Wof_5 {C : bsX} {n i : Nat} (hi : i < 160) : Wof C n 14 5 0 i = C 14 1 0 i := by
  unfold Wof
  rw [show bsWr (bsWr (ar (th C 0) 5 (cpR (th C 0 14 1 0) (th C 0 14 5 0) 0 0 160)) 14 0 0 7 0) 14 0 0 10 (nI n) 14 5 0 i = ar (th C 0) 5 (cpR (th C 0 14 1 0) (th C 0 14 5 0) 0 0 160) 14 5 0 i by unfold bsWr; rw [if_neg (by omega), if_neg (by omega)], ar_rd]
  unfold cpR
  rw [if_pos (by omega), th_K _ _ (by decide)]
  congr 1; omega
/-- the reference's load, up to what its reading gives -/
theorem load_r {C : bsX} {n f : Nat} (hn : n ≤ f) (hf : f ≤ 600) (h7 : C 14 0 0 7 = nI f) :
    fX9_load (nI n) C = (((fX9_token (rst (Wof C n) 0 (Wof C n 14 0 0 12) (Wof C n 14 0 0 13) (Wof C n 14 0 0 14) 0 (-1) (Wof C n 14 0 0 18) (Wof C n 14 1 0))).bind fun r6 => fX9_reads r6).bind fun r8 => if ((bsWr r8 14 0 0 8 (r8 14 0 0 15)) 14 0 0 15) = 0 then (fX9_load_104 (-1 : Int32) (bsWr r8 14 0 0 8 (r8 14 0 0 15))) else (fX9_load_104 ((bsWr r8 14 0 0 8 (r8 14 0 0 15)) 14 0 0 16) (bsWr r8 14 0 0 8 (r8 14 0 0 15)))) := by
  have c10 : ¬ (1 : Int32) = 0 := by decide
  have z64 : (0 : Int64) = (0 : Int32).toInt64 := by decide
  have hth : bsWr C 14 0 0 0 (0 : Int32) = th C 0 := rfl
  have t7 : th C 0 14 0 0 7 = nI f := by unfold th bsWr; rw [if_neg (by omega)]; exact h7
  have hg : (0 : Int32) ≤ nI n ∧ nI n ≤ nI f := ⟨(pu_le 0 n (by omega) (by decide)).mpr (Nat.zero_le _), (pu_le n f (by omega) (by omega)).mpr hn⟩
  have hcp : fX9_copies 1 160 5 160 (0 : Int32) (0 : Int32) (th C 0) = some (ar (th C 0) 5 (cpR (th C 0 14 1 0) (th C 0 14 5 0) 0 0 160)) := q9_copies (Ka := 1) (na := 160) (Kb := 5) (nb := 160) (fr := 0) (to := 0) (X := th C 0) (by decide) (by decide) (by decide) (by decide) (by decide)
  unfold fX9_load fX9_load_25
  rw [hth, t7, z64, q9_in, Option.bind_some, decide_eq_true hg, b2_t, if_neg c10]
  rw [q9_refuse (by decide), if_pos rfl, Option.bind_some, if_pos rfl]
  rw [hcp, Option.bind_some, rst_w, Option.bind_assoc]
  rfl
theorem th_self {S : bsX} (h : S 14 0 0 0 = 0) : th S 0 = S := by
  funext a b c d; unfold th bsWr
  by_cases e : a = 14 ∧ b = 0 ∧ c = 0 ∧ d = 0
  · rw [if_pos e, e.1, e.2.1, e.2.2.1, e.2.2.2, h]
  · rw [if_neg e]
theorem refuse_S {S : bsX} {v c : Int32} (h : S 14 0 0 0 = 0) (hc : c ≠ 0) : fX9_refuse v c S = some (if v = 0 then (0, S) else (1, th S c)) := by
  have := q9_refuse (X := S) (v := v) (c := c) hc
  rw [th_self h] at this
  exact this
theorem load75 {X : bsX} : fX8_load_75 bsF 0 X = some (0, X 0 0 0 4, bsWr (bsWr X 13 5 0 0 0) 13 5 0 1 0) := by
  obtain ⟨f, hf⟩ := bsF_5
  rw [hf, fX8_load_75, if_neg (by decide), if_pos (show bsIn (0 : Int32) 2 by decide), show bsIx (0 : Int32) = 0 by decide, nar_b0, show (0 : Int32) + 1 = 1 by decide, fX8_load_75, if_neg (by decide), if_pos (show bsIn (1 : Int32) 2 by decide), show bsIx (1 : Int32) = 1 by decide, nar_b0, show (1 : Int32) + 1 = 2 by decide, fX8_load_75, if_pos (by decide)]
  congr 3
