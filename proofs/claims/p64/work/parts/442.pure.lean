/-! shares; what stands behind the acts -/
theorem fz_same32 {x : UInt32} (h : FP.Core.decode FP.Core.b32 x.toNat ≠ .nan) : FP.fcmp x x = some .eq := by
  show FP.Core.order (FP.Core.decode FP.Core.b32 x.toNat) (FP.Core.decode FP.Core.b32 x.toNat) = some .eq
  generalize FP.Core.decode FP.Core.b32 x.toNat = d at h ⊢
  cases d with
  | nan => exact absurd rfl h
  | inf s => simp [FP.Core.order]
  | fin s c q => simp [FP.Core.order]
theorem sh_ok {Q n t : Nat} {X : bsX} {Z : pY} (P : PI Q n t X Z) : hL_shares X Z = some (1, X, Z) := by
  obtain ⟨h7, n1, hw, hr, hs⟩ := P
  have c10 : ¬ X 13 0 0 7 = 0 := by rw [h7]; decide
  have a1 : Z 11 0 17 = X 0 4 0 4 := hr.e 4 (by omega)
  have a2 : Z 11 0 13 = X 0 4 0 0 := hr.e 0 (by omega)
  have a3 : Z 0 0 9 = X 0 0 0 9 := hr.num (i := 9) (by omega) (by omega)
  have a4 := hr.tot
  unfold hL_shares fX8_successShare fX8_meanBoot
  rw [if_neg c10]
  simp only [Option.bind_some, if_true]
  rw [a1, a2, fz_same32 (fz_F _ _), if_pos (show Op.cmpValue (some .eq) .l = 0 from rfl), if_neg c10]
  simp only [Option.bind_some, if_true]
  rw [a3, a4, fz_same (fz_D _ _), if_pos (show Op.cmpValue (some .eq) .l = 0 from rfl)]
theorem AI.pi {n Q t T : Nat} {X : bsX} {Z : pY} (P : AI n Q t T X Z) : PI Q n t X Z := ⟨P.1.1, P.2.1, P.2.2.1, P.2.2.2.1, P.2.2.2.2.1⟩
theorem AI.keep {n Q t T : Nat} {X X' : bsX} {Z : pY} (P : AI n Q t T X Z) (h0 : X' 0 = X 0) (h13 : ∀ i, X' 13 0 0 i = X 13 0 0 i) : AI n Q t T X' Z := by
  obtain ⟨⟨h7, np, ck, a, b, c, d⟩, n1, hw, hr, hs, em⟩ := P
  exact ⟨⟨by rw [h13]; exact h7, np, ck, a, b, by rw [h13]; exact c, by rw [h13]; exact d⟩, n1, by rw [h0]; exact hw, by rw [h0]; exact hr, by rw [h0]; exact hs, by rw [h0]; exact em⟩
/-- the four checks -/
theorem AI.checks {n Q t T : Nat} {X : bsX} {Z : pY} (P : AI n Q t T X Z) (ht : t ≤ 9999) (hT : T < 1000000) : hL_isLike X Z = some (1, X, Z) ∧ hL_finds X Z = some (1, X, Z) ∧ ∃ X', hL_texts X Z = some (1, X', Z) ∧ hL_shares X' Z = some (1, X', Z) ∧ AI n Q t T X' Z := by
  obtain ⟨X', e, x0, x13⟩ := tx_ok P.pi ht hT P.2.2.2.2.2
  have P' := P.keep x0 x13
  exact ⟨il_ok P.pi, fn_ok P.pi, X', e, sh_ok P'.pi, P'⟩
/-- three acts -/
theorem AI.three {B1 B2 B3 L n Q t T D : Nat} {xs : Nat → Int32} {X : bsX} {Z : pY} (P : AI n Q t T X Z) (hB1 : T + 120 ≤ B1) (hB2 : T + 240 ≤ B2) (hB3 : T + 360 ≤ B3) (hC1 : B1 ≤ 90000) (hC2 : B2 ≤ 90000) (hC3 : B3 ≤ 90000) (hQ : Q < 700000) (ht : t + 180 ≤ 9999) (hD : D + 24 < 1000000) :
    ∃ X1 Z1 D1 X2 Z2 D2 X3 Z3 D3 Q3 t3 T3, hL_act xs L B1 X Z D = some (1, X1, Z1, D1) ∧ hL_act xs L B2 X1 Z1 D1 = some (1, X2, Z2, D2) ∧ hL_act xs L B3 X2 Z2 D2 = some (1, X3, Z3, D3) ∧ AI n Q3 t3 T3 X3 Z3 ∧ D3 ≤ D + 24 ∧ Q3 ≤ Q + 360 ∧ t3 ≤ t + 180 ∧ T3 ≤ T + 360 := by
  obtain ⟨X1, Z1, D1, q1, t1, T1, a1, P1, a2, a3, a4, a5⟩ := act_ok (B := B1) (L := L) (xs := xs) (D := D) P hB1 hC1 (by omega) (by omega) (by omega)
  obtain ⟨X2, Z2, D2, q2, t2, T2, b1, P2, b2', b3, b4, b5⟩ := act_ok (B := B2) (L := L) (xs := xs) (D := D1) P1 (by omega) hC2 (by omega) (by omega) (by omega)
  obtain ⟨X3, Z3, D3, q3, t3, T3, c1, P3, c2, c3, c4, c5⟩ := act_ok (B := B3) (L := L) (xs := xs) (D := D2) P2 (by omega) hC3 (by omega) (by omega) (by omega)
  exact ⟨X1, Z1, D1, X2, Z2, D2, X3, Z3, D3, q3, t3, T3, a1, b1, c1, P3, by omega, by omega, by omega, by omega⟩
/-- the calls that throw at the end -/
theorem AI.last {n Q t T : Nat} {X : bsX} {Z : pY} (P : AI n Q t T X Z) : fX8_count 20 X = some (3, 0, X) ∧ fX8_slot 0 9 X = some (3, 0, X) ∧ fX8_image 0 5 X = some (3, 0, X) ∧ fX8_install 4 X = some (3, 0, X) ∧ fX8_boot 0 4 X = some (3, 0, X) ∧ fX8_tick 301 X = some (3, 0, X) :=
  ⟨q8_countX P.1.1, (q8_slX P.1.1 P.2.2.1 P.2.1).2, (q8_imX P.1.1 P.2.2.1 P.2.1).2, q8_insX P.1.1, (q8_bootX (T := 0) P.1.1).2, ch_tickN P.1⟩
