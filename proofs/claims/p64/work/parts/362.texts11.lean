/-! slots of nested loops, without literals -/
theorem tx_q {a b c sl T : Nat} (h : sl + (a + b + c) ≤ T) : sl + (b + (a + c)) ≤ T := by
  rw [← Nat.add_assoc b a c, Nat.add_comm b a]
  exact h
theorem tx_e {sl a d c T : Nat} (h : sl + (a + c) ≤ T) (e : d = c) : sl + d ≤ T := by
  subst e
  exact Nat.le_trans (Nat.add_le_add_left (Nat.le_add_left _ _) _) h
theorem tx_s {sl n K c T : Nat} (h : sl + ((n + 1) * K + c) ≤ T) : sl + K + (n * K + c) ≤ T := by
  rw [Nat.succ_mul, Nat.add_comm (n * K) K, Nat.add_assoc K, ← Nat.add_assoc sl] at h
  exact h
set_option maxHeartbeats 4000000 in
set_option maxRecDepth 100000 in
theorem qL_texts_102 {p : Program} {l : Launch} {e : Env} {s : State} {m : MethodId} {args : Array Value} {below : List Frame} {meth : Method} {c : Code} {ρ : bsR} {sc L : Nat} {xs : Nat → Int32} {cA : Nat → ClassId} {dC : Nat → ClassId} {dI : Nat → Nat → Nat} {A : Nat → Prop} {Ts : List Cond} {σ : xA2} {F : va_W} {z : (Int32 × bsX × pY)} (C : xCx p m c cL_texts 7 s args Ts RL ρ sc L xs cA dC dI A meth (some .boolean)) (hst : l.stackTraces = false)  : ∀ (n : Nat), ∀ (tt0 : (Nat → Nat)) (nn0 : Nat) (tt8 : (Nat → Nat)) (nn8 : Nat) (tt16 : (Nat → Nat)) (nn16 : Nat) (x5 : Int32) (X : bsX) (Z : pY) (θ : xA2) (sb0 : Nat) (sv0 : Nat) (sk0 : Nat) (sa0 : (Nat → Int32)) (sm0 : Int32) (sb8 : Nat) (sv8 : Nat) (sk8 : Nat) (sa8 : (Nat → Int32)) (sm8 : Int32) (sb16 : Nat) (sv16 : Nat) (sk16 : Nat) (sa16 : (Nat → Int32)) (sm16 : Int32) (cl sl : Nat), sb_Lat tt0 nn0 sa0 → sb_Fit sa0 → nn0 ≤ sk0 → sk0 ≤ 1026 → sb_Lat tt8 nn8 sa8 → sb_Fit sa8 → nn8 ≤ sk8 → sk8 ≤ 1026 → sb_Lat tt16 nn16 sa16 → sb_Fit sa16 → nn16 ≤ sk16 → sk16 ≤ 1026 → cl + (n * 25 + (1655)) ≤ 1877 → sl + (n * 25650 + (70164)) ≤ 291880 → hL_texts_102  n tt0 nn0 tt8 nn8 tt16 nn16 x5 X Z = some z → xV p l e rmL_texts s m args below meth c cl sl (MQ below (xQi ρ cA dC dI A (fun r X' R' => r = z.1 ∧ X' = z.2.1 ∧ ∃ θ' : xA2, R' = lwWs σ θ' cA z.2.2 ++ F)) args s rmL_texts.cells rmL_texts.slots A) ρ cA dC dI A (lwWs σ θ cA Z ++ (F ++ [(sb0, sbC sv0 sm0 (nI nn0)), (sv0, byC cA sk0 sa0), (sb8, sbC sv8 sm8 (nI nn8)), (sv8, byC cA sk8 sa8), (sb16, sbC sv16 sm16 (nI nn16)), (sv16, byC cA sk16 sa16)])) 7 102 [(0, .ref (ρ 13 0 0)), (1, .ref (σ 0 0)), (2, .ref sb0), (3, .ref sb8), (4, .ref sb16), (5, .int x5)] [] X := by
  intro n
  induction n with
  | zero => intro tt0 nn0 tt8 nn8 tt16 nn16 x5 X Z θ sb0 sv0 sk0 sa0 sm0 sb8 sv8 sk8 sa8 sm8 sb16 sv16 sk16 sa16 sm16 cl sl hL0 hF0 hN0 hK0 hL8 hF8 hN8 hK8 hL16 hF16 hN16 hK16 hcl hsl hf; exact (nomatch hf)
  | succ n ih =>
    intro tt0 nn0 tt8 nn8 tt16 nn16 x5 X Z θ sb0 sv0 sk0 sa0 sm0 sb8 sv8 sk8 sa8 sm8 sb16 sv16 sk16 sa16 sm16 cl sl hL0 hF0 hN0 hK0 hL8 hF8 hN8 hK8 hL16 hF16 hN16 hK16 hcl hsl hf
    rw [hL_texts_102] at hf
    rw [Nat.succ_mul] at hsl
    generalize n * 25650 = nK at *
    refine x_iload C dL_texts_102 rfl ?_
    refine x_aload_n C dL_texts_104 rfl rfl ?_
    refine xg_L_114 C dL_texts_105 ?_
    refine xn_plc C dL_texts_108 ?_
    refine x_icmp_ge (tgt := 408) C dL_texts_109 (by decide) (fun h44 => ?_) (fun h44 => ?_)
    · replace hf := bs_pos h44 hf
      refine x_iconst (v := 0) C dL_texts_408 (by decide) ?_
      refine x_aload_n C dL_texts_409 rfl rfl ?_
      refine xg_L_194 C dL_texts_410 ?_
      refine xn_bts C dL_texts_413 ?_
      refine x_bipush (v := 12) C dL_texts_414 (by decide) ?_
      refine x_isub C dL_texts_416 ?_
      refine x_mmax C (Nat.le_of_ble_eq_true rfl) (Nat.le_of_ble_eq_true rfl) (by show _ ≤ 1877; omega) (by show _ ≤ 291880; omega) (mm_L_220) dL_texts_417 ?_
      refine x_istore (lv' := [(5, .int (bsMax (0 : Int32) ((nI (lm Z)) - (12 : Int32)))), (0, .ref (ρ 13 0 0)), (1, .ref (σ 0 0)), (2, .ref sb0), (3, .ref sb8), (4, .ref sb16)]) C dL_texts_420 (by decide) rfl ?_
      refine x_sub [1, 2, 3, 4, 5, 0] rfl ?_
      exact qL_texts_422  C hst  14 _ _ _ _ _ _ _ _ _ _ _ _ _ _ _ _ _ _ _ _ _ _ _ _ _ _ _ hL0 hF0 hN0 hK0 hL8 hF8 hN8 hK8 hL16 hF16 hN16 hK16 (by show _ + (56 + _) ≤ _; omega) (tx_e hsl rfl) hf
    · replace hf := bs_neg h44 hf
      refine x_aload_n C dL_texts_112 rfl rfl ?_
      refine xg_L_114 C dL_texts_113 ?_
      refine x_iload C dL_texts_116 rfl ?_
      obtain ⟨hg42, hf⟩ := bs_if hf
      refine xa_plc C hg42 dL_texts_118 ?_
      refine x_astore (lv' := [(6, .ref (σ 5 (bsIx x5))), (0, .ref (ρ 13 0 0)), (1, .ref (σ 0 0)), (2, .ref sb0), (3, .ref sb8), (4, .ref sb16), (5, .int x5)]) C dL_texts_119 (by decide) rfl ?_
      refine x_aload_n C dL_texts_121 rfl rfl ?_
      refine x_iload C dL_texts_122 rfl ?_
      refine x_if_le (tgt := 133) C dL_texts_124 (by decide) (fun h43 => ?_) (fun h43 => ?_)
      · replace hf := bs_pos h43 hf
        refine x_ldcSw (tx := "") (t := 16) C (by decide +kernel) dL_texts_133 ?_
        refine x_sub [1, 2, 3, 4, 5, 6, 0] rfl ?_
        exact qL_texts_136 (hL_texts_102   n) C hst ih ⟨by omega, Nat.le_add_left _ _⟩ _ _ _ _ _ _ _ _ _ _ _ _ _ _ _ _ _ _ _ _ _ _ _ _ _ _ _ _ _ hL0 hF0 hN0 hK0 hL8 hF8 hN8 hK8 hL16 hF16 hN16 hK16 (bsIx_lt hg42) (by decide) (by omega) (tx_q hsl) hf
      · replace hf := bs_neg h43 hf
        refine x_ldcSw (tx := " ") (t := 18) C (by decide +kernel) dL_texts_127 ?_
        refine x_goto (tgt := 136) C dL_texts_130 (by decide) ?_
        refine x_sub [1, 2, 3, 4, 5, 6, 0] rfl ?_
        exact qL_texts_136 (hL_texts_102   n) C hst ih ⟨by omega, Nat.le_add_left _ _⟩ _ _ _ _ _ _ _ _ _ _ _ _ _ _ _ _ _ _ _ _ _ _ _ _ _ _ _ _ _ hL0 hF0 hN0 hK0 hL8 hF8 hN8 hK8 hL16 hF16 hN16 hK16 (bsIx_lt hg42) (by decide) (by omega) (tx_q hsl) hf
