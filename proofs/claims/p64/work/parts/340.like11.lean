set_option maxHeartbeats 4000000 in
set_option maxRecDepth 100000 in
theorem qL_isLike_423 {p : Program} {l : Launch} {e : Env} {s : State} {m : MethodId} {args : Array Value} {below : List Frame} {meth : Method} {c : Code} {ρ : bsR} {sc L : Nat} {xs : Nat → Int32} {cA : Nat → ClassId} {dC : Nat → ClassId} {dI : Nat → Nat → Nat} {A : Nat → Prop} {Ts : List Cond} {σ : xA2} {F : va_W} (k413 : Int32 → bsX → pY → Option (Int32 × bsX × pY)) {z : (Int32 × bsX × pY)} (C : xCx p m c cL_isLike 7 s args Ts RL ρ sc L xs cA dC dI A meth (some .boolean)) (hst : l.stackTraces = false) {NC413 NS413 : Nat} (hk413 : ∀ (x4 : Int32) (X : bsX) (Z : pY) (θ : xA2) (cl sl : Nat), cl + NC413 ≤ 610 → sl + NS413 ≤ 3677 → k413 x4 X Z = some z → xV p l e rmL_isLike s m args below meth c cl sl (MQ below (xQi ρ cA dC dI A (fun r X' R' => r = z.1 ∧ X' = z.2.1 ∧ ∃ θ' : xA2, R' = lwWs σ θ' cA z.2.2 ++ F)) args s rmL_isLike.cells rmL_isLike.slots A) ρ cA dC dI A (lwWs σ θ cA Z ++ (F ++ [])) 7 413 [(0, .ref (ρ 13 0 0)), (1, .ref (σ 0 0)), (4, .int x4)] [] X) (hn413 : 24 ≤ NC413 ∧ 136 ≤ NS413)  : ∀ (n : Nat), ∀ (x4 : Int32) (x5 : Int32) (X : bsX) (Z : pY) (θ : xA2) (cl sl : Nat), cl + (n * 2 + (0 + NC413)) ≤ 610 → sl + (n * 12 + (0 + NS413)) ≤ 3677 → hL_isLike_423 k413 n x4 x5 X Z = some z → xV p l e rmL_isLike s m args below meth c cl sl (MQ below (xQi ρ cA dC dI A (fun r X' R' => r = z.1 ∧ X' = z.2.1 ∧ ∃ θ' : xA2, R' = lwWs σ θ' cA z.2.2 ++ F)) args s rmL_isLike.cells rmL_isLike.slots A) ρ cA dC dI A (lwWs σ θ cA Z ++ (F ++ [])) 7 423 [(0, .ref (ρ 13 0 0)), (1, .ref (σ 0 0)), (4, .int x4), (5, .int x5)] [] X := by
  intro n
  induction n with
  | zero => intro x4 x5 X Z θ cl sl hcl hsl hf; exact (nomatch hf)
  | succ n ih =>
    intro x4 x5 X Z θ cl sl hcl hsl hf
    rw [hL_isLike_423] at hf
    refine x_iload C dL_isLike_423 rfl ?_
    refine x_iconst (v := 4) C dL_isLike_425 (by decide) ?_
    refine x_icmp_ge (tgt := 488) C dL_isLike_426 (by decide) (fun h68 => ?_) (fun h68 => ?_)
    · replace hf := bs_pos h68 hf
      refine x_iinc (k0 := 2) (v := (x4 + (1 : Int32))) (lv' := [(4, .int (x4 + (1 : Int32))), (0, .ref (ρ 13 0 0)), (1, .ref (σ 0 0)), (5, .int x5)]) C dL_isLike_488 rfl rfl (by decide) rfl ?_
      refine x_goto (tgt := 413) C dL_isLike_491 (by decide) ?_
      refine x_sub [1, 2, 0] rfl ?_
      exact hk413 _ _ _ _  _ _  (by omega) (by omega) hf
    · replace hf := bs_neg h68 hf
      refine x_aload_n C dL_isLike_429 rfl rfl ?_
      refine x_iload C dL_isLike_430 rfl ?_
      refine x_iload C dL_isLike_432 rfl ?_
      obtain ⟨r61, hc62, hf⟩ := bs_bind hf
      obtain ⟨h063, hf⟩ := bs_if hf
      refine x_callT (y := yX8_boot) (As := [.int x4, .int x5]) (rest := []) C (cX8_boot_ok hst hc62) h063 ml_L_46 wyX8_boot bsm_X8 bsc_X8 rfl dpX8_boot ⟨Nat.le_of_ble_eq_true rfl, Nat.le_of_ble_eq_true rfl⟩ ⟨by show (cl) + 2 ≤ 610; omega, by show (sl) + 12 ≤ 3677; omega⟩ rfl (Nat.le_of_ble_eq_true rfl) dL_isLike_434 ?_
      refine x_widen (k := (cl + 2)) (n := (sl + 12)) (by show (cl) + 2 ≤ _; omega) (by show (sl) + 12 ≤ _; omega) ?_
      refine x_iload C dL_isLike_437 rfl ?_
      refine x_bipush (v := 12) C dL_isLike_439 (by decide) ?_
      refine x_icmp_ge (tgt := 475) C dL_isLike_441 (by decide) (fun h67 => ?_) (fun h67 => ?_)
      · replace hf := bs_pos h67 hf
        refine x_sub [0, 1, 2, 3] rfl ?_
        exact qL_isLike_475 k413 (hL_isLike_423  k413 n) C hst hk413 hn413 ih ⟨by omega, by omega⟩ _ _ _ _ _ _  _ _  (by omega) (by omega) hf
      · replace hf := bs_neg h67 hf
        refine x_iload C dL_isLike_444 rfl ?_
        refine x_aload_n C dL_isLike_446 rfl rfl ?_
        refine xg_L_194 C dL_isLike_447 ?_
        refine xn_bts C dL_isLike_450 ?_
        refine x_icmp_ge (tgt := 475) C dL_isLike_451 (by decide) (fun h66 => ?_) (fun h66 => ?_)
        · replace hf := bs_pos h66 hf
          refine x_sub [0, 1, 2, 3] rfl ?_
          exact qL_isLike_475 k413 (hL_isLike_423  k413 n) C hst hk413 hn413 ih ⟨by omega, by omega⟩ _ _ _ _ _ _  _ _  (by omega) (by omega) hf
        · replace hf := bs_neg h66 hf
          refine x_aload_n C dL_isLike_454 rfl rfl ?_
          refine xg_L_194 C dL_isLike_455 ?_
          refine x_aload_n C dL_isLike_458 rfl rfl ?_
          refine xg_L_194 C dL_isLike_459 ?_
          refine xn_bts C dL_isLike_462 ?_
          refine x_iconst (v := 1) C dL_isLike_463 (by decide) ?_
          refine x_isub C dL_isLike_464 ?_
          refine x_iload C dL_isLike_465 rfl ?_
          refine x_isub C dL_isLike_467 ?_
          obtain ⟨hg64, hf⟩ := bs_if hf
          refine xa_bts C hg64 dL_isLike_468 ?_
          refine x_iload C dL_isLike_469 rfl ?_
          obtain ⟨hg65, hf⟩ := bs_if hf
          refine xl_row C (bsIx_lt hg64) hg65 dL_isLike_471 ?_
          refine x_goto (tgt := 477) C dL_isLike_472 (by decide) ?_
          refine x_sub [0, 1, 2, 3] rfl ?_
          exact qL_isLike_477 k413 (hL_isLike_423  k413 n) C hst hk413 hn413 ih ⟨by omega, by omega⟩ _ _ _ _ _ _ _  _ _  (by omega) (by omega) hf
