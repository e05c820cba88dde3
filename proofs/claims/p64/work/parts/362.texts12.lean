set_option maxHeartbeats 4000000 in
set_option maxRecDepth 100000 in
theorem qL_texts_74 {p : Program} {l : Launch} {e : Env} {s : State} {m : MethodId} {args : Array Value} {below : List Frame} {meth : Method} {c : Code} {ρ : bsR} {sc L : Nat} {xs : Nat → Int32} {cA : Nat → ClassId} {dC : Nat → ClassId} {dI : Nat → Nat → Nat} {A : Nat → Prop} {Ts : List Cond} {σ : xA2} {F : va_W} {z : (Int32 × bsX × pY)} (C : xCx p m c cL_texts 7 s args Ts RL ρ sc L xs cA dC dI A meth (some .boolean)) (hst : l.stackTraces = false)  : ∀ (n : Nat), ∀ (tt0 : (Nat → Nat)) (nn0 : Nat) (tt8 : (Nat → Nat)) (nn8 : Nat) (tt16 : (Nat → Nat)) (nn16 : Nat) (x5 : Int32) (X : bsX) (Z : pY) (θ : xA2) (sb0 : Nat) (sv0 : Nat) (sk0 : Nat) (sa0 : (Nat → Int32)) (sm0 : Int32) (sb8 : Nat) (sv8 : Nat) (sk8 : Nat) (sa8 : (Nat → Int32)) (sm8 : Int32) (sb16 : Nat) (sv16 : Nat) (sk16 : Nat) (sa16 : (Nat → Int32)) (sm16 : Int32) (cl sl : Nat), sb_Lat tt0 nn0 sa0 → sb_Fit sa0 → nn0 ≤ sk0 → sk0 ≤ 1026 → sb_Lat tt8 nn8 sa8 → sb_Fit sa8 → nn8 ≤ sk8 → sk8 ≤ 1026 → sb_Lat tt16 nn16 sa16 → sb_Fit sa16 → nn16 ≤ sk16 → sk16 ≤ 1026 → cl + (n * 1 + (1855)) ≤ 1877 → sl + (n * 1026 + (275364)) ≤ 291880 → hL_texts_74  n tt0 nn0 tt8 nn8 tt16 nn16 x5 X Z = some z → xV p l e rmL_texts s m args below meth c cl sl (MQ below (xQi ρ cA dC dI A (fun r X' R' => r = z.1 ∧ X' = z.2.1 ∧ ∃ θ' : xA2, R' = lwWs σ θ' cA z.2.2 ++ F)) args s rmL_texts.cells rmL_texts.slots A) ρ cA dC dI A (lwWs σ θ cA Z ++ (F ++ [(sb0, sbC sv0 sm0 (nI nn0)), (sv0, byC cA sk0 sa0), (sb8, sbC sv8 sm8 (nI nn8)), (sv8, byC cA sk8 sa8), (sb16, sbC sv16 sm16 (nI nn16)), (sv16, byC cA sk16 sa16)])) 7 74 [(0, .ref (ρ 13 0 0)), (1, .ref (σ 0 0)), (2, .ref sb0), (3, .ref sb8), (4, .ref sb16), (5, .int x5)] [] X := by
  intro n
  induction n with
  | zero => intro tt0 nn0 tt8 nn8 tt16 nn16 x5 X Z θ sb0 sv0 sk0 sa0 sm0 sb8 sv8 sk8 sa8 sm8 sb16 sv16 sk16 sa16 sm16 cl sl hL0 hF0 hN0 hK0 hL8 hF8 hN8 hK8 hL16 hF16 hN16 hK16 hcl hsl hf; exact (nomatch hf)
  | succ n ih =>
    intro tt0 nn0 tt8 nn8 tt16 nn16 x5 X Z θ sb0 sv0 sk0 sa0 sm0 sb8 sv8 sk8 sa8 sm8 sb16 sv16 sk16 sa16 sm16 cl sl hL0 hF0 hN0 hK0 hL8 hF8 hN8 hK8 hL16 hF16 hN16 hK16 hcl hsl hf
    rw [hL_texts_74] at hf
    refine x_iload C dL_texts_74 rfl ?_
    refine x_aload_n C dL_texts_76 rfl rfl ?_
    refine xg_L_114 C dL_texts_77 ?_
    refine xn_plc C dL_texts_80 ?_
    refine x_icmp_ge (tgt := 99) C dL_texts_81 (by decide) (fun h93 => ?_) (fun h93 => ?_)
    · replace hf := bs_pos h93 hf
      refine x_iconst (v := 0) C dL_texts_99 (by decide) ?_
      refine x_istore (lv' := [(5, .int (0 : Int32)), (0, .ref (ρ 13 0 0)), (1, .ref (σ 0 0)), (2, .ref sb0), (3, .ref sb8), (4, .ref sb16)]) C dL_texts_100 (by decide) rfl ?_
      refine x_sub [1, 2, 3, 4, 5, 0] rfl ?_
      exact qL_texts_102  C hst  8 _ _ _ _ _ _ _ _ _ _ _ _ _ _ _ _ _ _ _ _ _ _ _ _ _ _ _ hL0 hF0 hN0 hK0 hL8 hF8 hN8 hK8 hL16 hF16 hN16 hK16 (by show _ + (200 + _) ≤ _; omega) (tx_e hsl rfl) hf
    · replace hf := bs_neg h93 hf
      refine x_aload C dL_texts_84 rfl ?_
      refine x_ldcSw (tx := ";slot") (t := 8) C (by decide +kernel) dL_texts_86 ?_
      obtain ⟨hg92, hf⟩ := bs_if hf
      refine x_out [(sb0, sbC sv0 sm0 (nI nn0)), (sv0, byC cA sk0 sa0), (sb8, sbC sv8 sm8 (nI nn8)), (sv8, byC cA sk8 sa8)] [(sb16, sbC sv16 sm16 (nI nn16)), (sv16, byC cA sk16 sa16)] [] rfl ?_
      refine x_callVr (y := yJ4_append_15ec4) (As := [.ref (ρ 16 0 8)]) (rest := []) C (cJ4_append_15ec4_ok (u := 8) hL16 hF16 hN16 hK16 (by decide) hg92) (bsG_in 1461 (by decide +kernel) rfl) wyJ4_append_15ec4 ((jd_at _ [(sb16, sbC sv16 sm16 (nI nn16)), (sv16, byC cA sk16 sa16)] 0).trans rfl) rfl dpJ4_append_15ec4 ⟨Nat.le_of_ble_eq_true rfl, Nat.le_of_ble_eq_true rfl⟩ ⟨by show (cl) + 1 ≤ 1877; omega, by show (sl) + 1026 ≤ 291880; omega⟩ rfl (Nat.le_of_ble_eq_true rfl) dL_texts_89 (fun r' X' R' hp => ?_)
      obtain ⟨eA, eX, sv91, sk91, sa91, sm91, eW, hL91, hF91, hN91, hK91⟩ := hp
      rw [eA, eX, eW]
      clear eA eX eW r' X' R'
      refine x_widen (k := (cl + 1)) (n := (sl + 1026)) (by show (cl) + 1 ≤ _; omega) (by show (sl) + 1026 ≤ _; omega) ?_
      refine x_in [(sb0, sbC sv0 sm0 (nI nn0)), (sv0, byC cA sk0 sa0), (sb8, sbC sv8 sm8 (nI nn8)), (sv8, byC cA sk8 sa8)] [(sb16, sbC sv91 sm91 (nI (nn16 + stN 8))), (sv91, byC cA sk91 sa91)] [] (W := [(sb0, sbC sv0 sm0 (nI nn0)), (sv0, byC cA sk0 sa0), (sb8, sbC sv8 sm8 (nI nn8)), (sv8, byC cA sk8 sa8), (sb16, sbC sv91 sm91 (nI (nn16 + stN 8))), (sv91, byC cA sk91 sa91)]) rfl ?_
      refine x_pop C dL_texts_92 rfl ?_
      refine x_iinc (k0 := 5) (v := (x5 + (1 : Int32))) (lv' := [(5, .int (x5 + (1 : Int32))), (0, .ref (ρ 13 0 0)), (1, .ref (σ 0 0)), (2, .ref sb0), (3, .ref sb8), (4, .ref sb16)]) C dL_texts_93 rfl rfl (by decide) rfl ?_
      refine x_goto (tgt := 74) C dL_texts_96 (by decide) ?_
      refine x_sub [1, 2, 3, 4, 5, 0] rfl ?_
      exact ih _ _ _ _ _ _ _ _ _ _ _ _ _ _ _ _ _ _ _ _ _ _ _ _ _ _ _ hL0 hF0 hN0 hK0 hL8 hF8 hN8 hK8 hL91 hF91 hN91 hK91 (by omega) (tx_s hsl) hf
