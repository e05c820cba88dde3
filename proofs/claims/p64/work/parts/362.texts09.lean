set_option maxHeartbeats 4000000 in
set_option maxRecDepth 100000 in
theorem qL_texts_458 {p : Program} {l : Launch} {e : Env} {s : State} {m : MethodId} {args : Array Value} {below : List Frame} {meth : Method} {c : Code} {ρ : bsR} {sc L : Nat} {xs : Nat → Int32} {cA : Nat → ClassId} {dC : Nat → ClassId} {dI : Nat → Nat → Nat} {A : Nat → Prop} {Ts : List Cond} {σ : xA2} {F : va_W} (k422 : (Nat → Nat) → Nat → (Nat → Nat) → Nat → (Nat → Nat) → Nat → Int32 → bsX → pY → Option (Int32 × bsX × pY)) {z : (Int32 × bsX × pY)} (C : xCx p m c cL_texts 7 s args Ts RL ρ sc L xs cA dC dI A meth (some .boolean)) (hst : l.stackTraces = false) {NC422 NS422 : Nat} (hk422 : ∀ (tt0 : (Nat → Nat)) (nn0 : Nat) (tt8 : (Nat → Nat)) (nn8 : Nat) (tt16 : (Nat → Nat)) (nn16 : Nat) (x5 : Int32) (X : bsX) (Z : pY) (θ : xA2) (sb0 : Nat) (sv0 : Nat) (sk0 : Nat) (sa0 : (Nat → Int32)) (sm0 : Int32) (sb8 : Nat) (sv8 : Nat) (sk8 : Nat) (sa8 : (Nat → Int32)) (sm8 : Int32) (sb16 : Nat) (sv16 : Nat) (sk16 : Nat) (sa16 : (Nat → Int32)) (sm16 : Int32) (cl sl : Nat), sb_Lat tt0 nn0 sa0 → sb_Fit sa0 → nn0 ≤ sk0 → sk0 ≤ 1026 → sb_Lat tt8 nn8 sa8 → sb_Fit sa8 → nn8 ≤ sk8 → sk8 ≤ 1026 → sb_Lat tt16 nn16 sa16 → sb_Fit sa16 → nn16 ≤ sk16 → sk16 ≤ 1026 → cl + NC422 ≤ 1877 → sl + NS422 ≤ 291880 → k422 tt0 nn0 tt8 nn8 tt16 nn16 x5 X Z = some z → xV p l e rmL_texts s m args below meth c cl sl (MQ below (xQi ρ cA dC dI A (fun r X' R' => r = z.1 ∧ X' = z.2.1 ∧ ∃ θ' : xA2, R' = lwWs σ θ' cA z.2.2 ++ F)) args s rmL_texts.cells rmL_texts.slots A) ρ cA dC dI A (lwWs σ θ cA Z ++ (F ++ [(sb0, sbC sv0 sm0 (nI nn0)), (sv0, byC cA sk0 sa0), (sb8, sbC sv8 sm8 (nI nn8)), (sv8, byC cA sk8 sa8), (sb16, sbC sv16 sm16 (nI nn16)), (sv16, byC cA sk16 sa16)])) 7 422 [(0, .ref (ρ 13 0 0)), (1, .ref (σ 0 0)), (2, .ref sb0), (3, .ref sb8), (4, .ref sb16), (5, .int x5)] [] X) (hn422 : 1599 ≤ NC422 ∧ 12708 ≤ NS422)  : ∀ (tt0 : (Nat → Nat)) (nn0 : Nat) (tt8 : (Nat → Nat)) (nn8 : Nat) (tt16 : (Nat → Nat)) (nn16 : Nat) (x5 : Int32) (q6 : Nat) (u1 : Nat) (X : bsX) (Z : pY) (θ : xA2) (sb0 : Nat) (sv0 : Nat) (sk0 : Nat) (sa0 : (Nat → Int32)) (sm0 : Int32) (sb8 : Nat) (sv8 : Nat) (sk8 : Nat) (sa8 : (Nat → Int32)) (sm8 : Int32) (sb16 : Nat) (sv16 : Nat) (sk16 : Nat) (sa16 : (Nat → Int32)) (sm16 : Int32) (cl sl : Nat), sb_Lat tt0 nn0 sa0 → sb_Fit sa0 → nn0 ≤ sk0 → sk0 ≤ 1026 → sb_Lat tt8 nn8 sa8 → sb_Fit sa8 → nn8 ≤ sk8 → sk8 ≤ 1026 → sb_Lat tt16 nn16 sa16 → sb_Fit sa16 → nn16 ≤ sk16 → sk16 ≤ 1026 → q6 < lm Z → u1 < 22 → cl + ((4 + NC422)) ≤ 1877 → sl + ((4104 + NS422)) ≤ 291880 → hL_texts_458 k422 tt0 nn0 tt8 nn8 tt16 nn16 x5 q6 u1 X Z = some z → xV p l e rmL_texts s m args below meth c cl sl (MQ below (xQi ρ cA dC dI A (fun r X' R' => r = z.1 ∧ X' = z.2.1 ∧ ∃ θ' : xA2, R' = lwWs σ θ' cA z.2.2 ++ F)) args s rmL_texts.cells rmL_texts.slots A) ρ cA dC dI A (lwWs σ θ cA Z ++ (F ++ [(sb0, sbC sv0 sm0 (nI nn0)), (sv0, byC cA sk0 sa0), (sb8, sbC sv8 sm8 (nI nn8)), (sv8, byC cA sk8 sa8), (sb16, sbC sv16 sm16 (nI nn16)), (sv16, byC cA sk16 sa16)])) 7 458 [(0, .ref (ρ 13 0 0)), (1, .ref (σ 0 0)), (2, .ref sb0), (3, .ref sb8), (4, .ref sb16), (5, .int x5), (6, .ref (θ 7 q6))] [.ref (ρ 16 0 u1), .ref sb8] X := by
  intro tt0 nn0 tt8 nn8 tt16 nn16 x5 q6 u1 X Z θ sb0 sv0 sk0 sa0 sm0 sb8 sv8 sk8 sa8 sm8 sb16 sv16 sk16 sa16 sm16 cl sl hL0 hF0 hN0 hK0 hL8 hF8 hN8 hK8 hL16 hF16 hN16 hK16 hq6 hu1 hcl hsl hf
  rw [hL_texts_458] at hf
  obtain ⟨hg95, hf⟩ := bs_if hf
  refine x_out [(sb0, sbC sv0 sm0 (nI nn0)), (sv0, byC cA sk0 sa0)] [(sb8, sbC sv8 sm8 (nI nn8)), (sv8, byC cA sk8 sa8)] [(sb16, sbC sv16 sm16 (nI nn16)), (sv16, byC cA sk16 sa16)] rfl ?_
  refine x_callVr (y := yJ4_append_15ec4) (As := [.ref (ρ 16 0 u1)]) (rest := []) C (cJ4_append_15ec4_ok (u := u1) hL8 hF8 hN8 hK8 hu1 hg95) (bsG_in 1461 (by decide +kernel) rfl) wyJ4_append_15ec4 ((jd_at _ [(sb8, sbC sv8 sm8 (nI nn8)), (sv8, byC cA sk8 sa8)] 0).trans rfl) rfl dpJ4_append_15ec4 ⟨Nat.le_of_ble_eq_true rfl, Nat.le_of_ble_eq_true rfl⟩ ⟨by show (cl) + 1 ≤ 1877; omega, by show (sl) + 1026 ≤ 291880; omega⟩ rfl (Nat.le_of_ble_eq_true rfl) dL_texts_458 (fun r' X' R' hp => ?_)
  obtain ⟨eA, eX, sv94, sk94, sa94, sm94, eW, hL94, hF94, hN94, hK94⟩ := hp
  rw [eA, eX, eW]
  clear eA eX eW r' X' R'
  refine x_widen (k := (cl + 1)) (n := (sl + 1026)) (by show (cl) + 1 ≤ _; omega) (by show (sl) + 1026 ≤ _; omega) ?_
  refine x_in [(sb0, sbC sv0 sm0 (nI nn0)), (sv0, byC cA sk0 sa0)] [(sb8, sbC sv94 sm94 (nI (nn8 + stN u1))), (sv94, byC cA sk94 sa94)] [(sb16, sbC sv16 sm16 (nI nn16)), (sv16, byC cA sk16 sa16)] (W := [(sb0, sbC sv0 sm0 (nI nn0)), (sv0, byC cA sk0 sa0), (sb8, sbC sv94 sm94 (nI (nn8 + stN u1))), (sv94, byC cA sk94 sa94), (sb16, sbC sv16 sm16 (nI nn16)), (sv16, byC cA sk16 sa16)]) rfl ?_
  refine x_aload C dL_texts_461 rfl ?_
  refine x_iconst (v := 0) C dL_texts_463 (by decide) ?_
  refine xl_row C hq6 (by decide) dL_texts_464 ?_
  obtain ⟨hg97, hf⟩ := bs_if hf
  obtain ⟨hg98, hf⟩ := bs_if hf
  refine x_topi (y := nI (bsIx (Z 12 q6 0))) (jd_nat hg97) ?_
  refine x_out [(sb0, sbC sv0 sm0 (nI nn0)), (sv0, byC cA sk0 sa0)] [(sb8, sbC sv94 sm94 (nI (nn8 + stN u1))), (sv94, byC cA sk94 sa94)] [(sb16, sbC sv16 sm16 (nI nn16)), (sv16, byC cA sk16 sa16)] rfl ?_
  refine x_callVr (y := yJ4_append_bf812) (As := [.int (nI (bsIx (Z 12 q6 0)))]) (rest := []) C (cJ4_append_bf812_ok (w := (bsIx (Z 12 q6 0))) hL94 hF94 hN94 hK94 (jd_natlt _) hg98) (bsG_in 1458 (by decide +kernel) rfl) wyJ4_append_bf812 ((jd_at _ [(sb8, sbC sv94 sm94 (nI (nn8 + stN u1))), (sv94, byC cA sk94 sa94)] 0).trans rfl) rfl dpJ4_append_bf812 ⟨Nat.le_of_ble_eq_true rfl, Nat.le_of_ble_eq_true rfl⟩ ⟨by show (cl + 1) + 1 ≤ 1877; omega, by show (sl + 1026) + 1026 ≤ 291880; omega⟩ rfl (Nat.le_of_ble_eq_true rfl) dL_texts_465 (fun r' X' R' hp => ?_)
  obtain ⟨eA, eX, sv96, sk96, sa96, sm96, eW, hL96, hF96, hN96, hK96⟩ := hp
  rw [eA, eX, eW]
  clear eA eX eW r' X' R'
  refine x_widen (k := (cl + 2)) (n := (sl + 2052)) (by show (cl + 1) + 1 ≤ _; omega) (by show (sl + 1026) + 1026 ≤ _; omega) ?_
  refine x_in [(sb0, sbC sv0 sm0 (nI nn0)), (sv0, byC cA sk0 sa0)] [(sb8, sbC sv96 sm96 (nI ((nn8 + stN u1) + sb_dg (bsIx (Z 12 q6 0))))), (sv96, byC cA sk96 sa96)] [(sb16, sbC sv16 sm16 (nI nn16)), (sv16, byC cA sk16 sa16)] (W := [(sb0, sbC sv0 sm0 (nI nn0)), (sv0, byC cA sk0 sa0), (sb8, sbC sv96 sm96 (nI ((nn8 + stN u1) + sb_dg (bsIx (Z 12 q6 0))))), (sv96, byC cA sk96 sa96), (sb16, sbC sv16 sm16 (nI nn16)), (sv16, byC cA sk16 sa16)]) rfl ?_
  refine x_ldcSw (tx := "prchi") (t := 7) C (by decide +kernel) dL_texts_468 ?_
  refine x_aload C dL_texts_471 rfl ?_
  refine x_iconst (v := 1) C dL_texts_473 (by decide) ?_
  refine xl_row C hq6 (by decide) dL_texts_474 ?_
  obtain ⟨hg99, hf⟩ := bs_if hf
  refine x_callTi (y := yJ0_charAt_5068e) (As := [.int (Z 12 q6 1)]) (rest := [.ref sb8]) C (by decide) rfl (cJ0_charAt_5068e_ok (by decide) hg99) (bsG_in 790 (by decide +kernel) rfl) wyJ0_charAt_5068e dpJ0_charAt_5068e ⟨Nat.le_of_ble_eq_true rfl, Nat.le_of_ble_eq_true rfl⟩ ⟨rfl, rfl⟩ ⟨by show (cl + 2) ≤ 1877; omega, by show (sl + 2052) ≤ 291880; omega⟩ rfl (Nat.le_of_ble_eq_true rfl) dL_texts_475 ?_
  obtain ⟨hg101, hf⟩ := bs_if hf
  obtain ⟨hg102, hf⟩ := bs_if hf
  refine x_topi (y := nI (bsIx (bsChr 7 (bsIx (Z 12 q6 1))))) (jd_nat hg101) ?_
  obtain ⟨hg103, hf⟩ := bs_if hf
  refine x_out [(sb0, sbC sv0 sm0 (nI nn0)), (sv0, byC cA sk0 sa0)] [(sb8, sbC sv96 sm96 (nI ((nn8 + stN u1) + sb_dg (bsIx (Z 12 q6 0))))), (sv96, byC cA sk96 sa96)] [(sb16, sbC sv16 sm16 (nI nn16)), (sv16, byC cA sk16 sa16)] rfl ?_
  refine x_callVr (y := yJ4_append_cf468) (As := [.int (nI (bsIx (bsChr 7 (bsIx (Z 12 q6 1)))))]) (rest := []) C (cJ4_append_cf468_ok (ch := (bsIx (bsChr 7 (bsIx (Z 12 q6 1))))) hL96 hF96 hN96 hK96 hg103 hg102) (bsG_in 1459 (by decide +kernel) rfl) wyJ4_append_cf468 ((jd_at _ [(sb8, sbC sv96 sm96 (nI ((nn8 + stN u1) + sb_dg (bsIx (Z 12 q6 0))))), (sv96, byC cA sk96 sa96)] 0).trans rfl) rfl dpJ4_append_cf468 ⟨Nat.le_of_ble_eq_true rfl, Nat.le_of_ble_eq_true rfl⟩ ⟨by show (cl + 2) + 1 ≤ 1877; omega, by show (sl + 2052) + 1026 ≤ 291880; omega⟩ rfl (Nat.le_of_ble_eq_true rfl) dL_texts_478 (fun r' X' R' hp => ?_)
  obtain ⟨eA, eX, sv100, sk100, sa100, sm100, eW, hL100, hF100, hN100, hK100⟩ := hp
  rw [eA, eX, eW]
  clear eA eX eW r' X' R'
  refine x_widen (k := (cl + 3)) (n := (sl + 3078)) (by show (cl + 2) + 1 ≤ _; omega) (by show (sl + 2052) + 1026 ≤ _; omega) ?_
  refine x_in [(sb0, sbC sv0 sm0 (nI nn0)), (sv0, byC cA sk0 sa0)] [(sb8, sbC sv100 sm100 (nI (((nn8 + stN u1) + sb_dg (bsIx (Z 12 q6 0))) + 1))), (sv100, byC cA sk100 sa100)] [(sb16, sbC sv16 sm16 (nI nn16)), (sv16, byC cA sk16 sa16)] (W := [(sb0, sbC sv0 sm0 (nI nn0)), (sv0, byC cA sk0 sa0), (sb8, sbC sv100 sm100 (nI (((nn8 + stN u1) + sb_dg (bsIx (Z 12 q6 0))) + 1))), (sv100, byC cA sk100 sa100), (sb16, sbC sv16 sm16 (nI nn16)), (sv16, byC cA sk16 sa16)]) rfl ?_
  refine x_pop C dL_texts_481 rfl ?_
  refine x_aload C dL_texts_482 rfl ?_
  refine x_iconst (v := 3) C dL_texts_484 (by decide) ?_
  refine xl_row C hq6 (by decide) dL_texts_485 ?_
  refine x_if_ge (tgt := 499) C dL_texts_486 (by decide) (fun h109 => ?_) (fun h109 => ?_)
  · replace hf := bs_pos h109 hf
    refine x_aload_n C dL_texts_499 rfl rfl ?_
    refine x_aload C dL_texts_500 rfl ?_
    refine x_iconst (v := 3) C dL_texts_502 (by decide) ?_
    refine xl_row C hq6 (by decide) dL_texts_503 ?_
    obtain ⟨hg105, hf⟩ := bs_if hf
    obtain ⟨hg106, hf⟩ := bs_if hf
    refine x_topi (y := nI (bsIx (Z 12 q6 3))) (jd_nat hg105) ?_
    refine x_out [(sb0, sbC sv0 sm0 (nI nn0)), (sv0, byC cA sk0 sa0)] [(sb8, sbC sv100 sm100 (nI (((nn8 + stN u1) + sb_dg (bsIx (Z 12 q6 0))) + 1))), (sv100, byC cA sk100 sa100)] [(sb16, sbC sv16 sm16 (nI nn16)), (sv16, byC cA sk16 sa16)] rfl ?_
    refine x_callVr (y := yJ4_append_bf812) (As := [.int (nI (bsIx (Z 12 q6 3)))]) (rest := []) C (cJ4_append_bf812_ok (w := (bsIx (Z 12 q6 3))) hL100 hF100 hN100 hK100 (jd_natlt _) hg106) (bsG_in 1458 (by decide +kernel) rfl) wyJ4_append_bf812 ((jd_at _ [(sb8, sbC sv100 sm100 (nI (((nn8 + stN u1) + sb_dg (bsIx (Z 12 q6 0))) + 1))), (sv100, byC cA sk100 sa100)] 0).trans rfl) rfl dpJ4_append_bf812 ⟨Nat.le_of_ble_eq_true rfl, Nat.le_of_ble_eq_true rfl⟩ ⟨by show (cl + 3) + 1 ≤ 1877; omega, by show (sl + 3078) + 1026 ≤ 291880; omega⟩ rfl (Nat.le_of_ble_eq_true rfl) dL_texts_504 (fun r' X' R' hp => ?_)
    obtain ⟨eA, eX, sv104, sk104, sa104, sm104, eW, hL104, hF104, hN104, hK104⟩ := hp
    rw [eA, eX, eW]
    clear eA eX eW r' X' R'
    refine x_widen (k := (cl + 4)) (n := (sl + 4104)) (by show (cl + 3) + 1 ≤ _; omega) (by show (sl + 3078) + 1026 ≤ _; omega) ?_
    refine x_in [(sb0, sbC sv0 sm0 (nI nn0)), (sv0, byC cA sk0 sa0)] [(sb8, sbC sv104 sm104 (nI ((((nn8 + stN u1) + sb_dg (bsIx (Z 12 q6 0))) + 1) + sb_dg (bsIx (Z 12 q6 3))))), (sv104, byC cA sk104 sa104)] [(sb16, sbC sv16 sm16 (nI nn16)), (sv16, byC cA sk16 sa16)] (W := [(sb0, sbC sv0 sm0 (nI nn0)), (sv0, byC cA sk0 sa0), (sb8, sbC sv104 sm104 (nI ((((nn8 + stN u1) + sb_dg (bsIx (Z 12 q6 0))) + 1) + sb_dg (bsIx (Z 12 q6 3))))), (sv104, byC cA sk104 sa104), (sb16, sbC sv16 sm16 (nI nn16)), (sv16, byC cA sk16 sa16)]) rfl ?_
    refine x_pop C dL_texts_507 rfl ?_
    refine x_sub [0, 1, 2, 3, 4, 5] rfl ?_
    exact qL_texts_508 k422 C hst hk422 hn422 _ _ _ _ _ _ _ _ _ _ _ _ _ _ _ _ _ _ _ _ _ _ _ _ _ _ _ hL0 hF0 hN0 hK0 hL104 hF104 hN104 hK104 hL16 hF16 hN16 hK16 (by omega) (by omega) hf
  · replace hf := bs_neg h109 hf
    refine x_aload_n C dL_texts_489 rfl rfl ?_
    refine x_bipush (v := 114) C dL_texts_490 (by decide) ?_
    obtain ⟨hg108, hf⟩ := bs_if hf
    refine x_out [(sb0, sbC sv0 sm0 (nI nn0)), (sv0, byC cA sk0 sa0)] [(sb8, sbC sv100 sm100 (nI (((nn8 + stN u1) + sb_dg (bsIx (Z 12 q6 0))) + 1))), (sv100, byC cA sk100 sa100)] [(sb16, sbC sv16 sm16 (nI nn16)), (sv16, byC cA sk16 sa16)] rfl ?_
    refine x_callVr (y := yJ4_append_cf468) (As := [.int (nI 114)]) (rest := []) C (cJ4_append_cf468_ok (ch := 114) hL100 hF100 hN100 hK100 hg108 (by decide)) (bsG_in 1459 (by decide +kernel) rfl) wyJ4_append_cf468 ((jd_at _ [(sb8, sbC sv100 sm100 (nI (((nn8 + stN u1) + sb_dg (bsIx (Z 12 q6 0))) + 1))), (sv100, byC cA sk100 sa100)] 0).trans rfl) rfl dpJ4_append_cf468 ⟨Nat.le_of_ble_eq_true rfl, Nat.le_of_ble_eq_true rfl⟩ ⟨by show (cl + 3) + 1 ≤ 1877; omega, by show (sl + 3078) + 1026 ≤ 291880; omega⟩ rfl (Nat.le_of_ble_eq_true rfl) dL_texts_492 (fun r' X' R' hp => ?_)
    obtain ⟨eA, eX, sv107, sk107, sa107, sm107, eW, hL107, hF107, hN107, hK107⟩ := hp
    rw [eA, eX, eW]
    clear eA eX eW r' X' R'
    refine x_widen (k := (cl + 4)) (n := (sl + 4104)) (by show (cl + 3) + 1 ≤ _; omega) (by show (sl + 3078) + 1026 ≤ _; omega) ?_
    refine x_in [(sb0, sbC sv0 sm0 (nI nn0)), (sv0, byC cA sk0 sa0)] [(sb8, sbC sv107 sm107 (nI ((((nn8 + stN u1) + sb_dg (bsIx (Z 12 q6 0))) + 1) + 1))), (sv107, byC cA sk107 sa107)] [(sb16, sbC sv16 sm16 (nI nn16)), (sv16, byC cA sk16 sa16)] (W := [(sb0, sbC sv0 sm0 (nI nn0)), (sv0, byC cA sk0 sa0), (sb8, sbC sv107 sm107 (nI ((((nn8 + stN u1) + sb_dg (bsIx (Z 12 q6 0))) + 1) + 1))), (sv107, byC cA sk107 sa107), (sb16, sbC sv16 sm16 (nI nn16)), (sv16, byC cA sk16 sa16)]) rfl ?_
    refine x_pop C dL_texts_495 rfl ?_
    refine x_goto (tgt := 508) C dL_texts_496 (by decide) ?_
    refine x_sub [0, 1, 2, 3, 4, 5] rfl ?_
    exact qL_texts_508 k422 C hst hk422 hn422 _ _ _ _ _ _ _ _ _ _ _ _ _ _ _ _ _ _ _ _ _ _ _ _ _ _ _ hL0 hF0 hN0 hK0 hL107 hF107 hN107 hK107 hL16 hF16 hN16 hK16 (by omega) (by omega) hf
