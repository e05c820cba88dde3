set_option maxHeartbeats 4000000 in
set_option maxRecDepth 100000 in
theorem qL_texts_338 {p : Program} {l : Launch} {e : Env} {s : State} {m : MethodId} {args : Array Value} {below : List Frame} {meth : Method} {c : Code} {ρ : bsR} {sc L : Nat} {xs : Nat → Int32} {cA : Nat → ClassId} {dC : Nat → ClassId} {dI : Nat → Nat → Nat} {A : Nat → Prop} {Ts : List Cond} {σ : xA2} {F : va_W} (k102 : (Nat → Nat) → Nat → (Nat → Nat) → Nat → (Nat → Nat) → Nat → Int32 → bsX → pY → Option (Int32 × bsX × pY)) {z : (Int32 × bsX × pY)} (C : xCx p m c cL_texts 7 s args Ts RL ρ sc L xs cA dC dI A meth (some .boolean)) (hst : l.stackTraces = false) {NC102 NS102 : Nat} (hk102 : ∀ (tt0 : (Nat → Nat)) (nn0 : Nat) (tt8 : (Nat → Nat)) (nn8 : Nat) (tt16 : (Nat → Nat)) (nn16 : Nat) (x5 : Int32) (X : bsX) (Z : pY) (θ : xA2) (sb0 : Nat) (sv0 : Nat) (sk0 : Nat) (sa0 : (Nat → Int32)) (sm0 : Int32) (sb8 : Nat) (sv8 : Nat) (sk8 : Nat) (sa8 : (Nat → Int32)) (sm8 : Int32) (sb16 : Nat) (sv16 : Nat) (sk16 : Nat) (sa16 : (Nat → Int32)) (sm16 : Int32) (cl sl : Nat), sb_Lat tt0 nn0 sa0 → sb_Fit sa0 → nn0 ≤ sk0 → sk0 ≤ 1026 → sb_Lat tt8 nn8 sa8 → sb_Fit sa8 → nn8 ≤ sk8 → sk8 ≤ 1026 → sb_Lat tt16 nn16 sa16 → sb_Fit sa16 → nn16 ≤ sk16 → sk16 ≤ 1026 → cl + NC102 ≤ 1877 → sl + NS102 ≤ 291880 → k102 tt0 nn0 tt8 nn8 tt16 nn16 x5 X Z = some z → xV p l e rmL_texts s m args below meth c cl sl (MQ below (xQi ρ cA dC dI A (fun r X' R' => r = z.1 ∧ X' = z.2.1 ∧ ∃ θ' : xA2, R' = lwWs σ θ' cA z.2.2 ++ F)) args s rmL_texts.cells rmL_texts.slots A) ρ cA dC dI A (lwWs σ θ cA Z ++ (F ++ [(sb0, sbC sv0 sm0 (nI nn0)), (sv0, byC cA sk0 sa0), (sb8, sbC sv8 sm8 (nI nn8)), (sv8, byC cA sk8 sa8), (sb16, sbC sv16 sm16 (nI nn16)), (sv16, byC cA sk16 sa16)])) 7 102 [(0, .ref (ρ 13 0 0)), (1, .ref (σ 0 0)), (2, .ref sb0), (3, .ref sb8), (4, .ref sb16), (5, .int x5)] [] X) (hn102 : 1655 ≤ NC102 ∧ 70164 ≤ NS102)  : ∀ (tt0 : (Nat → Nat)) (nn0 : Nat) (tt8 : (Nat → Nat)) (nn8 : Nat) (tt16 : (Nat → Nat)) (nn16 : Nat) (x5 : Int32) (q6 : Nat) (u1 : Nat) (X : bsX) (Z : pY) (θ : xA2) (sb0 : Nat) (sv0 : Nat) (sk0 : Nat) (sa0 : (Nat → Int32)) (sm0 : Int32) (sb8 : Nat) (sv8 : Nat) (sk8 : Nat) (sa8 : (Nat → Int32)) (sm8 : Int32) (sb16 : Nat) (sv16 : Nat) (sk16 : Nat) (sa16 : (Nat → Int32)) (sm16 : Int32) (cl sl : Nat), sb_Lat tt0 nn0 sa0 → sb_Fit sa0 → nn0 ≤ sk0 → sk0 ≤ 1026 → sb_Lat tt8 nn8 sa8 → sb_Fit sa8 → nn8 ≤ sk8 → sk8 ≤ 1026 → sb_Lat tt16 nn16 sa16 → sb_Fit sa16 → nn16 ≤ sk16 → sk16 ≤ 1026 → q6 < ln Z → u1 < 22 → cl + ((8 + NC102)) ≤ 1877 → sl + ((8208 + NS102)) ≤ 291880 → hL_texts_338 k102 tt0 nn0 tt8 nn8 tt16 nn16 x5 q6 u1 X Z = some z → xV p l e rmL_texts s m args below meth c cl sl (MQ below (xQi ρ cA dC dI A (fun r X' R' => r = z.1 ∧ X' = z.2.1 ∧ ∃ θ' : xA2, R' = lwWs σ θ' cA z.2.2 ++ F)) args s rmL_texts.cells rmL_texts.slots A) ρ cA dC dI A (lwWs σ θ cA Z ++ (F ++ [(sb0, sbC sv0 sm0 (nI nn0)), (sv0, byC cA sk0 sa0), (sb8, sbC sv8 sm8 (nI nn8)), (sv8, byC cA sk8 sa8), (sb16, sbC sv16 sm16 (nI nn16)), (sv16, byC cA sk16 sa16)])) 7 338 [(0, .ref (ρ 13 0 0)), (1, .ref (σ 0 0)), (2, .ref sb0), (3, .ref sb8), (4, .ref sb16), (5, .int x5), (6, .ref (σ 5 q6))] [.ref (ρ 16 0 u1), .ref sb16] X := by
  intro tt0 nn0 tt8 nn8 tt16 nn16 x5 q6 u1 X Z θ sb0 sv0 sk0 sa0 sm0 sb8 sv8 sk8 sa8 sm8 sb16 sv16 sk16 sa16 sm16 cl sl hL0 hF0 hN0 hK0 hL8 hF8 hN8 hK8 hL16 hF16 hN16 hK16 hq6 hu1 hcl hsl hf
  rw [hL_texts_338] at hf
  obtain ⟨hg113, hf⟩ := bs_if hf
  refine x_out [(sb0, sbC sv0 sm0 (nI nn0)), (sv0, byC cA sk0 sa0), (sb8, sbC sv8 sm8 (nI nn8)), (sv8, byC cA sk8 sa8)] [(sb16, sbC sv16 sm16 (nI nn16)), (sv16, byC cA sk16 sa16)] [] rfl ?_
  refine x_callVr (y := yJ4_append_15ec4) (As := [.ref (ρ 16 0 u1)]) (rest := []) C (cJ4_append_15ec4_ok (u := u1) hL16 hF16 hN16 hK16 hu1 hg113) (bsG_in 1461 (by decide +kernel) rfl) wyJ4_append_15ec4 ((jd_at _ [(sb16, sbC sv16 sm16 (nI nn16)), (sv16, byC cA sk16 sa16)] 0).trans rfl) rfl dpJ4_append_15ec4 ⟨Nat.le_of_ble_eq_true rfl, Nat.le_of_ble_eq_true rfl⟩ ⟨by show (cl) + 1 ≤ 1877; omega, by show (sl) + 1026 ≤ 291880; omega⟩ rfl (Nat.le_of_ble_eq_true rfl) dL_texts_338 (fun r' X' R' hp => ?_)
  obtain ⟨eA, eX, sv112, sk112, sa112, sm112, eW, hL112, hF112, hN112, hK112⟩ := hp
  rw [eA, eX, eW]
  clear eA eX eW r' X' R'
  refine x_widen (k := (cl + 1)) (n := (sl + 1026)) (by show (cl) + 1 ≤ _; omega) (by show (sl) + 1026 ≤ _; omega) ?_
  refine x_in [(sb0, sbC sv0 sm0 (nI nn0)), (sv0, byC cA sk0 sa0), (sb8, sbC sv8 sm8 (nI nn8)), (sv8, byC cA sk8 sa8)] [(sb16, sbC sv112 sm112 (nI (nn16 + stN u1))), (sv112, byC cA sk112 sa112)] [] (W := [(sb0, sbC sv0 sm0 (nI nn0)), (sv0, byC cA sk0 sa0), (sb8, sbC sv8 sm8 (nI nn8)), (sv8, byC cA sk8 sa8), (sb16, sbC sv112 sm112 (nI (nn16 + stN u1))), (sv112, byC cA sk112 sa112)]) rfl ?_
  refine x_pop C dL_texts_341 rfl ?_
  refine x_aload C dL_texts_342 rfl ?_
  refine x_ldcSw (tx := ";mark ") (t := 17) C (by decide +kernel) dL_texts_344 ?_
  obtain ⟨hg115, hf⟩ := bs_if hf
  refine x_out [(sb0, sbC sv0 sm0 (nI nn0)), (sv0, byC cA sk0 sa0), (sb8, sbC sv8 sm8 (nI nn8)), (sv8, byC cA sk8 sa8)] [(sb16, sbC sv112 sm112 (nI (nn16 + stN u1))), (sv112, byC cA sk112 sa112)] [] rfl ?_
  refine x_callVr (y := yJ4_append_15ec4) (As := [.ref (ρ 16 0 17)]) (rest := []) C (cJ4_append_15ec4_ok (u := 17) hL112 hF112 hN112 hK112 (by decide) hg115) (bsG_in 1461 (by decide +kernel) rfl) wyJ4_append_15ec4 ((jd_at _ [(sb16, sbC sv112 sm112 (nI (nn16 + stN u1))), (sv112, byC cA sk112 sa112)] 0).trans rfl) rfl dpJ4_append_15ec4 ⟨Nat.le_of_ble_eq_true rfl, Nat.le_of_ble_eq_true rfl⟩ ⟨by show (cl + 1) + 1 ≤ 1877; omega, by show (sl + 1026) + 1026 ≤ 291880; omega⟩ rfl (Nat.le_of_ble_eq_true rfl) dL_texts_347 (fun r' X' R' hp => ?_)
  obtain ⟨eA, eX, sv114, sk114, sa114, sm114, eW, hL114, hF114, hN114, hK114⟩ := hp
  rw [eA, eX, eW]
  clear eA eX eW r' X' R'
  refine x_widen (k := (cl + 2)) (n := (sl + 2052)) (by show (cl + 1) + 1 ≤ _; omega) (by show (sl + 1026) + 1026 ≤ _; omega) ?_
  refine x_in [(sb0, sbC sv0 sm0 (nI nn0)), (sv0, byC cA sk0 sa0), (sb8, sbC sv8 sm8 (nI nn8)), (sv8, byC cA sk8 sa8)] [(sb16, sbC sv114 sm114 (nI ((nn16 + stN u1) + stN 17))), (sv114, byC cA sk114 sa114)] [] (W := [(sb0, sbC sv0 sm0 (nI nn0)), (sv0, byC cA sk0 sa0), (sb8, sbC sv8 sm8 (nI nn8)), (sv8, byC cA sk8 sa8), (sb16, sbC sv114 sm114 (nI ((nn16 + stN u1) + stN 17))), (sv114, byC cA sk114 sa114)]) rfl ?_
  refine x_iload C dL_texts_350 rfl ?_
  obtain ⟨hg117, hf⟩ := bs_if hf
  obtain ⟨hg118, hf⟩ := bs_if hf
  refine x_topi (y := nI (bsIx x5)) (jd_nat hg117) ?_
  refine x_out [(sb0, sbC sv0 sm0 (nI nn0)), (sv0, byC cA sk0 sa0), (sb8, sbC sv8 sm8 (nI nn8)), (sv8, byC cA sk8 sa8)] [(sb16, sbC sv114 sm114 (nI ((nn16 + stN u1) + stN 17))), (sv114, byC cA sk114 sa114)] [] rfl ?_
  refine x_callVr (y := yJ4_append_bf812) (As := [.int (nI (bsIx x5))]) (rest := []) C (cJ4_append_bf812_ok (w := (bsIx x5)) hL114 hF114 hN114 hK114 (jd_natlt _) hg118) (bsG_in 1458 (by decide +kernel) rfl) wyJ4_append_bf812 ((jd_at _ [(sb16, sbC sv114 sm114 (nI ((nn16 + stN u1) + stN 17))), (sv114, byC cA sk114 sa114)] 0).trans rfl) rfl dpJ4_append_bf812 ⟨Nat.le_of_ble_eq_true rfl, Nat.le_of_ble_eq_true rfl⟩ ⟨by show (cl + 2) + 1 ≤ 1877; omega, by show (sl + 2052) + 1026 ≤ 291880; omega⟩ rfl (Nat.le_of_ble_eq_true rfl) dL_texts_352 (fun r' X' R' hp => ?_)
  obtain ⟨eA, eX, sv116, sk116, sa116, sm116, eW, hL116, hF116, hN116, hK116⟩ := hp
  rw [eA, eX, eW]
  clear eA eX eW r' X' R'
  refine x_widen (k := (cl + 3)) (n := (sl + 3078)) (by show (cl + 2) + 1 ≤ _; omega) (by show (sl + 2052) + 1026 ≤ _; omega) ?_
  refine x_in [(sb0, sbC sv0 sm0 (nI nn0)), (sv0, byC cA sk0 sa0), (sb8, sbC sv8 sm8 (nI nn8)), (sv8, byC cA sk8 sa8)] [(sb16, sbC sv116 sm116 (nI (((nn16 + stN u1) + stN 17) + sb_dg (bsIx x5)))), (sv116, byC cA sk116 sa116)] [] (W := [(sb0, sbC sv0 sm0 (nI nn0)), (sv0, byC cA sk0 sa0), (sb8, sbC sv8 sm8 (nI nn8)), (sv8, byC cA sk8 sa8), (sb16, sbC sv116 sm116 (nI (((nn16 + stN u1) + stN 17) + sb_dg (bsIx x5)))), (sv116, byC cA sk116 sa116)]) rfl ?_
  refine x_bipush (v := 32) C dL_texts_355 (by decide) ?_
  obtain ⟨hg120, hf⟩ := bs_if hf
  refine x_out [(sb0, sbC sv0 sm0 (nI nn0)), (sv0, byC cA sk0 sa0), (sb8, sbC sv8 sm8 (nI nn8)), (sv8, byC cA sk8 sa8)] [(sb16, sbC sv116 sm116 (nI (((nn16 + stN u1) + stN 17) + sb_dg (bsIx x5)))), (sv116, byC cA sk116 sa116)] [] rfl ?_
  refine x_callVr (y := yJ4_append_cf468) (As := [.int (nI 32)]) (rest := []) C (cJ4_append_cf468_ok (ch := 32) hL116 hF116 hN116 hK116 hg120 (by decide)) (bsG_in 1459 (by decide +kernel) rfl) wyJ4_append_cf468 ((jd_at _ [(sb16, sbC sv116 sm116 (nI (((nn16 + stN u1) + stN 17) + sb_dg (bsIx x5)))), (sv116, byC cA sk116 sa116)] 0).trans rfl) rfl dpJ4_append_cf468 ⟨Nat.le_of_ble_eq_true rfl, Nat.le_of_ble_eq_true rfl⟩ ⟨by show (cl + 3) + 1 ≤ 1877; omega, by show (sl + 3078) + 1026 ≤ 291880; omega⟩ rfl (Nat.le_of_ble_eq_true rfl) dL_texts_357 (fun r' X' R' hp => ?_)
  obtain ⟨eA, eX, sv119, sk119, sa119, sm119, eW, hL119, hF119, hN119, hK119⟩ := hp
  rw [eA, eX, eW]
  clear eA eX eW r' X' R'
  refine x_widen (k := (cl + 4)) (n := (sl + 4104)) (by show (cl + 3) + 1 ≤ _; omega) (by show (sl + 3078) + 1026 ≤ _; omega) ?_
  refine x_in [(sb0, sbC sv0 sm0 (nI nn0)), (sv0, byC cA sk0 sa0), (sb8, sbC sv8 sm8 (nI nn8)), (sv8, byC cA sk8 sa8)] [(sb16, sbC sv119 sm119 (nI ((((nn16 + stN u1) + stN 17) + sb_dg (bsIx x5)) + 1))), (sv119, byC cA sk119 sa119)] [] (W := [(sb0, sbC sv0 sm0 (nI nn0)), (sv0, byC cA sk0 sa0), (sb8, sbC sv8 sm8 (nI nn8)), (sv8, byC cA sk8 sa8), (sb16, sbC sv119 sm119 (nI ((((nn16 + stN u1) + stN 17) + sb_dg (bsIx x5)) + 1))), (sv119, byC cA sk119 sa119)]) rfl ?_
  refine x_aload C dL_texts_360 rfl ?_
  refine xg_L_168 C hq6 dL_texts_362 ?_
  obtain ⟨hg122, hf⟩ := bs_if hf
  obtain ⟨hg123, hf⟩ := bs_if hf
  refine x_topi (y := nI (bsIx (Z 5 q6 2))) (jd_nat hg122) ?_
  refine x_out [(sb0, sbC sv0 sm0 (nI nn0)), (sv0, byC cA sk0 sa0), (sb8, sbC sv8 sm8 (nI nn8)), (sv8, byC cA sk8 sa8)] [(sb16, sbC sv119 sm119 (nI ((((nn16 + stN u1) + stN 17) + sb_dg (bsIx x5)) + 1))), (sv119, byC cA sk119 sa119)] [] rfl ?_
  refine x_callVr (y := yJ4_append_bf812) (As := [.int (nI (bsIx (Z 5 q6 2)))]) (rest := []) C (cJ4_append_bf812_ok (w := (bsIx (Z 5 q6 2))) hL119 hF119 hN119 hK119 (jd_natlt _) hg123) (bsG_in 1458 (by decide +kernel) rfl) wyJ4_append_bf812 ((jd_at _ [(sb16, sbC sv119 sm119 (nI ((((nn16 + stN u1) + stN 17) + sb_dg (bsIx x5)) + 1))), (sv119, byC cA sk119 sa119)] 0).trans rfl) rfl dpJ4_append_bf812 ⟨Nat.le_of_ble_eq_true rfl, Nat.le_of_ble_eq_true rfl⟩ ⟨by show (cl + 4) + 1 ≤ 1877; omega, by show (sl + 4104) + 1026 ≤ 291880; omega⟩ rfl (Nat.le_of_ble_eq_true rfl) dL_texts_365 (fun r' X' R' hp => ?_)
  obtain ⟨eA, eX, sv121, sk121, sa121, sm121, eW, hL121, hF121, hN121, hK121⟩ := hp
  rw [eA, eX, eW]
  clear eA eX eW r' X' R'
  refine x_widen (k := (cl + 5)) (n := (sl + 5130)) (by show (cl + 4) + 1 ≤ _; omega) (by show (sl + 4104) + 1026 ≤ _; omega) ?_
  refine x_in [(sb0, sbC sv0 sm0 (nI nn0)), (sv0, byC cA sk0 sa0), (sb8, sbC sv8 sm8 (nI nn8)), (sv8, byC cA sk8 sa8)] [(sb16, sbC sv121 sm121 (nI (((((nn16 + stN u1) + stN 17) + sb_dg (bsIx x5)) + 1) + sb_dg (bsIx (Z 5 q6 2))))), (sv121, byC cA sk121 sa121)] [] (W := [(sb0, sbC sv0 sm0 (nI nn0)), (sv0, byC cA sk0 sa0), (sb8, sbC sv8 sm8 (nI nn8)), (sv8, byC cA sk8 sa8), (sb16, sbC sv121 sm121 (nI (((((nn16 + stN u1) + stN 17) + sb_dg (bsIx x5)) + 1) + sb_dg (bsIx (Z 5 q6 2))))), (sv121, byC cA sk121 sa121)]) rfl ?_
  refine x_bipush (v := 32) C dL_texts_368 (by decide) ?_
  obtain ⟨hg125, hf⟩ := bs_if hf
  refine x_out [(sb0, sbC sv0 sm0 (nI nn0)), (sv0, byC cA sk0 sa0), (sb8, sbC sv8 sm8 (nI nn8)), (sv8, byC cA sk8 sa8)] [(sb16, sbC sv121 sm121 (nI (((((nn16 + stN u1) + stN 17) + sb_dg (bsIx x5)) + 1) + sb_dg (bsIx (Z 5 q6 2))))), (sv121, byC cA sk121 sa121)] [] rfl ?_
  refine x_callVr (y := yJ4_append_cf468) (As := [.int (nI 32)]) (rest := []) C (cJ4_append_cf468_ok (ch := 32) hL121 hF121 hN121 hK121 hg125 (by decide)) (bsG_in 1459 (by decide +kernel) rfl) wyJ4_append_cf468 ((jd_at _ [(sb16, sbC sv121 sm121 (nI (((((nn16 + stN u1) + stN 17) + sb_dg (bsIx x5)) + 1) + sb_dg (bsIx (Z 5 q6 2))))), (sv121, byC cA sk121 sa121)] 0).trans rfl) rfl dpJ4_append_cf468 ⟨Nat.le_of_ble_eq_true rfl, Nat.le_of_ble_eq_true rfl⟩ ⟨by show (cl + 5) + 1 ≤ 1877; omega, by show (sl + 5130) + 1026 ≤ 291880; omega⟩ rfl (Nat.le_of_ble_eq_true rfl) dL_texts_370 (fun r' X' R' hp => ?_)
  obtain ⟨eA, eX, sv124, sk124, sa124, sm124, eW, hL124, hF124, hN124, hK124⟩ := hp
  rw [eA, eX, eW]
  clear eA eX eW r' X' R'
  refine x_widen (k := (cl + 6)) (n := (sl + 6156)) (by show (cl + 5) + 1 ≤ _; omega) (by show (sl + 5130) + 1026 ≤ _; omega) ?_
  refine x_in [(sb0, sbC sv0 sm0 (nI nn0)), (sv0, byC cA sk0 sa0), (sb8, sbC sv8 sm8 (nI nn8)), (sv8, byC cA sk8 sa8)] [(sb16, sbC sv124 sm124 (nI ((((((nn16 + stN u1) + stN 17) + sb_dg (bsIx x5)) + 1) + sb_dg (bsIx (Z 5 q6 2))) + 1))), (sv124, byC cA sk124 sa124)] [] (W := [(sb0, sbC sv0 sm0 (nI nn0)), (sv0, byC cA sk0 sa0), (sb8, sbC sv8 sm8 (nI nn8)), (sv8, byC cA sk8 sa8), (sb16, sbC sv124 sm124 (nI ((((((nn16 + stN u1) + stN 17) + sb_dg (bsIx x5)) + 1) + sb_dg (bsIx (Z 5 q6 2))) + 1))), (sv124, byC cA sk124 sa124)]) rfl ?_
  refine x_aload C dL_texts_373 rfl ?_
  refine xg_L_129 C hq6 dL_texts_375 ?_
  obtain ⟨hg127, hf⟩ := bs_if hf
  obtain ⟨hg128, hf⟩ := bs_if hf
  refine x_topi (y := nI (bsIx (Z 5 q6 3))) (jd_nat hg127) ?_
  refine x_out [(sb0, sbC sv0 sm0 (nI nn0)), (sv0, byC cA sk0 sa0), (sb8, sbC sv8 sm8 (nI nn8)), (sv8, byC cA sk8 sa8)] [(sb16, sbC sv124 sm124 (nI ((((((nn16 + stN u1) + stN 17) + sb_dg (bsIx x5)) + 1) + sb_dg (bsIx (Z 5 q6 2))) + 1))), (sv124, byC cA sk124 sa124)] [] rfl ?_
  refine x_callVr (y := yJ4_append_bf812) (As := [.int (nI (bsIx (Z 5 q6 3)))]) (rest := []) C (cJ4_append_bf812_ok (w := (bsIx (Z 5 q6 3))) hL124 hF124 hN124 hK124 (jd_natlt _) hg128) (bsG_in 1458 (by decide +kernel) rfl) wyJ4_append_bf812 ((jd_at _ [(sb16, sbC sv124 sm124 (nI ((((((nn16 + stN u1) + stN 17) + sb_dg (bsIx x5)) + 1) + sb_dg (bsIx (Z 5 q6 2))) + 1))), (sv124, byC cA sk124 sa124)] 0).trans rfl) rfl dpJ4_append_bf812 ⟨Nat.le_of_ble_eq_true rfl, Nat.le_of_ble_eq_true rfl⟩ ⟨by show (cl + 6) + 1 ≤ 1877; omega, by show (sl + 6156) + 1026 ≤ 291880; omega⟩ rfl (Nat.le_of_ble_eq_true rfl) dL_texts_378 (fun r' X' R' hp => ?_)
  obtain ⟨eA, eX, sv126, sk126, sa126, sm126, eW, hL126, hF126, hN126, hK126⟩ := hp
  rw [eA, eX, eW]
  clear eA eX eW r' X' R'
  refine x_widen (k := (cl + 7)) (n := (sl + 7182)) (by show (cl + 6) + 1 ≤ _; omega) (by show (sl + 6156) + 1026 ≤ _; omega) ?_
  refine x_in [(sb0, sbC sv0 sm0 (nI nn0)), (sv0, byC cA sk0 sa0), (sb8, sbC sv8 sm8 (nI nn8)), (sv8, byC cA sk8 sa8)] [(sb16, sbC sv126 sm126 (nI (((((((nn16 + stN u1) + stN 17) + sb_dg (bsIx x5)) + 1) + sb_dg (bsIx (Z 5 q6 2))) + 1) + sb_dg (bsIx (Z 5 q6 3))))), (sv126, byC cA sk126 sa126)] [] (W := [(sb0, sbC sv0 sm0 (nI nn0)), (sv0, byC cA sk0 sa0), (sb8, sbC sv8 sm8 (nI nn8)), (sv8, byC cA sk8 sa8), (sb16, sbC sv126 sm126 (nI (((((((nn16 + stN u1) + stN 17) + sb_dg (bsIx x5)) + 1) + sb_dg (bsIx (Z 5 q6 2))) + 1) + sb_dg (bsIx (Z 5 q6 3))))), (sv126, byC cA sk126 sa126)]) rfl ?_
  refine x_aload C dL_texts_381 rfl ?_
  refine xg_L_123 C hq6 dL_texts_383 ?_
  refine x_if_eq (tgt := 395) C dL_texts_386 (by decide) (fun h129 => ?_) (fun h129 => ?_)
  · replace hf := bs_pos h129 hf
    refine x_ldcSw (tx := "") (t := 16) C (by decide +kernel) dL_texts_395 ?_
    refine x_sub [0, 1, 2, 3, 4, 5] rfl ?_
    exact qL_texts_398 k102 C hst hk102 hn102 _ _ _ _ _ _ _ _ _ _ _ _ _ _ _ _ _ _ _ _ _ _ _ _ _ _ _ _ hL0 hF0 hN0 hK0 hL8 hF8 hN8 hK8 hL126 hF126 hN126 hK126 (by decide) (by omega) (by omega) hf
  · replace hf := bs_neg h129 hf
    refine x_ldcSw (tx := " good") (t := 13) C (by decide +kernel) dL_texts_389 ?_
    refine x_goto (tgt := 398) C dL_texts_392 (by decide) ?_
    refine x_sub [0, 1, 2, 3, 4, 5] rfl ?_
    exact qL_texts_398 k102 C hst hk102 hn102 _ _ _ _ _ _ _ _ _ _ _ _ _ _ _ _ _ _ _ _ _ _ _ _ _ _ _ _ hL0 hF0 hN0 hK0 hL8 hF8 hN8 hK8 hL126 hF126 hN126 hK126 (by decide) (by omega) (by omega) hf
