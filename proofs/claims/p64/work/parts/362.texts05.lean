set_option maxHeartbeats 4000000 in
set_option maxRecDepth 100000 in
theorem qL_texts_233 {p : Program} {l : Launch} {e : Env} {s : State} {m : MethodId} {args : Array Value} {below : List Frame} {meth : Method} {c : Code} {ρ : bsR} {sc L : Nat} {xs : Nat → Int32} {cA : Nat → ClassId} {dC : Nat → ClassId} {dI : Nat → Nat → Nat} {A : Nat → Prop} {Ts : List Cond} {σ : xA2} {F : va_W} (k102 : (Nat → Nat) → Nat → (Nat → Nat) → Nat → (Nat → Nat) → Nat → Int32 → bsX → pY → Option (Int32 × bsX × pY)) {z : (Int32 × bsX × pY)} (C : xCx p m c cL_texts 7 s args Ts RL ρ sc L xs cA dC dI A meth (some .boolean)) (hst : l.stackTraces = false) {NC102 NS102 : Nat} (hk102 : ∀ (tt0 : (Nat → Nat)) (nn0 : Nat) (tt8 : (Nat → Nat)) (nn8 : Nat) (tt16 : (Nat → Nat)) (nn16 : Nat) (x5 : Int32) (X : bsX) (Z : pY) (θ : xA2) (sb0 : Nat) (sv0 : Nat) (sk0 : Nat) (sa0 : (Nat → Int32)) (sm0 : Int32) (sb8 : Nat) (sv8 : Nat) (sk8 : Nat) (sa8 : (Nat → Int32)) (sm8 : Int32) (sb16 : Nat) (sv16 : Nat) (sk16 : Nat) (sa16 : (Nat → Int32)) (sm16 : Int32) (cl sl : Nat), sb_Lat tt0 nn0 sa0 → sb_Fit sa0 → nn0 ≤ sk0 → sk0 ≤ 1026 → sb_Lat tt8 nn8 sa8 → sb_Fit sa8 → nn8 ≤ sk8 → sk8 ≤ 1026 → sb_Lat tt16 nn16 sa16 → sb_Fit sa16 → nn16 ≤ sk16 → sk16 ≤ 1026 → cl + NC102 ≤ 1877 → sl + NS102 ≤ 291880 → k102 tt0 nn0 tt8 nn8 tt16 nn16 x5 X Z = some z → xV p l e rmL_texts s m args below meth c cl sl (MQ below (xQi ρ cA dC dI A (fun r X' R' => r = z.1 ∧ X' = z.2.1 ∧ ∃ θ' : xA2, R' = lwWs σ θ' cA z.2.2 ++ F)) args s rmL_texts.cells rmL_texts.slots A) ρ cA dC dI A (lwWs σ θ cA Z ++ (F ++ [(sb0, sbC sv0 sm0 (nI nn0)), (sv0, byC cA sk0 sa0), (sb8, sbC sv8 sm8 (nI nn8)), (sv8, byC cA sk8 sa8), (sb16, sbC sv16 sm16 (nI nn16)), (sv16, byC cA sk16 sa16)])) 7 102 [(0, .ref (ρ 13 0 0)), (1, .ref (σ 0 0)), (2, .ref sb0), (3, .ref sb8), (4, .ref sb16), (5, .int x5)] [] X) (hn102 : 1655 ≤ NC102 ∧ 70164 ≤ NS102)  : ∀ (tt0 : (Nat → Nat)) (nn0 : Nat) (tt8 : (Nat → Nat)) (nn8 : Nat) (tt16 : (Nat → Nat)) (nn16 : Nat) (x5 : Int32) (q6 : Nat) (u1 : Nat) (X : bsX) (Z : pY) (θ : xA2) (sb0 : Nat) (sv0 : Nat) (sk0 : Nat) (sa0 : (Nat → Int32)) (sm0 : Int32) (sb8 : Nat) (sv8 : Nat) (sk8 : Nat) (sa8 : (Nat → Int32)) (sm8 : Int32) (sb16 : Nat) (sv16 : Nat) (sk16 : Nat) (sa16 : (Nat → Int32)) (sm16 : Int32) (cl sl : Nat), sb_Lat tt0 nn0 sa0 → sb_Fit sa0 → nn0 ≤ sk0 → sk0 ≤ 1026 → sb_Lat tt8 nn8 sa8 → sb_Fit sa8 → nn8 ≤ sk8 → sk8 ≤ 1026 → sb_Lat tt16 nn16 sa16 → sb_Fit sa16 → nn16 ≤ sk16 → sk16 ≤ 1026 → q6 < ln Z → u1 < 22 → cl + ((18 + NC102)) ≤ 1877 → sl + ((18468 + NS102)) ≤ 291880 → hL_texts_233 k102 tt0 nn0 tt8 nn8 tt16 nn16 x5 q6 u1 X Z = some z → xV p l e rmL_texts s m args below meth c cl sl (MQ below (xQi ρ cA dC dI A (fun r X' R' => r = z.1 ∧ X' = z.2.1 ∧ ∃ θ' : xA2, R' = lwWs σ θ' cA z.2.2 ++ F)) args s rmL_texts.cells rmL_texts.slots A) ρ cA dC dI A (lwWs σ θ cA Z ++ (F ++ [(sb0, sbC sv0 sm0 (nI nn0)), (sv0, byC cA sk0 sa0), (sb8, sbC sv8 sm8 (nI nn8)), (sv8, byC cA sk8 sa8), (sb16, sbC sv16 sm16 (nI nn16)), (sv16, byC cA sk16 sa16)])) 7 233 [(0, .ref (ρ 13 0 0)), (1, .ref (σ 0 0)), (2, .ref sb0), (3, .ref sb8), (4, .ref sb16), (5, .int x5), (6, .ref (σ 5 q6))] [.ref (ρ 16 0 u1), .ref sb0] X := by
  intro tt0 nn0 tt8 nn8 tt16 nn16 x5 q6 u1 X Z θ sb0 sv0 sk0 sa0 sm0 sb8 sv8 sk8 sa8 sm8 sb16 sv16 sk16 sa16 sm16 cl sl hL0 hF0 hN0 hK0 hL8 hF8 hN8 hK8 hL16 hF16 hN16 hK16 hq6 hu1 hcl hsl hf
  rw [hL_texts_233] at hf
  obtain ⟨hg69, hf⟩ := bs_if hf
  refine x_out [] [(sb0, sbC sv0 sm0 (nI nn0)), (sv0, byC cA sk0 sa0)] [(sb8, sbC sv8 sm8 (nI nn8)), (sv8, byC cA sk8 sa8), (sb16, sbC sv16 sm16 (nI nn16)), (sv16, byC cA sk16 sa16)] rfl ?_
  refine x_callVr (y := yJ4_append_15ec4) (As := [.ref (ρ 16 0 u1)]) (rest := []) C (cJ4_append_15ec4_ok (u := u1) hL0 hF0 hN0 hK0 hu1 hg69) (bsG_in 1461 (by decide +kernel) rfl) wyJ4_append_15ec4 ((jd_at _ [(sb0, sbC sv0 sm0 (nI nn0)), (sv0, byC cA sk0 sa0)] 0).trans rfl) rfl dpJ4_append_15ec4 ⟨Nat.le_of_ble_eq_true rfl, Nat.le_of_ble_eq_true rfl⟩ ⟨by show (cl) + 1 ≤ 1877; omega, by show (sl) + 1026 ≤ 291880; omega⟩ rfl (Nat.le_of_ble_eq_true rfl) dL_texts_233 (fun r' X' R' hp => ?_)
  obtain ⟨eA, eX, sv68, sk68, sa68, sm68, eW, hL68, hF68, hN68, hK68⟩ := hp
  rw [eA, eX, eW]
  clear eA eX eW r' X' R'
  refine x_widen (k := (cl + 1)) (n := (sl + 1026)) (by show (cl) + 1 ≤ _; omega) (by show (sl) + 1026 ≤ _; omega) ?_
  refine x_in [] [(sb0, sbC sv68 sm68 (nI (nn0 + stN u1))), (sv68, byC cA sk68 sa68)] [(sb8, sbC sv8 sm8 (nI nn8)), (sv8, byC cA sk8 sa8), (sb16, sbC sv16 sm16 (nI nn16)), (sv16, byC cA sk16 sa16)] (W := [(sb0, sbC sv68 sm68 (nI (nn0 + stN u1))), (sv68, byC cA sk68 sa68), (sb8, sbC sv8 sm8 (nI nn8)), (sv8, byC cA sk8 sa8), (sb16, sbC sv16 sm16 (nI nn16)), (sv16, byC cA sk16 sa16)]) rfl ?_
  refine x_pop C dL_texts_236 rfl ?_
  refine x_aload C dL_texts_237 rfl ?_
  refine x_ldcSw (tx := ";image ") (t := 15) C (by decide +kernel) dL_texts_239 ?_
  obtain ⟨hg71, hf⟩ := bs_if hf
  refine x_out [(sb0, sbC sv68 sm68 (nI (nn0 + stN u1))), (sv68, byC cA sk68 sa68), (sb8, sbC sv8 sm8 (nI nn8)), (sv8, byC cA sk8 sa8)] [(sb16, sbC sv16 sm16 (nI nn16)), (sv16, byC cA sk16 sa16)] [] rfl ?_
  refine x_callVr (y := yJ4_append_15ec4) (As := [.ref (ρ 16 0 15)]) (rest := []) C (cJ4_append_15ec4_ok (u := 15) hL16 hF16 hN16 hK16 (by decide) hg71) (bsG_in 1461 (by decide +kernel) rfl) wyJ4_append_15ec4 ((jd_at _ [(sb16, sbC sv16 sm16 (nI nn16)), (sv16, byC cA sk16 sa16)] 0).trans rfl) rfl dpJ4_append_15ec4 ⟨Nat.le_of_ble_eq_true rfl, Nat.le_of_ble_eq_true rfl⟩ ⟨by show (cl + 1) + 1 ≤ 1877; omega, by show (sl + 1026) + 1026 ≤ 291880; omega⟩ rfl (Nat.le_of_ble_eq_true rfl) dL_texts_242 (fun r' X' R' hp => ?_)
  obtain ⟨eA, eX, sv70, sk70, sa70, sm70, eW, hL70, hF70, hN70, hK70⟩ := hp
  rw [eA, eX, eW]
  clear eA eX eW r' X' R'
  refine x_widen (k := (cl + 2)) (n := (sl + 2052)) (by show (cl + 1) + 1 ≤ _; omega) (by show (sl + 1026) + 1026 ≤ _; omega) ?_
  refine x_in [(sb0, sbC sv68 sm68 (nI (nn0 + stN u1))), (sv68, byC cA sk68 sa68), (sb8, sbC sv8 sm8 (nI nn8)), (sv8, byC cA sk8 sa8)] [(sb16, sbC sv70 sm70 (nI (nn16 + stN 15))), (sv70, byC cA sk70 sa70)] [] (W := [(sb0, sbC sv68 sm68 (nI (nn0 + stN u1))), (sv68, byC cA sk68 sa68), (sb8, sbC sv8 sm8 (nI nn8)), (sv8, byC cA sk8 sa8), (sb16, sbC sv70 sm70 (nI (nn16 + stN 15))), (sv70, byC cA sk70 sa70)]) rfl ?_
  refine x_iload C dL_texts_245 rfl ?_
  obtain ⟨hg73, hf⟩ := bs_if hf
  obtain ⟨hg74, hf⟩ := bs_if hf
  refine x_topi (y := nI (bsIx x5)) (jd_nat hg73) ?_
  refine x_out [(sb0, sbC sv68 sm68 (nI (nn0 + stN u1))), (sv68, byC cA sk68 sa68), (sb8, sbC sv8 sm8 (nI nn8)), (sv8, byC cA sk8 sa8)] [(sb16, sbC sv70 sm70 (nI (nn16 + stN 15))), (sv70, byC cA sk70 sa70)] [] rfl ?_
  refine x_callVr (y := yJ4_append_bf812) (As := [.int (nI (bsIx x5))]) (rest := []) C (cJ4_append_bf812_ok (w := (bsIx x5)) hL70 hF70 hN70 hK70 (jd_natlt _) hg74) (bsG_in 1458 (by decide +kernel) rfl) wyJ4_append_bf812 ((jd_at _ [(sb16, sbC sv70 sm70 (nI (nn16 + stN 15))), (sv70, byC cA sk70 sa70)] 0).trans rfl) rfl dpJ4_append_bf812 ⟨Nat.le_of_ble_eq_true rfl, Nat.le_of_ble_eq_true rfl⟩ ⟨by show (cl + 2) + 1 ≤ 1877; omega, by show (sl + 2052) + 1026 ≤ 291880; omega⟩ rfl (Nat.le_of_ble_eq_true rfl) dL_texts_247 (fun r' X' R' hp => ?_)
  obtain ⟨eA, eX, sv72, sk72, sa72, sm72, eW, hL72, hF72, hN72, hK72⟩ := hp
  rw [eA, eX, eW]
  clear eA eX eW r' X' R'
  refine x_widen (k := (cl + 3)) (n := (sl + 3078)) (by show (cl + 2) + 1 ≤ _; omega) (by show (sl + 2052) + 1026 ≤ _; omega) ?_
  refine x_in [(sb0, sbC sv68 sm68 (nI (nn0 + stN u1))), (sv68, byC cA sk68 sa68), (sb8, sbC sv8 sm8 (nI nn8)), (sv8, byC cA sk8 sa8)] [(sb16, sbC sv72 sm72 (nI ((nn16 + stN 15) + sb_dg (bsIx x5)))), (sv72, byC cA sk72 sa72)] [] (W := [(sb0, sbC sv68 sm68 (nI (nn0 + stN u1))), (sv68, byC cA sk68 sa68), (sb8, sbC sv8 sm8 (nI nn8)), (sv8, byC cA sk8 sa8), (sb16, sbC sv72 sm72 (nI ((nn16 + stN 15) + sb_dg (bsIx x5)))), (sv72, byC cA sk72 sa72)]) rfl ?_
  refine x_bipush (v := 32) C dL_texts_250 (by decide) ?_
  obtain ⟨hg76, hf⟩ := bs_if hf
  refine x_out [(sb0, sbC sv68 sm68 (nI (nn0 + stN u1))), (sv68, byC cA sk68 sa68), (sb8, sbC sv8 sm8 (nI nn8)), (sv8, byC cA sk8 sa8)] [(sb16, sbC sv72 sm72 (nI ((nn16 + stN 15) + sb_dg (bsIx x5)))), (sv72, byC cA sk72 sa72)] [] rfl ?_
  refine x_callVr (y := yJ4_append_cf468) (As := [.int (nI 32)]) (rest := []) C (cJ4_append_cf468_ok (ch := 32) hL72 hF72 hN72 hK72 hg76 (by decide)) (bsG_in 1459 (by decide +kernel) rfl) wyJ4_append_cf468 ((jd_at _ [(sb16, sbC sv72 sm72 (nI ((nn16 + stN 15) + sb_dg (bsIx x5)))), (sv72, byC cA sk72 sa72)] 0).trans rfl) rfl dpJ4_append_cf468 ⟨Nat.le_of_ble_eq_true rfl, Nat.le_of_ble_eq_true rfl⟩ ⟨by show (cl + 3) + 1 ≤ 1877; omega, by show (sl + 3078) + 1026 ≤ 291880; omega⟩ rfl (Nat.le_of_ble_eq_true rfl) dL_texts_252 (fun r' X' R' hp => ?_)
  obtain ⟨eA, eX, sv75, sk75, sa75, sm75, eW, hL75, hF75, hN75, hK75⟩ := hp
  rw [eA, eX, eW]
  clear eA eX eW r' X' R'
  refine x_widen (k := (cl + 4)) (n := (sl + 4104)) (by show (cl + 3) + 1 ≤ _; omega) (by show (sl + 3078) + 1026 ≤ _; omega) ?_
  refine x_in [(sb0, sbC sv68 sm68 (nI (nn0 + stN u1))), (sv68, byC cA sk68 sa68), (sb8, sbC sv8 sm8 (nI nn8)), (sv8, byC cA sk8 sa8)] [(sb16, sbC sv75 sm75 (nI (((nn16 + stN 15) + sb_dg (bsIx x5)) + 1))), (sv75, byC cA sk75 sa75)] [] (W := [(sb0, sbC sv68 sm68 (nI (nn0 + stN u1))), (sv68, byC cA sk68 sa68), (sb8, sbC sv8 sm8 (nI nn8)), (sv8, byC cA sk8 sa8), (sb16, sbC sv75 sm75 (nI (((nn16 + stN 15) + sb_dg (bsIx x5)) + 1))), (sv75, byC cA sk75 sa75)]) rfl ?_
  refine x_aload C dL_texts_255 rfl ?_
  refine xg_L_183 C hq6 dL_texts_257 ?_
  refine x_iconst (v := 0) C dL_texts_260 (by decide) ?_
  refine xl_img C hq6 (by decide) dL_texts_261 ?_
  obtain ⟨hg78, hf⟩ := bs_if hf
  obtain ⟨hg79, hf⟩ := bs_if hf
  refine x_topi (y := nI (bsIx (Z 6 q6 1))) (jd_nat hg78) ?_
  refine x_out [(sb0, sbC sv68 sm68 (nI (nn0 + stN u1))), (sv68, byC cA sk68 sa68), (sb8, sbC sv8 sm8 (nI nn8)), (sv8, byC cA sk8 sa8)] [(sb16, sbC sv75 sm75 (nI (((nn16 + stN 15) + sb_dg (bsIx x5)) + 1))), (sv75, byC cA sk75 sa75)] [] rfl ?_
  refine x_callVr (y := yJ4_append_bf812) (As := [.int (nI (bsIx (Z 6 q6 1)))]) (rest := []) C (cJ4_append_bf812_ok (w := (bsIx (Z 6 q6 1))) hL75 hF75 hN75 hK75 (jd_natlt _) hg79) (bsG_in 1458 (by decide +kernel) rfl) wyJ4_append_bf812 ((jd_at _ [(sb16, sbC sv75 sm75 (nI (((nn16 + stN 15) + sb_dg (bsIx x5)) + 1))), (sv75, byC cA sk75 sa75)] 0).trans rfl) rfl dpJ4_append_bf812 ⟨Nat.le_of_ble_eq_true rfl, Nat.le_of_ble_eq_true rfl⟩ ⟨by show (cl + 4) + 1 ≤ 1877; omega, by show (sl + 4104) + 1026 ≤ 291880; omega⟩ rfl (Nat.le_of_ble_eq_true rfl) dL_texts_262 (fun r' X' R' hp => ?_)
  obtain ⟨eA, eX, sv77, sk77, sa77, sm77, eW, hL77, hF77, hN77, hK77⟩ := hp
  rw [eA, eX, eW]
  clear eA eX eW r' X' R'
  refine x_widen (k := (cl + 5)) (n := (sl + 5130)) (by show (cl + 4) + 1 ≤ _; omega) (by show (sl + 4104) + 1026 ≤ _; omega) ?_
  refine x_in [(sb0, sbC sv68 sm68 (nI (nn0 + stN u1))), (sv68, byC cA sk68 sa68), (sb8, sbC sv8 sm8 (nI nn8)), (sv8, byC cA sk8 sa8)] [(sb16, sbC sv77 sm77 (nI ((((nn16 + stN 15) + sb_dg (bsIx x5)) + 1) + sb_dg (bsIx (Z 6 q6 1))))), (sv77, byC cA sk77 sa77)] [] (W := [(sb0, sbC sv68 sm68 (nI (nn0 + stN u1))), (sv68, byC cA sk68 sa68), (sb8, sbC sv8 sm8 (nI nn8)), (sv8, byC cA sk8 sa8), (sb16, sbC sv77 sm77 (nI ((((nn16 + stN 15) + sb_dg (bsIx x5)) + 1) + sb_dg (bsIx (Z 6 q6 1))))), (sv77, byC cA sk77 sa77)]) rfl ?_
  refine x_bipush (v := 32) C dL_texts_265 (by decide) ?_
  obtain ⟨hg81, hf⟩ := bs_if hf
  refine x_out [(sb0, sbC sv68 sm68 (nI (nn0 + stN u1))), (sv68, byC cA sk68 sa68), (sb8, sbC sv8 sm8 (nI nn8)), (sv8, byC cA sk8 sa8)] [(sb16, sbC sv77 sm77 (nI ((((nn16 + stN 15) + sb_dg (bsIx x5)) + 1) + sb_dg (bsIx (Z 6 q6 1))))), (sv77, byC cA sk77 sa77)] [] rfl ?_
  refine x_callVr (y := yJ4_append_cf468) (As := [.int (nI 32)]) (rest := []) C (cJ4_append_cf468_ok (ch := 32) hL77 hF77 hN77 hK77 hg81 (by decide)) (bsG_in 1459 (by decide +kernel) rfl) wyJ4_append_cf468 ((jd_at _ [(sb16, sbC sv77 sm77 (nI ((((nn16 + stN 15) + sb_dg (bsIx x5)) + 1) + sb_dg (bsIx (Z 6 q6 1))))), (sv77, byC cA sk77 sa77)] 0).trans rfl) rfl dpJ4_append_cf468 ⟨Nat.le_of_ble_eq_true rfl, Nat.le_of_ble_eq_true rfl⟩ ⟨by show (cl + 5) + 1 ≤ 1877; omega, by show (sl + 5130) + 1026 ≤ 291880; omega⟩ rfl (Nat.le_of_ble_eq_true rfl) dL_texts_267 (fun r' X' R' hp => ?_)
  obtain ⟨eA, eX, sv80, sk80, sa80, sm80, eW, hL80, hF80, hN80, hK80⟩ := hp
  rw [eA, eX, eW]
  clear eA eX eW r' X' R'
  refine x_widen (k := (cl + 6)) (n := (sl + 6156)) (by show (cl + 5) + 1 ≤ _; omega) (by show (sl + 5130) + 1026 ≤ _; omega) ?_
  refine x_in [(sb0, sbC sv68 sm68 (nI (nn0 + stN u1))), (sv68, byC cA sk68 sa68), (sb8, sbC sv8 sm8 (nI nn8)), (sv8, byC cA sk8 sa8)] [(sb16, sbC sv80 sm80 (nI (((((nn16 + stN 15) + sb_dg (bsIx x5)) + 1) + sb_dg (bsIx (Z 6 q6 1))) + 1))), (sv80, byC cA sk80 sa80)] [] (W := [(sb0, sbC sv68 sm68 (nI (nn0 + stN u1))), (sv68, byC cA sk68 sa68), (sb8, sbC sv8 sm8 (nI nn8)), (sv8, byC cA sk8 sa8), (sb16, sbC sv80 sm80 (nI (((((nn16 + stN 15) + sb_dg (bsIx x5)) + 1) + sb_dg (bsIx (Z 6 q6 1))) + 1))), (sv80, byC cA sk80 sa80)]) rfl ?_
  refine x_aload C dL_texts_270 rfl ?_
  refine xg_L_183 C hq6 dL_texts_272 ?_
  refine x_iconst (v := 1) C dL_texts_275 (by decide) ?_
  refine xl_img C hq6 (by decide) dL_texts_276 ?_
  obtain ⟨hg83, hf⟩ := bs_if hf
  obtain ⟨hg84, hf⟩ := bs_if hf
  refine x_topi (y := nI (bsIx (Z 6 q6 2))) (jd_nat hg83) ?_
  refine x_out [(sb0, sbC sv68 sm68 (nI (nn0 + stN u1))), (sv68, byC cA sk68 sa68), (sb8, sbC sv8 sm8 (nI nn8)), (sv8, byC cA sk8 sa8)] [(sb16, sbC sv80 sm80 (nI (((((nn16 + stN 15) + sb_dg (bsIx x5)) + 1) + sb_dg (bsIx (Z 6 q6 1))) + 1))), (sv80, byC cA sk80 sa80)] [] rfl ?_
  refine x_callVr (y := yJ4_append_bf812) (As := [.int (nI (bsIx (Z 6 q6 2)))]) (rest := []) C (cJ4_append_bf812_ok (w := (bsIx (Z 6 q6 2))) hL80 hF80 hN80 hK80 (jd_natlt _) hg84) (bsG_in 1458 (by decide +kernel) rfl) wyJ4_append_bf812 ((jd_at _ [(sb16, sbC sv80 sm80 (nI (((((nn16 + stN 15) + sb_dg (bsIx x5)) + 1) + sb_dg (bsIx (Z 6 q6 1))) + 1))), (sv80, byC cA sk80 sa80)] 0).trans rfl) rfl dpJ4_append_bf812 ⟨Nat.le_of_ble_eq_true rfl, Nat.le_of_ble_eq_true rfl⟩ ⟨by show (cl + 6) + 1 ≤ 1877; omega, by show (sl + 6156) + 1026 ≤ 291880; omega⟩ rfl (Nat.le_of_ble_eq_true rfl) dL_texts_277 (fun r' X' R' hp => ?_)
  obtain ⟨eA, eX, sv82, sk82, sa82, sm82, eW, hL82, hF82, hN82, hK82⟩ := hp
  rw [eA, eX, eW]
  clear eA eX eW r' X' R'
  refine x_widen (k := (cl + 7)) (n := (sl + 7182)) (by show (cl + 6) + 1 ≤ _; omega) (by show (sl + 6156) + 1026 ≤ _; omega) ?_
  refine x_in [(sb0, sbC sv68 sm68 (nI (nn0 + stN u1))), (sv68, byC cA sk68 sa68), (sb8, sbC sv8 sm8 (nI nn8)), (sv8, byC cA sk8 sa8)] [(sb16, sbC sv82 sm82 (nI ((((((nn16 + stN 15) + sb_dg (bsIx x5)) + 1) + sb_dg (bsIx (Z 6 q6 1))) + 1) + sb_dg (bsIx (Z 6 q6 2))))), (sv82, byC cA sk82 sa82)] [] (W := [(sb0, sbC sv68 sm68 (nI (nn0 + stN u1))), (sv68, byC cA sk68 sa68), (sb8, sbC sv8 sm8 (nI nn8)), (sv8, byC cA sk8 sa8), (sb16, sbC sv82 sm82 (nI ((((((nn16 + stN 15) + sb_dg (bsIx x5)) + 1) + sb_dg (bsIx (Z 6 q6 1))) + 1) + sb_dg (bsIx (Z 6 q6 2))))), (sv82, byC cA sk82 sa82)]) rfl ?_
  refine x_bipush (v := 32) C dL_texts_280 (by decide) ?_
  obtain ⟨hg86, hf⟩ := bs_if hf
  refine x_out [(sb0, sbC sv68 sm68 (nI (nn0 + stN u1))), (sv68, byC cA sk68 sa68), (sb8, sbC sv8 sm8 (nI nn8)), (sv8, byC cA sk8 sa8)] [(sb16, sbC sv82 sm82 (nI ((((((nn16 + stN 15) + sb_dg (bsIx x5)) + 1) + sb_dg (bsIx (Z 6 q6 1))) + 1) + sb_dg (bsIx (Z 6 q6 2))))), (sv82, byC cA sk82 sa82)] [] rfl ?_
  refine x_callVr (y := yJ4_append_cf468) (As := [.int (nI 32)]) (rest := []) C (cJ4_append_cf468_ok (ch := 32) hL82 hF82 hN82 hK82 hg86 (by decide)) (bsG_in 1459 (by decide +kernel) rfl) wyJ4_append_cf468 ((jd_at _ [(sb16, sbC sv82 sm82 (nI ((((((nn16 + stN 15) + sb_dg (bsIx x5)) + 1) + sb_dg (bsIx (Z 6 q6 1))) + 1) + sb_dg (bsIx (Z 6 q6 2))))), (sv82, byC cA sk82 sa82)] 0).trans rfl) rfl dpJ4_append_cf468 ⟨Nat.le_of_ble_eq_true rfl, Nat.le_of_ble_eq_true rfl⟩ ⟨by show (cl + 7) + 1 ≤ 1877; omega, by show (sl + 7182) + 1026 ≤ 291880; omega⟩ rfl (Nat.le_of_ble_eq_true rfl) dL_texts_282 (fun r' X' R' hp => ?_)
  obtain ⟨eA, eX, sv85, sk85, sa85, sm85, eW, hL85, hF85, hN85, hK85⟩ := hp
  rw [eA, eX, eW]
  clear eA eX eW r' X' R'
  refine x_widen (k := (cl + 8)) (n := (sl + 8208)) (by show (cl + 7) + 1 ≤ _; omega) (by show (sl + 7182) + 1026 ≤ _; omega) ?_
  refine x_in [(sb0, sbC sv68 sm68 (nI (nn0 + stN u1))), (sv68, byC cA sk68 sa68), (sb8, sbC sv8 sm8 (nI nn8)), (sv8, byC cA sk8 sa8)] [(sb16, sbC sv85 sm85 (nI (((((((nn16 + stN 15) + sb_dg (bsIx x5)) + 1) + sb_dg (bsIx (Z 6 q6 1))) + 1) + sb_dg (bsIx (Z 6 q6 2))) + 1))), (sv85, byC cA sk85 sa85)] [] (W := [(sb0, sbC sv68 sm68 (nI (nn0 + stN u1))), (sv68, byC cA sk68 sa68), (sb8, sbC sv8 sm8 (nI nn8)), (sv8, byC cA sk8 sa8), (sb16, sbC sv85 sm85 (nI (((((((nn16 + stN 15) + sb_dg (bsIx x5)) + 1) + sb_dg (bsIx (Z 6 q6 1))) + 1) + sb_dg (bsIx (Z 6 q6 2))) + 1))), (sv85, byC cA sk85 sa85)]) rfl ?_
  refine x_aload C dL_texts_285 rfl ?_
  refine xg_L_183 C hq6 dL_texts_287 ?_
  refine x_iconst (v := 2) C dL_texts_290 (by decide) ?_
  refine xl_img C hq6 (by decide) dL_texts_291 ?_
  obtain ⟨hg88, hf⟩ := bs_if hf
  obtain ⟨hg89, hf⟩ := bs_if hf
  refine x_topi (y := nI (bsIx (Z 6 q6 3))) (jd_nat hg88) ?_
  refine x_out [(sb0, sbC sv68 sm68 (nI (nn0 + stN u1))), (sv68, byC cA sk68 sa68), (sb8, sbC sv8 sm8 (nI nn8)), (sv8, byC cA sk8 sa8)] [(sb16, sbC sv85 sm85 (nI (((((((nn16 + stN 15) + sb_dg (bsIx x5)) + 1) + sb_dg (bsIx (Z 6 q6 1))) + 1) + sb_dg (bsIx (Z 6 q6 2))) + 1))), (sv85, byC cA sk85 sa85)] [] rfl ?_
  refine x_callVr (y := yJ4_append_bf812) (As := [.int (nI (bsIx (Z 6 q6 3)))]) (rest := []) C (cJ4_append_bf812_ok (w := (bsIx (Z 6 q6 3))) hL85 hF85 hN85 hK85 (jd_natlt _) hg89) (bsG_in 1458 (by decide +kernel) rfl) wyJ4_append_bf812 ((jd_at _ [(sb16, sbC sv85 sm85 (nI (((((((nn16 + stN 15) + sb_dg (bsIx x5)) + 1) + sb_dg (bsIx (Z 6 q6 1))) + 1) + sb_dg (bsIx (Z 6 q6 2))) + 1))), (sv85, byC cA sk85 sa85)] 0).trans rfl) rfl dpJ4_append_bf812 ⟨Nat.le_of_ble_eq_true rfl, Nat.le_of_ble_eq_true rfl⟩ ⟨by show (cl + 8) + 1 ≤ 1877; omega, by show (sl + 8208) + 1026 ≤ 291880; omega⟩ rfl (Nat.le_of_ble_eq_true rfl) dL_texts_292 (fun r' X' R' hp => ?_)
  obtain ⟨eA, eX, sv87, sk87, sa87, sm87, eW, hL87, hF87, hN87, hK87⟩ := hp
  rw [eA, eX, eW]
  clear eA eX eW r' X' R'
  refine x_widen (k := (cl + 9)) (n := (sl + 9234)) (by show (cl + 8) + 1 ≤ _; omega) (by show (sl + 8208) + 1026 ≤ _; omega) ?_
  refine x_in [(sb0, sbC sv68 sm68 (nI (nn0 + stN u1))), (sv68, byC cA sk68 sa68), (sb8, sbC sv8 sm8 (nI nn8)), (sv8, byC cA sk8 sa8)] [(sb16, sbC sv87 sm87 (nI ((((((((nn16 + stN 15) + sb_dg (bsIx x5)) + 1) + sb_dg (bsIx (Z 6 q6 1))) + 1) + sb_dg (bsIx (Z 6 q6 2))) + 1) + sb_dg (bsIx (Z 6 q6 3))))), (sv87, byC cA sk87 sa87)] [] (W := [(sb0, sbC sv68 sm68 (nI (nn0 + stN u1))), (sv68, byC cA sk68 sa68), (sb8, sbC sv8 sm8 (nI nn8)), (sv8, byC cA sk8 sa8), (sb16, sbC sv87 sm87 (nI ((((((((nn16 + stN 15) + sb_dg (bsIx x5)) + 1) + sb_dg (bsIx (Z 6 q6 1))) + 1) + sb_dg (bsIx (Z 6 q6 2))) + 1) + sb_dg (bsIx (Z 6 q6 3))))), (sv87, byC cA sk87 sa87)]) rfl ?_
  refine x_aload C dL_texts_295 rfl ?_
  refine xg_L_183 C hq6 dL_texts_297 ?_
  refine x_iconst (v := 3) C dL_texts_300 (by decide) ?_
  refine xl_img C hq6 (by decide) dL_texts_301 ?_
  refine x_iconst (v := 1) C dL_texts_302 (by decide) ?_
  refine x_icmp_ne (tgt := 312) C dL_texts_303 (by decide) (fun h90 => ?_) (fun h90 => ?_)
  · replace hf := bs_neg h90 hf
    refine x_ldcSw (tx := "") (t := 16) C (by decide +kernel) dL_texts_312 ?_
    refine x_sub [0, 1, 2, 3, 4, 5, 6] rfl ?_
    exact qL_texts_315 k102 C hst hk102 hn102 _ _ _ _ _ _ _ _ _ _ _ _ _ _ _ _ _ _ _ _ _ _ _ _ _ _ _ _ _ hL68 hF68 hN68 hK68 hL8 hF8 hN8 hK8 hL87 hF87 hN87 hK87 hq6 (by decide) (by omega) (by omega) hf
  · replace hf := bs_pos h90 hf
    refine x_ldcSw (tx := " unsigned") (t := 10) C (by decide +kernel) dL_texts_306 ?_
    refine x_goto (tgt := 315) C dL_texts_309 (by decide) ?_
    refine x_sub [0, 1, 2, 3, 4, 5, 6] rfl ?_
    exact qL_texts_315 k102 C hst hk102 hn102 _ _ _ _ _ _ _ _ _ _ _ _ _ _ _ _ _ _ _ _ _ _ _ _ _ _ _ _ _ hL68 hF68 hN68 hK68 hL8 hF8 hN8 hK8 hL87 hF87 hN87 hK87 hq6 (by decide) (by omega) (by omega) hf
