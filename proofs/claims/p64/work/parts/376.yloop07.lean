set_option maxHeartbeats 4000000 in
set_option maxRecDepth 100000 in
theorem qX11_init_355 {p : Program} {l : Launch} {e : Env} {s : State} {m : MethodId} {args : Array Value} {below : List Frame} {meth : Method} {c : Code} {ρ : bsR} {sc L : Nat} {xs : Nat → Int32} {cA : Nat → ClassId} {dC : Nat → ClassId} {dI : Nat → Nat → Nat} {A : Nat → Prop} {Ts : List Cond} {σ : xA2} {F : va_W} {δ : Nat} (k233 : (Nat → Nat) → Nat → Int32 → bsX → pY → Nat → Option (Int32 × bsX × pY × Nat × (Nat → Nat) × Nat)) {z : (Int32 × bsX × pY × Nat × (Nat → Nat) × Nat)} (C : xCx p m c cX11_init 4 s args Ts RX11 ρ sc L xs cA dC dI A meth none) {NC233 NS233 : Nat} (hk233 : ∀ (ttt : (Nat → Nat)) (nnt : Nat) (x2 : Int32) (X : bsX) (Z : pY) (D : Nat) (θ : xA2) (svt : Nat) (skt : Nat) (sat : (Nat → Int32)) (smt : Int32) (cl sl : Nat), sb_Lat ttt nnt sat → sb_Fit sat → nnt ≤ skt → skt ≤ 1026 → cl + NC233 ≤ 204 → sl + NS233 ≤ 159576 → k233 ttt nnt x2 X Z D = some z → xVY p l e rmX11_init s m args below meth c cl sl (MQ below (xQvY ρ cA dC dI A (fun X' R' => ∃ σ' : xA2, σ' 0 0 = σ 0 0 ∧ X' = z.2.1 ∧ ∃ (θ' : xA2) (v k : Nat) (a : Nat → Int32) (ml : Int32), sb_Lat z.2.2.2.2.1 z.2.2.2.2.2 a ∧ sb_Fit a ∧ z.2.2.2.2.2 ≤ k ∧ k ≤ 1026 ∧ R' = lwWs σ' θ' cA z.2.2.1 ++ (F ++ [(δ, dCell sc z.2.2.2.1), (σ' 9 0, sbC v ml (nI z.2.2.2.2.2)), (v, byC cA k a)]))) args s rmX11_init.cells rmX11_init.slots A) ρ cA dC dI A (lwWs σ θ cA Z ++ (F ++ [(δ, dCell sc D), ((σ 9 0), sbC svt smt (nI nnt)), (svt, byC cA skt sat)])) 4 233 [(0, .ref (σ 0 0)), (1, .ref δ), (2, .int x2)] [] X) (hn233 : 0 ≤ NC233 ∧ 0 ≤ NS233)  : ∀ (ttt : (Nat → Nat)) (nnt : Nat) (x2 : Int32) (q3 : Nat) (u0 : Nat) (f1 : (Nat → Int32)) (y3 : Int32) (y4 : Int32) (X : bsX) (Z : pY) (D : Nat) (θ : xA2) (svt : Nat) (skt : Nat) (sat : (Nat → Int32)) (smt : Int32) (α1 : Nat) (cl sl : Nat), sb_Lat ttt nnt sat → sb_Fit sat → nnt ≤ skt → skt ≤ 1026 → q3 < ln Z → u0 < ln Z → cl + ((17 + NC233)) ≤ 204 → sl + ((17442 + NS233)) ≤ 159576 → hX11_init_355 xs L k233 ttt nnt x2 q3 u0 f1 y3 y4 X Z D = some z → xVY p l e rmX11_init s m args below meth c cl sl (MQ below (xQvY ρ cA dC dI A (fun X' R' => ∃ σ' : xA2, σ' 0 0 = σ 0 0 ∧ X' = z.2.1 ∧ ∃ (θ' : xA2) (v k : Nat) (a : Nat → Int32) (ml : Int32), sb_Lat z.2.2.2.2.1 z.2.2.2.2.2 a ∧ sb_Fit a ∧ z.2.2.2.2.2 ≤ k ∧ k ≤ 1026 ∧ R' = lwWs σ' θ' cA z.2.2.1 ++ (F ++ [(δ, dCell sc z.2.2.2.1), (σ' 9 0, sbC v ml (nI z.2.2.2.2.2)), (v, byC cA k a)]))) args s rmX11_init.cells rmX11_init.slots A) ρ cA dC dI A (lwWs σ θ cA Z ++ (F ++ [(δ, dCell sc D), ((σ 9 0), sbC svt smt (nI nnt)), (svt, byC cA skt sat), (α1, .inl (cA 0, 5, .inl f1))])) 4 355 [(0, .ref (σ 0 0)), (1, .ref δ), (2, .int x2), (3, .ref (σ 5 q3))] [.int y4, .int y3, .ref α1, .ref α1, .ref (σ 5 u0)] X := by
  intro ttt nnt x2 q3 u0 f1 y3 y4 X Z D θ svt skt sat smt α1 cl sl hLt hFt hNt hKt hq3 hu0 hcl hsl hf
  rw [hX11_init_355] at hf
  obtain ⟨hg6, hf⟩ := bs_if hf
  refine xu_stY (T' := [(δ, dCell sc D), ((σ 9 0), sbC svt smt (nI nnt)), (svt, byC cA skt sat), (α1, .inl (cA 0, 5, .inl (upd f1 (bsIx y3) y4)))]) C 3 rfl hg6 rfl dX11_init_355 ?_
  refine xu_sameY (T' := [(δ, dCell sc D), ((σ 9 0), sbC svt smt (nI nnt)), (svt, byC cA skt sat), (α1, .inl (cA 0, 5, .inl (fun i => (zIm (upd f1 (bsIx y3) y4) u0 Z) 6 u0 (i + 1))))]) 3 rfl (cell_I (fun i hi => zIm_img hi)) rfl ?_
  obtain ⟨q0, hq, he⟩ := lw_at (σ := σ) (θ := θ) (cA := cA) (Z := Z) (K := 5) (j := u0) (lwK_mem.mpr (Or.inr (Or.inl ⟨rfl, hu0⟩))) (F ++ [(δ, dCell sc D), ((σ 9 0), sbC svt smt (nI nnt)), (svt, byC cA skt sat), (α1, .inl (cA 0, 5, .inl (fun i => (zIm (upd f1 (bsIx y3) y4) u0 Z) 6 u0 (i + 1))))])
  refine x_putNY C (N := 8) (k := 0) (T := TX10) (Cn := RX10) (ref := "BootSlotsLaw$Place") (host := "BootSlotsLaw") (fs := lwF5 θ Z u0) (ty := .array .int) he rfl bsin_X10 tyX10 tyX10_ok nmX10 (by decide) (by decide +kernel) rfl rfl rfl rfl rfl (Nat.le_of_ble_eq_true rfl) (show _ = (lwWs σ θ cA Z).set q0 (σ 5 u0, .inr (12, (lwF5 θ Z u0).set 0 (.ref α1))) ++ ((F ++ [(δ, dCell sc D), ((σ 9 0), sbC svt smt (nI nnt)), (svt, byC cA skt sat)]) ++ [(α1, .inl (cA 0, 5, .inl (fun i => (zIm (upd f1 (bsIx y3) y4) u0 Z) 6 u0 (i + 1))))]) from by rw [List.set_append, if_pos (by have := (List.getElem?_eq_some_iff.mp hq).1; simpa [lwWs] using this), List.append_assoc]; rfl) dX11_init_356 ?_
  refine x_newImgY (Z' := (zIm (upd f1 (bsIx y3) y4) u0 Z)) hu0 hq zIm_ln zIm_lm rfl (fun K k i h => zIm_no h) (fun θ => ?_)
  clear he hq
  refine x_aload_nY C dX11_init_359 rfl rfl ?_
  refine x_iconstY (v := 1) C dX11_init_360 (by decide) ?_
  refine xp_X11_79Y C (zIm_lt hq3) dX11_init_361 ?_
  refine x_aload_nY C dX11_init_364 rfl rfl ?_
  refine x_iconstY (v := 1) C dX11_init_365 (by decide) ?_
  refine xp_X11_82Y C (ln_lt (zIm_lt hq3) (by omega)) dX11_init_366 ?_
  refine x_aload_nY C dX11_init_369 rfl rfl ?_
  refine xg_X11_60Y C dX11_init_370 ?_
  refine x_ldcSY (tx := ";image ") (t := 15) C (by decide +kernel) dX11_init_373 ?_
  obtain ⟨hg12, hf⟩ := bs_if hf
  refine x_outY [(δ, dCell sc D)] [((σ 9 0), sbC svt smt (nI nnt)), (svt, byC cA skt sat)] [] rfl ?_
  refine x_callVrY (y := yJ4_append_15ec4) (As := [.ref (ρ 16 0 15)]) (rest := []) C (cJ4_append_15ec4_okY (u := 15) hLt hFt hNt hKt (by decide) hg12) (bsG_in 715 (by decide +kernel) rfl) wyJ4_append_15ec4 ((jd_at _ [((σ 9 0), sbC svt smt (nI nnt)), (svt, byC cA skt sat)] 0).trans rfl) rfl dpJ4_append_15ec4 ⟨Nat.le_of_ble_eq_true rfl, Nat.le_of_ble_eq_true rfl⟩ ⟨by show (cl) + 1 ≤ 204; omega, by show (sl) + 1026 ≤ 159576; omega⟩ rfl (Nat.le_of_ble_eq_true rfl) dX11_init_375 (fun r' X' R' hp => ?_)
  obtain ⟨eA, eX, sv11, sk11, sa11, sm11, eW, hL11, hF11, hN11, hK11⟩ := hp
  rw [eA, eX, eW]
  clear eA eX eW r' X' R'
  refine x_widenY (k := (cl + 1)) (n := (sl + 1026)) (by show (cl) + 1 ≤ _; omega) (by show (sl) + 1026 ≤ _; omega) ?_
  refine x_inY [(δ, dCell sc D)] [((σ 9 0), sbC sv11 sm11 (nI (nnt + stN 15))), (sv11, byC cA sk11 sa11)] [] (W := [(δ, dCell sc D), ((σ 9 0), sbC sv11 sm11 (nI (nnt + stN 15))), (sv11, byC cA sk11 sa11)]) rfl ?_
  refine x_iload_nY C dX11_init_378 rfl rfl ?_
  obtain ⟨hg14, hf⟩ := bs_if hf
  obtain ⟨hg15, hf⟩ := bs_if hf
  refine x_topiY (y := nI (bsIx x2)) (jd_nat hg14) ?_
  refine x_outY [(δ, dCell sc D)] [((σ 9 0), sbC sv11 sm11 (nI (nnt + stN 15))), (sv11, byC cA sk11 sa11)] [] rfl ?_
  refine x_callVrY (y := yJ4_append_bf812) (As := [.int (nI (bsIx x2))]) (rest := []) C (cJ4_append_bf812_okY (w := (bsIx x2)) hL11 hF11 hN11 hK11 (jd_natlt _) hg15) (bsG_in 622 (by decide +kernel) rfl) wyJ4_append_bf812 ((jd_at _ [((σ 9 0), sbC sv11 sm11 (nI (nnt + stN 15))), (sv11, byC cA sk11 sa11)] 0).trans rfl) rfl dpJ4_append_bf812 ⟨Nat.le_of_ble_eq_true rfl, Nat.le_of_ble_eq_true rfl⟩ ⟨by show (cl + 1) + 1 ≤ 204; omega, by show (sl + 1026) + 1026 ≤ 159576; omega⟩ rfl (Nat.le_of_ble_eq_true rfl) dX11_init_379 (fun r' X' R' hp => ?_)
  obtain ⟨eA, eX, sv13, sk13, sa13, sm13, eW, hL13, hF13, hN13, hK13⟩ := hp
  rw [eA, eX, eW]
  clear eA eX eW r' X' R'
  refine x_widenY (k := (cl + 2)) (n := (sl + 2052)) (by show (cl + 1) + 1 ≤ _; omega) (by show (sl + 1026) + 1026 ≤ _; omega) ?_
  refine x_inY [(δ, dCell sc D)] [((σ 9 0), sbC sv13 sm13 (nI ((nnt + stN 15) + sb_dg (bsIx x2)))), (sv13, byC cA sk13 sa13)] [] (W := [(δ, dCell sc D), ((σ 9 0), sbC sv13 sm13 (nI ((nnt + stN 15) + sb_dg (bsIx x2)))), (sv13, byC cA sk13 sa13)]) rfl ?_
  refine x_bipushY (v := 32) C dX11_init_382 (by decide) ?_
  obtain ⟨hg17, hf⟩ := bs_if hf
  refine x_outY [(δ, dCell sc D)] [((σ 9 0), sbC sv13 sm13 (nI ((nnt + stN 15) + sb_dg (bsIx x2)))), (sv13, byC cA sk13 sa13)] [] rfl ?_
  refine x_callVrY (y := yJ4_append_cf468) (As := [.int (nI 32)]) (rest := []) C (cJ4_append_cf468_okY (ch := 32) hL13 hF13 hN13 hK13 hg17 (by decide)) (bsG_in 647 (by decide +kernel) rfl) wyJ4_append_cf468 ((jd_at _ [((σ 9 0), sbC sv13 sm13 (nI ((nnt + stN 15) + sb_dg (bsIx x2)))), (sv13, byC cA sk13 sa13)] 0).trans rfl) rfl dpJ4_append_cf468 ⟨Nat.le_of_ble_eq_true rfl, Nat.le_of_ble_eq_true rfl⟩ ⟨by show (cl + 2) + 1 ≤ 204; omega, by show (sl + 2052) + 1026 ≤ 159576; omega⟩ rfl (Nat.le_of_ble_eq_true rfl) dX11_init_384 (fun r' X' R' hp => ?_)
  obtain ⟨eA, eX, sv16, sk16, sa16, sm16, eW, hL16, hF16, hN16, hK16⟩ := hp
  rw [eA, eX, eW]
  clear eA eX eW r' X' R'
  refine x_widenY (k := (cl + 3)) (n := (sl + 3078)) (by show (cl + 2) + 1 ≤ _; omega) (by show (sl + 2052) + 1026 ≤ _; omega) ?_
  refine x_inY [(δ, dCell sc D)] [((σ 9 0), sbC sv16 sm16 (nI (((nnt + stN 15) + sb_dg (bsIx x2)) + 1))), (sv16, byC cA sk16 sa16)] [] (W := [(δ, dCell sc D), ((σ 9 0), sbC sv16 sm16 (nI (((nnt + stN 15) + sb_dg (bsIx x2)) + 1))), (sv16, byC cA sk16 sa16)]) rfl ?_
  refine x_aload_nY C dX11_init_387 rfl rfl ?_
  refine xg_X11_76Y C (ln_lt (ln_lt (zIm_lt hq3) (by omega)) (by omega)) dX11_init_388 ?_
  refine x_iconstY (v := 0) C dX11_init_391 (by decide) ?_
  refine xl_imgY C (ln_lt (ln_lt (zIm_lt hq3) (by omega)) (by omega)) (by decide) dX11_init_392 ?_
  obtain ⟨hg19, hf⟩ := bs_if hf
  obtain ⟨hg20, hf⟩ := bs_if hf
  refine x_topiY (y := nI (bsIx ((wr (wr (zIm (upd f1 (bsIx y3) y4) u0 Z) 5 q3 2 (1 : Int32)) 5 q3 3 (1 : Int32)) 6 q3 1))) (jd_nat hg19) ?_
  refine x_outY [(δ, dCell sc D)] [((σ 9 0), sbC sv16 sm16 (nI (((nnt + stN 15) + sb_dg (bsIx x2)) + 1))), (sv16, byC cA sk16 sa16)] [] rfl ?_
  refine x_callVrY (y := yJ4_append_bf812) (As := [.int (nI (bsIx ((wr (wr (zIm (upd f1 (bsIx y3) y4) u0 Z) 5 q3 2 (1 : Int32)) 5 q3 3 (1 : Int32)) 6 q3 1)))]) (rest := []) C (cJ4_append_bf812_okY (w := (bsIx ((wr (wr (zIm (upd f1 (bsIx y3) y4) u0 Z) 5 q3 2 (1 : Int32)) 5 q3 3 (1 : Int32)) 6 q3 1))) hL16 hF16 hN16 hK16 (jd_natlt _) hg20) (bsG_in 622 (by decide +kernel) rfl) wyJ4_append_bf812 ((jd_at _ [((σ 9 0), sbC sv16 sm16 (nI (((nnt + stN 15) + sb_dg (bsIx x2)) + 1))), (sv16, byC cA sk16 sa16)] 0).trans rfl) rfl dpJ4_append_bf812 ⟨Nat.le_of_ble_eq_true rfl, Nat.le_of_ble_eq_true rfl⟩ ⟨by show (cl + 3) + 1 ≤ 204; omega, by show (sl + 3078) + 1026 ≤ 159576; omega⟩ rfl (Nat.le_of_ble_eq_true rfl) dX11_init_393 (fun r' X' R' hp => ?_)
  obtain ⟨eA, eX, sv18, sk18, sa18, sm18, eW, hL18, hF18, hN18, hK18⟩ := hp
  rw [eA, eX, eW]
  clear eA eX eW r' X' R'
  refine x_widenY (k := (cl + 4)) (n := (sl + 4104)) (by show (cl + 3) + 1 ≤ _; omega) (by show (sl + 3078) + 1026 ≤ _; omega) ?_
  refine x_inY [(δ, dCell sc D)] [((σ 9 0), sbC sv18 sm18 (nI ((((nnt + stN 15) + sb_dg (bsIx x2)) + 1) + sb_dg (bsIx ((wr (wr (zIm (upd f1 (bsIx y3) y4) u0 Z) 5 q3 2 (1 : Int32)) 5 q3 3 (1 : Int32)) 6 q3 1))))), (sv18, byC cA sk18 sa18)] [] (W := [(δ, dCell sc D), ((σ 9 0), sbC sv18 sm18 (nI ((((nnt + stN 15) + sb_dg (bsIx x2)) + 1) + sb_dg (bsIx ((wr (wr (zIm (upd f1 (bsIx y3) y4) u0 Z) 5 q3 2 (1 : Int32)) 5 q3 3 (1 : Int32)) 6 q3 1))))), (sv18, byC cA sk18 sa18)]) rfl ?_
  refine x_bipushY (v := 32) C dX11_init_396 (by decide) ?_
  obtain ⟨hg22, hf⟩ := bs_if hf
  refine x_outY [(δ, dCell sc D)] [((σ 9 0), sbC sv18 sm18 (nI ((((nnt + stN 15) + sb_dg (bsIx x2)) + 1) + sb_dg (bsIx ((wr (wr (zIm (upd f1 (bsIx y3) y4) u0 Z) 5 q3 2 (1 : Int32)) 5 q3 3 (1 : Int32)) 6 q3 1))))), (sv18, byC cA sk18 sa18)] [] rfl ?_
  refine x_callVrY (y := yJ4_append_cf468) (As := [.int (nI 32)]) (rest := []) C (cJ4_append_cf468_okY (ch := 32) hL18 hF18 hN18 hK18 hg22 (by decide)) (bsG_in 647 (by decide +kernel) rfl) wyJ4_append_cf468 ((jd_at _ [((σ 9 0), sbC sv18 sm18 (nI ((((nnt + stN 15) + sb_dg (bsIx x2)) + 1) + sb_dg (bsIx ((wr (wr (zIm (upd f1 (bsIx y3) y4) u0 Z) 5 q3 2 (1 : Int32)) 5 q3 3 (1 : Int32)) 6 q3 1))))), (sv18, byC cA sk18 sa18)] 0).trans rfl) rfl dpJ4_append_cf468 ⟨Nat.le_of_ble_eq_true rfl, Nat.le_of_ble_eq_true rfl⟩ ⟨by show (cl + 4) + 1 ≤ 204; omega, by show (sl + 4104) + 1026 ≤ 159576; omega⟩ rfl (Nat.le_of_ble_eq_true rfl) dX11_init_398 (fun r' X' R' hp => ?_)
  obtain ⟨eA, eX, sv21, sk21, sa21, sm21, eW, hL21, hF21, hN21, hK21⟩ := hp
  rw [eA, eX, eW]
  clear eA eX eW r' X' R'
  refine x_widenY (k := (cl + 5)) (n := (sl + 5130)) (by show (cl + 4) + 1 ≤ _; omega) (by show (sl + 4104) + 1026 ≤ _; omega) ?_
  refine x_inY [(δ, dCell sc D)] [((σ 9 0), sbC sv21 sm21 (nI (((((nnt + stN 15) + sb_dg (bsIx x2)) + 1) + sb_dg (bsIx ((wr (wr (zIm (upd f1 (bsIx y3) y4) u0 Z) 5 q3 2 (1 : Int32)) 5 q3 3 (1 : Int32)) 6 q3 1))) + 1))), (sv21, byC cA sk21 sa21)] [] (W := [(δ, dCell sc D), ((σ 9 0), sbC sv21 sm21 (nI (((((nnt + stN 15) + sb_dg (bsIx x2)) + 1) + sb_dg (bsIx ((wr (wr (zIm (upd f1 (bsIx y3) y4) u0 Z) 5 q3 2 (1 : Int32)) 5 q3 3 (1 : Int32)) 6 q3 1))) + 1))), (sv21, byC cA sk21 sa21)]) rfl ?_
  refine x_aload_nY C dX11_init_401 rfl rfl ?_
  refine xg_X11_76Y C (ln_lt (ln_lt (zIm_lt hq3) (by omega)) (by omega)) dX11_init_402 ?_
  refine x_iconstY (v := 1) C dX11_init_405 (by decide) ?_
  refine xl_imgY C (ln_lt (ln_lt (zIm_lt hq3) (by omega)) (by omega)) (by decide) dX11_init_406 ?_
  obtain ⟨hg24, hf⟩ := bs_if hf
  obtain ⟨hg25, hf⟩ := bs_if hf
  refine x_topiY (y := nI (bsIx ((wr (wr (zIm (upd f1 (bsIx y3) y4) u0 Z) 5 q3 2 (1 : Int32)) 5 q3 3 (1 : Int32)) 6 q3 2))) (jd_nat hg24) ?_
  refine x_outY [(δ, dCell sc D)] [((σ 9 0), sbC sv21 sm21 (nI (((((nnt + stN 15) + sb_dg (bsIx x2)) + 1) + sb_dg (bsIx ((wr (wr (zIm (upd f1 (bsIx y3) y4) u0 Z) 5 q3 2 (1 : Int32)) 5 q3 3 (1 : Int32)) 6 q3 1))) + 1))), (sv21, byC cA sk21 sa21)] [] rfl ?_
  refine x_callVrY (y := yJ4_append_bf812) (As := [.int (nI (bsIx ((wr (wr (zIm (upd f1 (bsIx y3) y4) u0 Z) 5 q3 2 (1 : Int32)) 5 q3 3 (1 : Int32)) 6 q3 2)))]) (rest := []) C (cJ4_append_bf812_okY (w := (bsIx ((wr (wr (zIm (upd f1 (bsIx y3) y4) u0 Z) 5 q3 2 (1 : Int32)) 5 q3 3 (1 : Int32)) 6 q3 2))) hL21 hF21 hN21 hK21 (jd_natlt _) hg25) (bsG_in 622 (by decide +kernel) rfl) wyJ4_append_bf812 ((jd_at _ [((σ 9 0), sbC sv21 sm21 (nI (((((nnt + stN 15) + sb_dg (bsIx x2)) + 1) + sb_dg (bsIx ((wr (wr (zIm (upd f1 (bsIx y3) y4) u0 Z) 5 q3 2 (1 : Int32)) 5 q3 3 (1 : Int32)) 6 q3 1))) + 1))), (sv21, byC cA sk21 sa21)] 0).trans rfl) rfl dpJ4_append_bf812 ⟨Nat.le_of_ble_eq_true rfl, Nat.le_of_ble_eq_true rfl⟩ ⟨by show (cl + 5) + 1 ≤ 204; omega, by show (sl + 5130) + 1026 ≤ 159576; omega⟩ rfl (Nat.le_of_ble_eq_true rfl) dX11_init_407 (fun r' X' R' hp => ?_)
  obtain ⟨eA, eX, sv23, sk23, sa23, sm23, eW, hL23, hF23, hN23, hK23⟩ := hp
  rw [eA, eX, eW]
  clear eA eX eW r' X' R'
  refine x_widenY (k := (cl + 6)) (n := (sl + 6156)) (by show (cl + 5) + 1 ≤ _; omega) (by show (sl + 5130) + 1026 ≤ _; omega) ?_
  refine x_inY [(δ, dCell sc D)] [((σ 9 0), sbC sv23 sm23 (nI ((((((nnt + stN 15) + sb_dg (bsIx x2)) + 1) + sb_dg (bsIx ((wr (wr (zIm (upd f1 (bsIx y3) y4) u0 Z) 5 q3 2 (1 : Int32)) 5 q3 3 (1 : Int32)) 6 q3 1))) + 1) + sb_dg (bsIx ((wr (wr (zIm (upd f1 (bsIx y3) y4) u0 Z) 5 q3 2 (1 : Int32)) 5 q3 3 (1 : Int32)) 6 q3 2))))), (sv23, byC cA sk23 sa23)] [] (W := [(δ, dCell sc D), ((σ 9 0), sbC sv23 sm23 (nI ((((((nnt + stN 15) + sb_dg (bsIx x2)) + 1) + sb_dg (bsIx ((wr (wr (zIm (upd f1 (bsIx y3) y4) u0 Z) 5 q3 2 (1 : Int32)) 5 q3 3 (1 : Int32)) 6 q3 1))) + 1) + sb_dg (bsIx ((wr (wr (zIm (upd f1 (bsIx y3) y4) u0 Z) 5 q3 2 (1 : Int32)) 5 q3 3 (1 : Int32)) 6 q3 2))))), (sv23, byC cA sk23 sa23)]) rfl ?_
  refine x_bipushY (v := 32) C dX11_init_410 (by decide) ?_
  obtain ⟨hg27, hf⟩ := bs_if hf
  refine x_outY [(δ, dCell sc D)] [((σ 9 0), sbC sv23 sm23 (nI ((((((nnt + stN 15) + sb_dg (bsIx x2)) + 1) + sb_dg (bsIx ((wr (wr (zIm (upd f1 (bsIx y3) y4) u0 Z) 5 q3 2 (1 : Int32)) 5 q3 3 (1 : Int32)) 6 q3 1))) + 1) + sb_dg (bsIx ((wr (wr (zIm (upd f1 (bsIx y3) y4) u0 Z) 5 q3 2 (1 : Int32)) 5 q3 3 (1 : Int32)) 6 q3 2))))), (sv23, byC cA sk23 sa23)] [] rfl ?_
  refine x_callVrY (y := yJ4_append_cf468) (As := [.int (nI 32)]) (rest := []) C (cJ4_append_cf468_okY (ch := 32) hL23 hF23 hN23 hK23 hg27 (by decide)) (bsG_in 647 (by decide +kernel) rfl) wyJ4_append_cf468 ((jd_at _ [((σ 9 0), sbC sv23 sm23 (nI ((((((nnt + stN 15) + sb_dg (bsIx x2)) + 1) + sb_dg (bsIx ((wr (wr (zIm (upd f1 (bsIx y3) y4) u0 Z) 5 q3 2 (1 : Int32)) 5 q3 3 (1 : Int32)) 6 q3 1))) + 1) + sb_dg (bsIx ((wr (wr (zIm (upd f1 (bsIx y3) y4) u0 Z) 5 q3 2 (1 : Int32)) 5 q3 3 (1 : Int32)) 6 q3 2))))), (sv23, byC cA sk23 sa23)] 0).trans rfl) rfl dpJ4_append_cf468 ⟨Nat.le_of_ble_eq_true rfl, Nat.le_of_ble_eq_true rfl⟩ ⟨by show (cl + 6) + 1 ≤ 204; omega, by show (sl + 6156) + 1026 ≤ 159576; omega⟩ rfl (Nat.le_of_ble_eq_true rfl) dX11_init_412 (fun r' X' R' hp => ?_)
  obtain ⟨eA, eX, sv26, sk26, sa26, sm26, eW, hL26, hF26, hN26, hK26⟩ := hp
  rw [eA, eX, eW]
  clear eA eX eW r' X' R'
  refine x_widenY (k := (cl + 7)) (n := (sl + 7182)) (by show (cl + 6) + 1 ≤ _; omega) (by show (sl + 6156) + 1026 ≤ _; omega) ?_
  refine x_inY [(δ, dCell sc D)] [((σ 9 0), sbC sv26 sm26 (nI (((((((nnt + stN 15) + sb_dg (bsIx x2)) + 1) + sb_dg (bsIx ((wr (wr (zIm (upd f1 (bsIx y3) y4) u0 Z) 5 q3 2 (1 : Int32)) 5 q3 3 (1 : Int32)) 6 q3 1))) + 1) + sb_dg (bsIx ((wr (wr (zIm (upd f1 (bsIx y3) y4) u0 Z) 5 q3 2 (1 : Int32)) 5 q3 3 (1 : Int32)) 6 q3 2))) + 1))), (sv26, byC cA sk26 sa26)] [] (W := [(δ, dCell sc D), ((σ 9 0), sbC sv26 sm26 (nI (((((((nnt + stN 15) + sb_dg (bsIx x2)) + 1) + sb_dg (bsIx ((wr (wr (zIm (upd f1 (bsIx y3) y4) u0 Z) 5 q3 2 (1 : Int32)) 5 q3 3 (1 : Int32)) 6 q3 1))) + 1) + sb_dg (bsIx ((wr (wr (zIm (upd f1 (bsIx y3) y4) u0 Z) 5 q3 2 (1 : Int32)) 5 q3 3 (1 : Int32)) 6 q3 2))) + 1))), (sv26, byC cA sk26 sa26)]) rfl ?_
  refine x_aload_nY C dX11_init_415 rfl rfl ?_
  refine xg_X11_76Y C (ln_lt (ln_lt (zIm_lt hq3) (by omega)) (by omega)) dX11_init_416 ?_
  refine x_iconstY (v := 2) C dX11_init_419 (by decide) ?_
  refine xl_imgY C (ln_lt (ln_lt (zIm_lt hq3) (by omega)) (by omega)) (by decide) dX11_init_420 ?_
  obtain ⟨hg29, hf⟩ := bs_if hf
  obtain ⟨hg30, hf⟩ := bs_if hf
  refine x_topiY (y := nI (bsIx ((wr (wr (zIm (upd f1 (bsIx y3) y4) u0 Z) 5 q3 2 (1 : Int32)) 5 q3 3 (1 : Int32)) 6 q3 3))) (jd_nat hg29) ?_
  refine x_outY [(δ, dCell sc D)] [((σ 9 0), sbC sv26 sm26 (nI (((((((nnt + stN 15) + sb_dg (bsIx x2)) + 1) + sb_dg (bsIx ((wr (wr (zIm (upd f1 (bsIx y3) y4) u0 Z) 5 q3 2 (1 : Int32)) 5 q3 3 (1 : Int32)) 6 q3 1))) + 1) + sb_dg (bsIx ((wr (wr (zIm (upd f1 (bsIx y3) y4) u0 Z) 5 q3 2 (1 : Int32)) 5 q3 3 (1 : Int32)) 6 q3 2))) + 1))), (sv26, byC cA sk26 sa26)] [] rfl ?_
  refine x_callVrY (y := yJ4_append_bf812) (As := [.int (nI (bsIx ((wr (wr (zIm (upd f1 (bsIx y3) y4) u0 Z) 5 q3 2 (1 : Int32)) 5 q3 3 (1 : Int32)) 6 q3 3)))]) (rest := []) C (cJ4_append_bf812_okY (w := (bsIx ((wr (wr (zIm (upd f1 (bsIx y3) y4) u0 Z) 5 q3 2 (1 : Int32)) 5 q3 3 (1 : Int32)) 6 q3 3))) hL26 hF26 hN26 hK26 (jd_natlt _) hg30) (bsG_in 622 (by decide +kernel) rfl) wyJ4_append_bf812 ((jd_at _ [((σ 9 0), sbC sv26 sm26 (nI (((((((nnt + stN 15) + sb_dg (bsIx x2)) + 1) + sb_dg (bsIx ((wr (wr (zIm (upd f1 (bsIx y3) y4) u0 Z) 5 q3 2 (1 : Int32)) 5 q3 3 (1 : Int32)) 6 q3 1))) + 1) + sb_dg (bsIx ((wr (wr (zIm (upd f1 (bsIx y3) y4) u0 Z) 5 q3 2 (1 : Int32)) 5 q3 3 (1 : Int32)) 6 q3 2))) + 1))), (sv26, byC cA sk26 sa26)] 0).trans rfl) rfl dpJ4_append_bf812 ⟨Nat.le_of_ble_eq_true rfl, Nat.le_of_ble_eq_true rfl⟩ ⟨by show (cl + 7) + 1 ≤ 204; omega, by show (sl + 7182) + 1026 ≤ 159576; omega⟩ rfl (Nat.le_of_ble_eq_true rfl) dX11_init_421 (fun r' X' R' hp => ?_)
  obtain ⟨eA, eX, sv28, sk28, sa28, sm28, eW, hL28, hF28, hN28, hK28⟩ := hp
  rw [eA, eX, eW]
  clear eA eX eW r' X' R'
  refine x_widenY (k := (cl + 8)) (n := (sl + 8208)) (by show (cl + 7) + 1 ≤ _; omega) (by show (sl + 7182) + 1026 ≤ _; omega) ?_
  refine x_inY [(δ, dCell sc D)] [((σ 9 0), sbC sv28 sm28 (nI ((((((((nnt + stN 15) + sb_dg (bsIx x2)) + 1) + sb_dg (bsIx ((wr (wr (zIm (upd f1 (bsIx y3) y4) u0 Z) 5 q3 2 (1 : Int32)) 5 q3 3 (1 : Int32)) 6 q3 1))) + 1) + sb_dg (bsIx ((wr (wr (zIm (upd f1 (bsIx y3) y4) u0 Z) 5 q3 2 (1 : Int32)) 5 q3 3 (1 : Int32)) 6 q3 2))) + 1) + sb_dg (bsIx ((wr (wr (zIm (upd f1 (bsIx y3) y4) u0 Z) 5 q3 2 (1 : Int32)) 5 q3 3 (1 : Int32)) 6 q3 3))))), (sv28, byC cA sk28 sa28)] [] (W := [(δ, dCell sc D), ((σ 9 0), sbC sv28 sm28 (nI ((((((((nnt + stN 15) + sb_dg (bsIx x2)) + 1) + sb_dg (bsIx ((wr (wr (zIm (upd f1 (bsIx y3) y4) u0 Z) 5 q3 2 (1 : Int32)) 5 q3 3 (1 : Int32)) 6 q3 1))) + 1) + sb_dg (bsIx ((wr (wr (zIm (upd f1 (bsIx y3) y4) u0 Z) 5 q3 2 (1 : Int32)) 5 q3 3 (1 : Int32)) 6 q3 2))) + 1) + sb_dg (bsIx ((wr (wr (zIm (upd f1 (bsIx y3) y4) u0 Z) 5 q3 2 (1 : Int32)) 5 q3 3 (1 : Int32)) 6 q3 3))))), (sv28, byC cA sk28 sa28)]) rfl ?_
  refine x_aload_nY C dX11_init_424 rfl rfl ?_
  refine xg_X11_76Y C (ln_lt (ln_lt (zIm_lt hq3) (by omega)) (by omega)) dX11_init_425 ?_
  refine x_iconstY (v := 3) C dX11_init_428 (by decide) ?_
  refine xl_imgY C (ln_lt (ln_lt (zIm_lt hq3) (by omega)) (by omega)) (by decide) dX11_init_429 ?_
  refine x_iconstY (v := 1) C dX11_init_430 (by decide) ?_
  refine x_icmp_neY (tgt := 439) C dX11_init_431 (by decide) (fun h31 => ?_) (fun h31 => ?_)
  · replace hf := bs_neg h31 hf
    refine x_ldcSY (tx := "") (t := 16) C (by decide +kernel) dX11_init_439 ?_
    refine x_subY [0, 1, 2, 3] rfl ?_
    exact qX11_init_441 k233 C hk233 hn233 _ _ _ _ _ _ _ _ _ _ _ _ _ _ _ hL28 hF28 hN28 hK28 (ln_lt (ln_lt (zIm_lt hq3) (by omega)) (by omega)) (by decide) (by omega) (by omega) hf
  · replace hf := bs_pos h31 hf
    refine x_ldcSY (tx := " unsigned") (t := 10) C (by decide +kernel) dX11_init_434 ?_
    refine x_gotoY (tgt := 441) C dX11_init_436 (by decide) ?_
    refine x_subY [0, 1, 2, 3] rfl ?_
    exact qX11_init_441 k233 C hk233 hn233 _ _ _ _ _ _ _ _ _ _ _ _ _ _ _ hL28 hF28 hN28 hK28 (ln_lt (ln_lt (zIm_lt hq3) (by omega)) (by omega)) (by decide) (by omega) (by omega) hf
