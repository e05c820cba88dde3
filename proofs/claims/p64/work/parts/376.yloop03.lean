set_option maxHeartbeats 4000000 in
set_option maxRecDepth 100000 in
theorem qX11_init_527 {p : Program} {l : Launch} {e : Env} {s : State} {m : MethodId} {args : Array Value} {below : List Frame} {meth : Method} {c : Code} {ρ : bsR} {sc L : Nat} {xs : Nat → Int32} {cA : Nat → ClassId} {dC : Nat → ClassId} {dI : Nat → Nat → Nat} {A : Nat → Prop} {Ts : List Cond} {σ : xA2} {F : va_W} {δ : Nat} (k233 : (Nat → Nat) → Nat → Int32 → bsX → pY → Nat → Option (Int32 × bsX × pY × Nat × (Nat → Nat) × Nat)) {z : (Int32 × bsX × pY × Nat × (Nat → Nat) × Nat)} (C : xCx p m c cX11_init 4 s args Ts RX11 ρ sc L xs cA dC dI A meth none) {NC233 NS233 : Nat} (hk233 : ∀ (ttt : (Nat → Nat)) (nnt : Nat) (x2 : Int32) (X : bsX) (Z : pY) (D : Nat) (θ : xA2) (svt : Nat) (skt : Nat) (sat : (Nat → Int32)) (smt : Int32) (cl sl : Nat), sb_Lat ttt nnt sat → sb_Fit sat → nnt ≤ skt → skt ≤ 1026 → cl + NC233 ≤ 204 → sl + NS233 ≤ 159576 → k233 ttt nnt x2 X Z D = some z → xVY p l e rmX11_init s m args below meth c cl sl (MQ below (xQvY ρ cA dC dI A (fun X' R' => ∃ σ' : xA2, σ' 0 0 = σ 0 0 ∧ X' = z.2.1 ∧ ∃ (θ' : xA2) (v k : Nat) (a : Nat → Int32) (ml : Int32), sb_Lat z.2.2.2.2.1 z.2.2.2.2.2 a ∧ sb_Fit a ∧ z.2.2.2.2.2 ≤ k ∧ k ≤ 1026 ∧ R' = lwWs σ' θ' cA z.2.2.1 ++ (F ++ [(δ, dCell sc z.2.2.2.1), (σ' 9 0, sbC v ml (nI z.2.2.2.2.2)), (v, byC cA k a)]))) args s rmX11_init.cells rmX11_init.slots A) ρ cA dC dI A (lwWs σ θ cA Z ++ (F ++ [(δ, dCell sc D), ((σ 9 0), sbC svt smt (nI nnt)), (svt, byC cA skt sat)])) 4 233 [(0, .ref (σ 0 0)), (1, .ref δ), (2, .int x2)] [] X) (hn233 : 0 ≤ NC233 ∧ 0 ≤ NS233)  : ∀ (ttt : (Nat → Nat)) (nnt : Nat) (x2 : Int32) (q3 : Nat) (u0 : Nat) (y1 : Int32) (X : bsX) (Z : pY) (D : Nat) (θ : xA2) (svt : Nat) (skt : Nat) (sat : (Nat → Int32)) (smt : Int32) (cl sl : Nat), sb_Lat ttt nnt sat → sb_Fit sat → nnt ≤ skt → skt ≤ 1026 → q3 < ln Z → u0 < ln Z → cl + ((7 + NC233)) ≤ 204 → sl + ((7182 + NS233)) ≤ 159576 → hX11_init_527 xs L k233 ttt nnt x2 q3 u0 y1 X Z D = some z → xVY p l e rmX11_init s m args below meth c cl sl (MQ below (xQvY ρ cA dC dI A (fun X' R' => ∃ σ' : xA2, σ' 0 0 = σ 0 0 ∧ X' = z.2.1 ∧ ∃ (θ' : xA2) (v k : Nat) (a : Nat → Int32) (ml : Int32), sb_Lat z.2.2.2.2.1 z.2.2.2.2.2 a ∧ sb_Fit a ∧ z.2.2.2.2.2 ≤ k ∧ k ≤ 1026 ∧ R' = lwWs σ' θ' cA z.2.2.1 ++ (F ++ [(δ, dCell sc z.2.2.2.1), (σ' 9 0, sbC v ml (nI z.2.2.2.2.2)), (v, byC cA k a)]))) args s rmX11_init.cells rmX11_init.slots A) ρ cA dC dI A (lwWs σ θ cA Z ++ (F ++ [(δ, dCell sc D), ((σ 9 0), sbC svt smt (nI nnt)), (svt, byC cA skt sat)])) 4 527 [(0, .ref (σ 0 0)), (1, .ref δ), (2, .int x2), (3, .ref (σ 5 q3))] [.int y1, .ref (σ 5 u0)] X := by
  intro ttt nnt x2 q3 u0 y1 X Z D θ svt skt sat smt cl sl hLt hFt hNt hKt hq3 hu0 hcl hsl hf
  rw [hX11_init_527] at hf
  obtain ⟨hg70, hf⟩ := bs_if hf
  refine xp_X11_93Y C hu0 hg70 dX11_init_527 ?_
  refine x_aload_nY C dX11_init_530 rfl rfl ?_
  refine xg_X11_60Y C dX11_init_531 ?_
  refine x_ldcSY (tx := ";mark ") (t := 17) C (by decide +kernel) dX11_init_534 ?_
  obtain ⟨hg74, hf⟩ := bs_if hf
  refine x_outY [(δ, dCell sc D)] [((σ 9 0), sbC svt smt (nI nnt)), (svt, byC cA skt sat)] [] rfl ?_
  refine x_callVrY (y := yJ4_append_15ec4) (As := [.ref (ρ 16 0 17)]) (rest := []) C (cJ4_append_15ec4_okY (u := 17) hLt hFt hNt hKt (by decide) hg74) (bsG_in 715 (by decide +kernel) rfl) wyJ4_append_15ec4 ((jd_at _ [((σ 9 0), sbC svt smt (nI nnt)), (svt, byC cA skt sat)] 0).trans rfl) rfl dpJ4_append_15ec4 ⟨Nat.le_of_ble_eq_true rfl, Nat.le_of_ble_eq_true rfl⟩ ⟨by show (cl) + 1 ≤ 204; omega, by show (sl) + 1026 ≤ 159576; omega⟩ rfl (Nat.le_of_ble_eq_true rfl) dX11_init_536 (fun r' X' R' hp => ?_)
  obtain ⟨eA, eX, sv73, sk73, sa73, sm73, eW, hL73, hF73, hN73, hK73⟩ := hp
  rw [eA, eX, eW]
  clear eA eX eW r' X' R'
  refine x_widenY (k := (cl + 1)) (n := (sl + 1026)) (by show (cl) + 1 ≤ _; omega) (by show (sl) + 1026 ≤ _; omega) ?_
  refine x_inY [(δ, dCell sc D)] [((σ 9 0), sbC sv73 sm73 (nI (nnt + stN 17))), (sv73, byC cA sk73 sa73)] [] (W := [(δ, dCell sc D), ((σ 9 0), sbC sv73 sm73 (nI (nnt + stN 17))), (sv73, byC cA sk73 sa73)]) rfl ?_
  refine x_iload_nY C dX11_init_539 rfl rfl ?_
  obtain ⟨hg76, hf⟩ := bs_if hf
  obtain ⟨hg77, hf⟩ := bs_if hf
  refine x_topiY (y := nI (bsIx x2)) (jd_nat hg76) ?_
  refine x_outY [(δ, dCell sc D)] [((σ 9 0), sbC sv73 sm73 (nI (nnt + stN 17))), (sv73, byC cA sk73 sa73)] [] rfl ?_
  refine x_callVrY (y := yJ4_append_bf812) (As := [.int (nI (bsIx x2))]) (rest := []) C (cJ4_append_bf812_okY (w := (bsIx x2)) hL73 hF73 hN73 hK73 (jd_natlt _) hg77) (bsG_in 622 (by decide +kernel) rfl) wyJ4_append_bf812 ((jd_at _ [((σ 9 0), sbC sv73 sm73 (nI (nnt + stN 17))), (sv73, byC cA sk73 sa73)] 0).trans rfl) rfl dpJ4_append_bf812 ⟨Nat.le_of_ble_eq_true rfl, Nat.le_of_ble_eq_true rfl⟩ ⟨by show (cl + 1) + 1 ≤ 204; omega, by show (sl + 1026) + 1026 ≤ 159576; omega⟩ rfl (Nat.le_of_ble_eq_true rfl) dX11_init_540 (fun r' X' R' hp => ?_)
  obtain ⟨eA, eX, sv75, sk75, sa75, sm75, eW, hL75, hF75, hN75, hK75⟩ := hp
  rw [eA, eX, eW]
  clear eA eX eW r' X' R'
  refine x_widenY (k := (cl + 2)) (n := (sl + 2052)) (by show (cl + 1) + 1 ≤ _; omega) (by show (sl + 1026) + 1026 ≤ _; omega) ?_
  refine x_inY [(δ, dCell sc D)] [((σ 9 0), sbC sv75 sm75 (nI ((nnt + stN 17) + sb_dg (bsIx x2)))), (sv75, byC cA sk75 sa75)] [] (W := [(δ, dCell sc D), ((σ 9 0), sbC sv75 sm75 (nI ((nnt + stN 17) + sb_dg (bsIx x2)))), (sv75, byC cA sk75 sa75)]) rfl ?_
  refine x_bipushY (v := 32) C dX11_init_543 (by decide) ?_
  obtain ⟨hg79, hf⟩ := bs_if hf
  refine x_outY [(δ, dCell sc D)] [((σ 9 0), sbC sv75 sm75 (nI ((nnt + stN 17) + sb_dg (bsIx x2)))), (sv75, byC cA sk75 sa75)] [] rfl ?_
  refine x_callVrY (y := yJ4_append_cf468) (As := [.int (nI 32)]) (rest := []) C (cJ4_append_cf468_okY (ch := 32) hL75 hF75 hN75 hK75 hg79 (by decide)) (bsG_in 647 (by decide +kernel) rfl) wyJ4_append_cf468 ((jd_at _ [((σ 9 0), sbC sv75 sm75 (nI ((nnt + stN 17) + sb_dg (bsIx x2)))), (sv75, byC cA sk75 sa75)] 0).trans rfl) rfl dpJ4_append_cf468 ⟨Nat.le_of_ble_eq_true rfl, Nat.le_of_ble_eq_true rfl⟩ ⟨by show (cl + 2) + 1 ≤ 204; omega, by show (sl + 2052) + 1026 ≤ 159576; omega⟩ rfl (Nat.le_of_ble_eq_true rfl) dX11_init_545 (fun r' X' R' hp => ?_)
  obtain ⟨eA, eX, sv78, sk78, sa78, sm78, eW, hL78, hF78, hN78, hK78⟩ := hp
  rw [eA, eX, eW]
  clear eA eX eW r' X' R'
  refine x_widenY (k := (cl + 3)) (n := (sl + 3078)) (by show (cl + 2) + 1 ≤ _; omega) (by show (sl + 2052) + 1026 ≤ _; omega) ?_
  refine x_inY [(δ, dCell sc D)] [((σ 9 0), sbC sv78 sm78 (nI (((nnt + stN 17) + sb_dg (bsIx x2)) + 1))), (sv78, byC cA sk78 sa78)] [] (W := [(δ, dCell sc D), ((σ 9 0), sbC sv78 sm78 (nI (((nnt + stN 17) + sb_dg (bsIx x2)) + 1))), (sv78, byC cA sk78 sa78)]) rfl ?_
  refine x_aload_nY C dX11_init_548 rfl rfl ?_
  refine xg_X11_79Y C (ln_lt hq3 (by omega)) dX11_init_549 ?_
  obtain ⟨hg81, hf⟩ := bs_if hf
  obtain ⟨hg82, hf⟩ := bs_if hf
  refine x_topiY (y := nI (bsIx ((wr Z 5 u0 4 y1) 5 q3 2))) (jd_nat hg81) ?_
  refine x_outY [(δ, dCell sc D)] [((σ 9 0), sbC sv78 sm78 (nI (((nnt + stN 17) + sb_dg (bsIx x2)) + 1))), (sv78, byC cA sk78 sa78)] [] rfl ?_
  refine x_callVrY (y := yJ4_append_bf812) (As := [.int (nI (bsIx ((wr Z 5 u0 4 y1) 5 q3 2)))]) (rest := []) C (cJ4_append_bf812_okY (w := (bsIx ((wr Z 5 u0 4 y1) 5 q3 2))) hL78 hF78 hN78 hK78 (jd_natlt _) hg82) (bsG_in 622 (by decide +kernel) rfl) wyJ4_append_bf812 ((jd_at _ [((σ 9 0), sbC sv78 sm78 (nI (((nnt + stN 17) + sb_dg (bsIx x2)) + 1))), (sv78, byC cA sk78 sa78)] 0).trans rfl) rfl dpJ4_append_bf812 ⟨Nat.le_of_ble_eq_true rfl, Nat.le_of_ble_eq_true rfl⟩ ⟨by show (cl + 3) + 1 ≤ 204; omega, by show (sl + 3078) + 1026 ≤ 159576; omega⟩ rfl (Nat.le_of_ble_eq_true rfl) dX11_init_552 (fun r' X' R' hp => ?_)
  obtain ⟨eA, eX, sv80, sk80, sa80, sm80, eW, hL80, hF80, hN80, hK80⟩ := hp
  rw [eA, eX, eW]
  clear eA eX eW r' X' R'
  refine x_widenY (k := (cl + 4)) (n := (sl + 4104)) (by show (cl + 3) + 1 ≤ _; omega) (by show (sl + 3078) + 1026 ≤ _; omega) ?_
  refine x_inY [(δ, dCell sc D)] [((σ 9 0), sbC sv80 sm80 (nI ((((nnt + stN 17) + sb_dg (bsIx x2)) + 1) + sb_dg (bsIx ((wr Z 5 u0 4 y1) 5 q3 2))))), (sv80, byC cA sk80 sa80)] [] (W := [(δ, dCell sc D), ((σ 9 0), sbC sv80 sm80 (nI ((((nnt + stN 17) + sb_dg (bsIx x2)) + 1) + sb_dg (bsIx ((wr Z 5 u0 4 y1) 5 q3 2))))), (sv80, byC cA sk80 sa80)]) rfl ?_
  refine x_bipushY (v := 32) C dX11_init_555 (by decide) ?_
  obtain ⟨hg84, hf⟩ := bs_if hf
  refine x_outY [(δ, dCell sc D)] [((σ 9 0), sbC sv80 sm80 (nI ((((nnt + stN 17) + sb_dg (bsIx x2)) + 1) + sb_dg (bsIx ((wr Z 5 u0 4 y1) 5 q3 2))))), (sv80, byC cA sk80 sa80)] [] rfl ?_
  refine x_callVrY (y := yJ4_append_cf468) (As := [.int (nI 32)]) (rest := []) C (cJ4_append_cf468_okY (ch := 32) hL80 hF80 hN80 hK80 hg84 (by decide)) (bsG_in 647 (by decide +kernel) rfl) wyJ4_append_cf468 ((jd_at _ [((σ 9 0), sbC sv80 sm80 (nI ((((nnt + stN 17) + sb_dg (bsIx x2)) + 1) + sb_dg (bsIx ((wr Z 5 u0 4 y1) 5 q3 2))))), (sv80, byC cA sk80 sa80)] 0).trans rfl) rfl dpJ4_append_cf468 ⟨Nat.le_of_ble_eq_true rfl, Nat.le_of_ble_eq_true rfl⟩ ⟨by show (cl + 4) + 1 ≤ 204; omega, by show (sl + 4104) + 1026 ≤ 159576; omega⟩ rfl (Nat.le_of_ble_eq_true rfl) dX11_init_557 (fun r' X' R' hp => ?_)
  obtain ⟨eA, eX, sv83, sk83, sa83, sm83, eW, hL83, hF83, hN83, hK83⟩ := hp
  rw [eA, eX, eW]
  clear eA eX eW r' X' R'
  refine x_widenY (k := (cl + 5)) (n := (sl + 5130)) (by show (cl + 4) + 1 ≤ _; omega) (by show (sl + 4104) + 1026 ≤ _; omega) ?_
  refine x_inY [(δ, dCell sc D)] [((σ 9 0), sbC sv83 sm83 (nI (((((nnt + stN 17) + sb_dg (bsIx x2)) + 1) + sb_dg (bsIx ((wr Z 5 u0 4 y1) 5 q3 2))) + 1))), (sv83, byC cA sk83 sa83)] [] (W := [(δ, dCell sc D), ((σ 9 0), sbC sv83 sm83 (nI (((((nnt + stN 17) + sb_dg (bsIx x2)) + 1) + sb_dg (bsIx ((wr Z 5 u0 4 y1) 5 q3 2))) + 1))), (sv83, byC cA sk83 sa83)]) rfl ?_
  refine x_aload_nY C dX11_init_560 rfl rfl ?_
  refine xg_X11_82Y C (ln_lt hq3 (by omega)) dX11_init_561 ?_
  obtain ⟨hg86, hf⟩ := bs_if hf
  obtain ⟨hg87, hf⟩ := bs_if hf
  refine x_topiY (y := nI (bsIx ((wr Z 5 u0 4 y1) 5 q3 3))) (jd_nat hg86) ?_
  refine x_outY [(δ, dCell sc D)] [((σ 9 0), sbC sv83 sm83 (nI (((((nnt + stN 17) + sb_dg (bsIx x2)) + 1) + sb_dg (bsIx ((wr Z 5 u0 4 y1) 5 q3 2))) + 1))), (sv83, byC cA sk83 sa83)] [] rfl ?_
  refine x_callVrY (y := yJ4_append_bf812) (As := [.int (nI (bsIx ((wr Z 5 u0 4 y1) 5 q3 3)))]) (rest := []) C (cJ4_append_bf812_okY (w := (bsIx ((wr Z 5 u0 4 y1) 5 q3 3))) hL83 hF83 hN83 hK83 (jd_natlt _) hg87) (bsG_in 622 (by decide +kernel) rfl) wyJ4_append_bf812 ((jd_at _ [((σ 9 0), sbC sv83 sm83 (nI (((((nnt + stN 17) + sb_dg (bsIx x2)) + 1) + sb_dg (bsIx ((wr Z 5 u0 4 y1) 5 q3 2))) + 1))), (sv83, byC cA sk83 sa83)] 0).trans rfl) rfl dpJ4_append_bf812 ⟨Nat.le_of_ble_eq_true rfl, Nat.le_of_ble_eq_true rfl⟩ ⟨by show (cl + 5) + 1 ≤ 204; omega, by show (sl + 5130) + 1026 ≤ 159576; omega⟩ rfl (Nat.le_of_ble_eq_true rfl) dX11_init_564 (fun r' X' R' hp => ?_)
  obtain ⟨eA, eX, sv85, sk85, sa85, sm85, eW, hL85, hF85, hN85, hK85⟩ := hp
  rw [eA, eX, eW]
  clear eA eX eW r' X' R'
  refine x_widenY (k := (cl + 6)) (n := (sl + 6156)) (by show (cl + 5) + 1 ≤ _; omega) (by show (sl + 5130) + 1026 ≤ _; omega) ?_
  refine x_inY [(δ, dCell sc D)] [((σ 9 0), sbC sv85 sm85 (nI ((((((nnt + stN 17) + sb_dg (bsIx x2)) + 1) + sb_dg (bsIx ((wr Z 5 u0 4 y1) 5 q3 2))) + 1) + sb_dg (bsIx ((wr Z 5 u0 4 y1) 5 q3 3))))), (sv85, byC cA sk85 sa85)] [] (W := [(δ, dCell sc D), ((σ 9 0), sbC sv85 sm85 (nI ((((((nnt + stN 17) + sb_dg (bsIx x2)) + 1) + sb_dg (bsIx ((wr Z 5 u0 4 y1) 5 q3 2))) + 1) + sb_dg (bsIx ((wr Z 5 u0 4 y1) 5 q3 3))))), (sv85, byC cA sk85 sa85)]) rfl ?_
  refine x_aload_nY C dX11_init_567 rfl rfl ?_
  refine xg_X11_93Y C (ln_lt hq3 (by omega)) dX11_init_568 ?_
  refine x_if_eqY (tgt := 579) C dX11_init_571 (by decide) (fun h88 => ?_) (fun h88 => ?_)
  · replace hf := bs_pos h88 hf
    refine x_ldcSY (tx := "") (t := 16) C (by decide +kernel) dX11_init_579 ?_
    refine x_subY [0, 1, 2] rfl ?_
    exact qX11_init_581 k233 C hk233 hn233 _ _ _ _ _ _ _ _ _ _ _ _ _ _ hL85 hF85 hN85 hK85 (by decide) (by omega) (by omega) hf
  · replace hf := bs_neg h88 hf
    refine x_ldcSY (tx := " good") (t := 13) C (by decide +kernel) dX11_init_574 ?_
    refine x_gotoY (tgt := 581) C dX11_init_576 (by decide) ?_
    refine x_subY [0, 1, 2] rfl ?_
    exact qX11_init_581 k233 C hk233 hn233 _ _ _ _ _ _ _ _ _ _ _ _ _ _ hL85 hF85 hN85 hK85 (by decide) (by omega) (by omega) hf
