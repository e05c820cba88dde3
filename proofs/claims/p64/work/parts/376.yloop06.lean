set_option maxHeartbeats 4000000 in
set_option maxRecDepth 100000 in
theorem qX11_init_441 {p : Program} {l : Launch} {e : Env} {s : State} {m : MethodId} {args : Array Value} {below : List Frame} {meth : Method} {c : Code} {ρ : bsR} {sc L : Nat} {xs : Nat → Int32} {cA : Nat → ClassId} {dC : Nat → ClassId} {dI : Nat → Nat → Nat} {A : Nat → Prop} {Ts : List Cond} {σ : xA2} {F : va_W} {δ : Nat} (k233 : (Nat → Nat) → Nat → Int32 → bsX → pY → Nat → Option (Int32 × bsX × pY × Nat × (Nat → Nat) × Nat)) {z : (Int32 × bsX × pY × Nat × (Nat → Nat) × Nat)} (C : xCx p m c cX11_init 4 s args Ts RX11 ρ sc L xs cA dC dI A meth none) {NC233 NS233 : Nat} (hk233 : ∀ (ttt : (Nat → Nat)) (nnt : Nat) (x2 : Int32) (X : bsX) (Z : pY) (D : Nat) (θ : xA2) (svt : Nat) (skt : Nat) (sat : (Nat → Int32)) (smt : Int32) (cl sl : Nat), sb_Lat ttt nnt sat → sb_Fit sat → nnt ≤ skt → skt ≤ 1026 → cl + NC233 ≤ 204 → sl + NS233 ≤ 159576 → k233 ttt nnt x2 X Z D = some z → xVY p l e rmX11_init s m args below meth c cl sl (MQ below (xQvY ρ cA dC dI A (fun X' R' => ∃ σ' : xA2, σ' 0 0 = σ 0 0 ∧ X' = z.2.1 ∧ ∃ (θ' : xA2) (v k : Nat) (a : Nat → Int32) (ml : Int32), sb_Lat z.2.2.2.2.1 z.2.2.2.2.2 a ∧ sb_Fit a ∧ z.2.2.2.2.2 ≤ k ∧ k ≤ 1026 ∧ R' = lwWs σ' θ' cA z.2.2.1 ++ (F ++ [(δ, dCell sc z.2.2.2.1), (σ' 9 0, sbC v ml (nI z.2.2.2.2.2)), (v, byC cA k a)]))) args s rmX11_init.cells rmX11_init.slots A) ρ cA dC dI A (lwWs σ θ cA Z ++ (F ++ [(δ, dCell sc D), ((σ 9 0), sbC svt smt (nI nnt)), (svt, byC cA skt sat)])) 4 233 [(0, .ref (σ 0 0)), (1, .ref δ), (2, .int x2)] [] X) (hn233 : 0 ≤ NC233 ∧ 0 ≤ NS233)  : ∀ (ttt : (Nat → Nat)) (nnt : Nat) (x2 : Int32) (q3 : Nat) (u1 : Nat) (X : bsX) (Z : pY) (D : Nat) (θ : xA2) (svt : Nat) (skt : Nat) (sat : (Nat → Int32)) (smt : Int32) (cl sl : Nat), sb_Lat ttt nnt sat → sb_Fit sat → nnt ≤ skt → skt ≤ 1026 → q3 < ln Z → u1 < 22 → cl + ((9 + NC233)) ≤ 204 → sl + ((9234 + NS233)) ≤ 159576 → hX11_init_441 xs L k233 ttt nnt x2 q3 u1 X Z D = some z → xVY p l e rmX11_init s m args below meth c cl sl (MQ below (xQvY ρ cA dC dI A (fun X' R' => ∃ σ' : xA2, σ' 0 0 = σ 0 0 ∧ X' = z.2.1 ∧ ∃ (θ' : xA2) (v k : Nat) (a : Nat → Int32) (ml : Int32), sb_Lat z.2.2.2.2.1 z.2.2.2.2.2 a ∧ sb_Fit a ∧ z.2.2.2.2.2 ≤ k ∧ k ≤ 1026 ∧ R' = lwWs σ' θ' cA z.2.2.1 ++ (F ++ [(δ, dCell sc z.2.2.2.1), (σ' 9 0, sbC v ml (nI z.2.2.2.2.2)), (v, byC cA k a)]))) args s rmX11_init.cells rmX11_init.slots A) ρ cA dC dI A (lwWs σ θ cA Z ++ (F ++ [(δ, dCell sc D), ((σ 9 0), sbC svt smt (nI nnt)), (svt, byC cA skt sat)])) 4 441 [(0, .ref (σ 0 0)), (1, .ref δ), (2, .int x2), (3, .ref (σ 5 q3))] [.ref (ρ 16 0 u1), .ref (σ 9 0)] X := by
  intro ttt nnt x2 q3 u1 X Z D θ svt skt sat smt cl sl hLt hFt hNt hKt hq3 hu1 hcl hsl hf
  rw [hX11_init_441] at hf
  obtain ⟨hg110, hf⟩ := bs_if hf
  refine x_outY [(δ, dCell sc D)] [((σ 9 0), sbC svt smt (nI nnt)), (svt, byC cA skt sat)] [] rfl ?_
  refine x_callVrY (y := yJ4_append_15ec4) (As := [.ref (ρ 16 0 u1)]) (rest := []) C (cJ4_append_15ec4_okY (u := u1) hLt hFt hNt hKt hu1 hg110) (bsG_in 715 (by decide +kernel) rfl) wyJ4_append_15ec4 ((jd_at _ [((σ 9 0), sbC svt smt (nI nnt)), (svt, byC cA skt sat)] 0).trans rfl) rfl dpJ4_append_15ec4 ⟨Nat.le_of_ble_eq_true rfl, Nat.le_of_ble_eq_true rfl⟩ ⟨by show (cl) + 1 ≤ 204; omega, by show (sl) + 1026 ≤ 159576; omega⟩ rfl (Nat.le_of_ble_eq_true rfl) dX11_init_441 (fun r' X' R' hp => ?_)
  obtain ⟨eA, eX, sv109, sk109, sa109, sm109, eW, hL109, hF109, hN109, hK109⟩ := hp
  rw [eA, eX, eW]
  clear eA eX eW r' X' R'
  refine x_widenY (k := (cl + 1)) (n := (sl + 1026)) (by show (cl) + 1 ≤ _; omega) (by show (sl) + 1026 ≤ _; omega) ?_
  refine x_inY [(δ, dCell sc D)] [((σ 9 0), sbC sv109 sm109 (nI (nnt + stN u1))), (sv109, byC cA sk109 sa109)] [] (W := [(δ, dCell sc D), ((σ 9 0), sbC sv109 sm109 (nI (nnt + stN u1))), (sv109, byC cA sk109 sa109)]) rfl ?_
  refine x_aload_nY C dX11_init_444 rfl rfl ?_
  refine xg_X11_76Y C hq3 dX11_init_445 ?_
  refine x_iconstY (v := 4) C dX11_init_448 (by decide) ?_
  refine xl_imgY C hq3 (by decide) dX11_init_449 ?_
  refine x_iconstY (v := 1) C dX11_init_450 (by decide) ?_
  refine x_icmp_neY (tgt := 459) C dX11_init_451 (by decide) (fun h111 => ?_) (fun h111 => ?_)
  · replace hf := bs_neg h111 hf
    refine x_ldcSY (tx := "") (t := 16) C (by decide +kernel) dX11_init_459 ?_
    refine x_subY [0, 1, 2, 3] rfl ?_
    exact qX11_init_461 k233 C hk233 hn233 _ _ _ _ _ _ _ _ _ _ _ _ _ _ _ hL109 hF109 hN109 hK109 hq3 (by decide) (by omega) (by omega) hf
  · replace hf := bs_pos h111 hf
    refine x_ldcSY (tx := " damaged") (t := 11) C (by decide +kernel) dX11_init_454 ?_
    refine x_gotoY (tgt := 461) C dX11_init_456 (by decide) ?_
    refine x_subY [0, 1, 2, 3] rfl ?_
    exact qX11_init_461 k233 C hk233 hn233 _ _ _ _ _ _ _ _ _ _ _ _ _ _ _ hL109 hF109 hN109 hK109 hq3 (by decide) (by omega) (by omega) hf
