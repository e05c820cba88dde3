set_option maxHeartbeats 4000000 in
set_option maxRecDepth 100000 in
theorem qX11_init_338 {p : Program} {l : Launch} {e : Env} {s : State} {m : MethodId} {args : Array Value} {below : List Frame} {meth : Method} {c : Code} {ρ : bsR} {sc L : Nat} {xs : Nat → Int32} {cA : Nat → ClassId} {dC : Nat → ClassId} {dI : Nat → Nat → Nat} {A : Nat → Prop} {Ts : List Cond} {σ : xA2} {F : va_W} {δ : Nat} (k233 : (Nat → Nat) → Nat → Int32 → bsX → pY → Nat → Option (Int32 × bsX × pY × Nat × (Nat → Nat) × Nat)) {z : (Int32 × bsX × pY × Nat × (Nat → Nat) × Nat)} (C : xCx p m c cX11_init 4 s args Ts RX11 ρ sc L xs cA dC dI A meth none) {NC233 NS233 : Nat} (hk233 : ∀ (ttt : (Nat → Nat)) (nnt : Nat) (x2 : Int32) (X : bsX) (Z : pY) (D : Nat) (θ : xA2) (svt : Nat) (skt : Nat) (sat : (Nat → Int32)) (smt : Int32) (cl sl : Nat), sb_Lat ttt nnt sat → sb_Fit sat → nnt ≤ skt → skt ≤ 1026 → cl + NC233 ≤ 204 → sl + NS233 ≤ 159576 → k233 ttt nnt x2 X Z D = some z → xVY p l e rmX11_init s m args below meth c cl sl (MQ below (xQvY ρ cA dC dI A (fun X' R' => ∃ σ' : xA2, σ' 0 0 = σ 0 0 ∧ X' = z.2.1 ∧ ∃ (θ' : xA2) (v k : Nat) (a : Nat → Int32) (ml : Int32), sb_Lat z.2.2.2.2.1 z.2.2.2.2.2 a ∧ sb_Fit a ∧ z.2.2.2.2.2 ≤ k ∧ k ≤ 1026 ∧ R' = lwWs σ' θ' cA z.2.2.1 ++ (F ++ [(δ, dCell sc z.2.2.2.1), (σ' 9 0, sbC v ml (nI z.2.2.2.2.2)), (v, byC cA k a)]))) args s rmX11_init.cells rmX11_init.slots A) ρ cA dC dI A (lwWs σ θ cA Z ++ (F ++ [(δ, dCell sc D), ((σ 9 0), sbC svt smt (nI nnt)), (svt, byC cA skt sat)])) 4 233 [(0, .ref (σ 0 0)), (1, .ref δ), (2, .int x2)] [] X) (hn233 : 0 ≤ NC233 ∧ 0 ≤ NS233)  : ∀ (ttt : (Nat → Nat)) (nnt : Nat) (x2 : Int32) (q3 : Nat) (u0 : Nat) (f1 : (Nat → Int32)) (y3 : Int32) (y4 : Int32) (X : bsX) (Z : pY) (D : Nat) (θ : xA2) (svt : Nat) (skt : Nat) (sat : (Nat → Int32)) (smt : Int32) (α1 : Nat) (cl sl : Nat), sb_Lat ttt nnt sat → sb_Fit sat → nnt ≤ skt → skt ≤ 1026 → q3 < ln Z → u0 < ln Z → cl + ((17 + NC233)) ≤ 204 → sl + ((17442 + NS233)) ≤ 159576 → hX11_init_338 xs L k233 ttt nnt x2 q3 u0 f1 y3 y4 X Z D = some z → xVY p l e rmX11_init s m args below meth c cl sl (MQ below (xQvY ρ cA dC dI A (fun X' R' => ∃ σ' : xA2, σ' 0 0 = σ 0 0 ∧ X' = z.2.1 ∧ ∃ (θ' : xA2) (v k : Nat) (a : Nat → Int32) (ml : Int32), sb_Lat z.2.2.2.2.1 z.2.2.2.2.2 a ∧ sb_Fit a ∧ z.2.2.2.2.2 ≤ k ∧ k ≤ 1026 ∧ R' = lwWs σ' θ' cA z.2.2.1 ++ (F ++ [(δ, dCell sc z.2.2.2.1), (σ' 9 0, sbC v ml (nI z.2.2.2.2.2)), (v, byC cA k a)]))) args s rmX11_init.cells rmX11_init.slots A) ρ cA dC dI A (lwWs σ θ cA Z ++ (F ++ [(δ, dCell sc D), ((σ 9 0), sbC svt smt (nI nnt)), (svt, byC cA skt sat), (α1, .inl (cA 0, 5, .inl f1))])) 4 338 [(0, .ref (σ 0 0)), (1, .ref δ), (2, .int x2), (3, .ref (σ 5 q3))] [.int y4, .int y3, .ref α1, .ref α1, .ref (σ 5 u0)] X := by
  intro ttt nnt x2 q3 u0 f1 y3 y4 X Z D θ svt skt sat smt α1 cl sl hLt hFt hNt hKt hq3 hu0 hcl hsl hf
  rw [hX11_init_338] at hf
  obtain ⟨hg104, hf⟩ := bs_if hf
  refine xu_stY (T' := [(δ, dCell sc D), ((σ 9 0), sbC svt smt (nI nnt)), (svt, byC cA skt sat), (α1, .inl (cA 0, 5, .inl (upd f1 (bsIx y3) y4)))]) C 3 rfl hg104 rfl dX11_init_338 ?_
  refine x_dupY C dX11_init_339 rfl ?_
  refine x_iconstY (v := 4) C dX11_init_340 (by decide) ?_
  refine x_aload_nY C dX11_init_341 rfl rfl ?_
  refine x_iconstY (v := 0) C dX11_init_342 (by decide) ?_
  refine x_iconstY (v := 5) C dX11_init_343 (by decide) ?_
  obtain ⟨hg107, hf⟩ := bs_if hf
  refine xu_nextY (T' := [(δ, dCell sc (D + 1)), ((σ 9 0), sbC svt smt (nI nnt)), (svt, byC cA skt sat), (α1, .inl (cA 0, 5, .inl (upd f1 (bsIx y3) y4)))]) (As := [.int (0 : Int32), .int (5 : Int32)]) (rest := [.int (4 : Int32), .ref α1, .ref α1, .ref (σ 5 u0)]) (at0 := D) (lo := (0 : Int32)) (hi := (5 : Int32)) C 0 rfl rfl (by decide) hg107 ml_X11_28 rfl ⟨Nat.le_of_ble_eq_true rfl, Nat.le_of_ble_eq_true rfl⟩ ⟨by show (cl) ≤ 204; omega, by show (sl) ≤ 159576; omega⟩ rfl (Nat.le_of_ble_eq_true rfl) dX11_init_344 ?_
  refine x_if_neY (tgt := 354) C dX11_init_347 (by decide) (fun h108 => ?_) (fun h108 => ?_)
  · replace hf := bs_neg h108 hf
    refine x_iconstY (v := 0) C dX11_init_354 (by decide) ?_
    refine x_subY [0, 1, 2, 3] rfl ?_
    exact qX11_init_355 k233 C hk233 hn233 _ _ _ _ _ _ _ _ _ _ _ _ _ _ _ _ _ _ _ hLt hFt hNt hKt hq3 hu0 (by omega) (by omega) hf
  · replace hf := bs_pos h108 hf
    refine x_iconstY (v := 1) C dX11_init_350 (by decide) ?_
    refine x_gotoY (tgt := 355) C dX11_init_351 (by decide) ?_
    refine x_subY [0, 1, 2, 3] rfl ?_
    exact qX11_init_355 k233 C hk233 hn233 _ _ _ _ _ _ _ _ _ _ _ _ _ _ _ _ _ _ _ hLt hFt hNt hKt hq3 hu0 (by omega) (by omega) hf
