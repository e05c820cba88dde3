set_option maxHeartbeats 4000000 in
set_option maxRecDepth 100000 in
theorem qX11_init_233 {p : Program} {l : Launch} {e : Env} {s : State} {m : MethodId} {args : Array Value} {below : List Frame} {meth : Method} {c : Code} {ρ : bsR} {sc L : Nat} {xs : Nat → Int32} {cA : Nat → ClassId} {dC : Nat → ClassId} {dI : Nat → Nat → Nat} {A : Nat → Prop} {Ts : List Cond} {σ : xA2} {F : va_W} {δ : Nat} {z : (Int32 × bsX × pY × Nat × (Nat → Nat) × Nat)} (C : xCx p m c cX11_init 4 s args Ts RX11 ρ sc L xs cA dC dI A meth none)  : ∀ (n : Nat), ∀ (ttt : (Nat → Nat)) (nnt : Nat) (x2 : Int32) (X : bsX) (Z : pY) (D : Nat) (θ : xA2) (svt : Nat) (skt : Nat) (sat : (Nat → Int32)) (smt : Int32) (cl sl : Nat), sb_Lat ttt nnt sat → sb_Fit sat → nnt ≤ skt → skt ≤ 1026 → cl + (n * 18 + (0)) ≤ 204 → sl + (n * 17447 + (0)) ≤ 159576 → hX11_init_233 xs L  n ttt nnt x2 X Z D = some z → xVY p l e rmX11_init s m args below meth c cl sl (MQ below (xQvY ρ cA dC dI A (fun X' R' => ∃ σ' : xA2, σ' 0 0 = σ 0 0 ∧ X' = z.2.1 ∧ ∃ (θ' : xA2) (v k : Nat) (a : Nat → Int32) (ml : Int32), sb_Lat z.2.2.2.2.1 z.2.2.2.2.2 a ∧ sb_Fit a ∧ z.2.2.2.2.2 ≤ k ∧ k ≤ 1026 ∧ R' = lwWs σ' θ' cA z.2.2.1 ++ (F ++ [(δ, dCell sc z.2.2.2.1), (σ' 9 0, sbC v ml (nI z.2.2.2.2.2)), (v, byC cA k a)]))) args s rmX11_init.cells rmX11_init.slots A) ρ cA dC dI A (lwWs σ θ cA Z ++ (F ++ [(δ, dCell sc D), ((σ 9 0), sbC svt smt (nI nnt)), (svt, byC cA skt sat)])) 4 233 [(0, .ref (σ 0 0)), (1, .ref δ), (2, .int x2)] [] X := by
  intro n
  induction n with
  | zero => intro ttt nnt x2 X Z D θ svt skt sat smt cl sl hLt hFt hNt hKt hcl hsl hf; exact (nomatch hf)
  | succ n ih =>
    intro ttt nnt x2 X Z D θ svt skt sat smt cl sl hLt hFt hNt hKt hcl hsl hf
    rw [hX11_init_233] at hf
    refine x_iload_nY C dX11_init_233 rfl rfl ?_
    refine x_aload_nY C dX11_init_234 rfl rfl ?_
    refine xg_X11_66Y C dX11_init_235 ?_
    refine xn_plcY C dX11_init_238 ?_
    refine x_icmp_geY (tgt := 591) C dX11_init_239 (by decide) (fun h59 => ?_) (fun h59 => ?_)
    · replace hf := bs_pos h59 hf
      obtain rfl := Option.some.inj hf
      exact x_vretY C ⟨σ, rfl, rfl, _, _, _, _, _, hLt, hFt, hNt, hKt, rfl⟩ (by show (cl) ≤ 204; omega) (by show (sl) ≤ 159576; omega) dX11_init_591
    · replace hf := bs_neg h59 hf
      refine x_aload_nY C dX11_init_242 rfl rfl ?_
      refine x_iconstY (v := 0) C dX11_init_243 (by decide) ?_
      refine x_iconstY (v := 4) C dX11_init_244 (by decide) ?_
      obtain ⟨hg48, hf⟩ := bs_if hf
      refine xu_nextY (T' := [(δ, dCell sc (D + 1)), ((σ 9 0), sbC svt smt (nI nnt)), (svt, byC cA skt sat)]) (As := [.int (0 : Int32), .int (4 : Int32)]) (rest := []) (at0 := D) (lo := (0 : Int32)) (hi := (4 : Int32)) C 0 rfl rfl (by decide) hg48 ml_X11_28 rfl ⟨Nat.le_of_ble_eq_true rfl, Nat.le_of_ble_eq_true rfl⟩ ⟨by show (cl) ≤ 204; omega, by show (sl) ≤ 159576; omega⟩ rfl (Nat.le_of_ble_eq_true rfl) dX11_init_245 ?_
      refine x_if_neY (tgt := 254) C dX11_init_248 (by decide) (fun h58 => ?_) (fun h58 => ?_)
      · replace hf := bs_neg h58 hf
        refine x_aload_nY C dX11_init_254 rfl rfl ?_
        refine xg_X11_66Y C dX11_init_255 ?_
        refine x_iload_nY C dX11_init_258 rfl rfl ?_
        obtain ⟨hg49, hf⟩ := bs_if hf
        refine xa_plcY C hg49 dX11_init_259 ?_
        refine x_astore_nY (lv' := [(3, .ref (σ 5 (bsIx x2))), (0, .ref (σ 0 0)), (1, .ref δ), (2, .int x2)]) C dX11_init_260 rfl (by decide) rfl ?_
        refine x_aload_nY C dX11_init_261 rfl rfl ?_
        refine x_iconstY (v := 5) C dX11_init_262 (by decide) ?_
        refine xu_newiY (c1 := (cl + 1)) (s1 := (sl + 5)) (N := 5) C (by decide) (by decide) (by decide) ⟨by show _ ≤ 204; omega, by show _ ≤ 159576; omega⟩ (by omega) (by omega) dX11_init_263 (fun α50 => ?_)
        show xVY p l e rmX11_init s m args below meth c (cl + 1) (sl + 5) (MQ below (xQvY ρ cA dC dI A (fun X' R' => ∃ σ' : xA2, σ' 0 0 = σ 0 0 ∧ X' = z.2.1 ∧ ∃ (θ' : xA2) (v k : Nat) (a : Nat → Int32) (ml : Int32), sb_Lat z.2.2.2.2.1 z.2.2.2.2.2 a ∧ sb_Fit a ∧ z.2.2.2.2.2 ≤ k ∧ k ≤ 1026 ∧ R' = lwWs σ' θ' cA z.2.2.1 ++ (F ++ [(δ, dCell sc z.2.2.2.1), (σ' 9 0, sbC v ml (nI z.2.2.2.2.2)), (v, byC cA k a)]))) args s rmX11_init.cells rmX11_init.slots A) ρ cA dC dI A (lwWs σ θ cA Z ++ (F ++ [(δ, dCell sc (D + 1)), ((σ 9 0), sbC svt smt (nI nnt)), (svt, byC cA skt sat), (α50, .inl (cA 0, 5, .inl (fun _ => (0 : Int32))))])) 4 265 [(3, .ref (σ 5 (bsIx x2))), (0, .ref (σ 0 0)), (1, .ref δ), (2, .int x2)] [.ref α50, .ref (σ 5 (bsIx x2))] X
        refine x_dupY C dX11_init_265 rfl ?_
        refine x_iconstY (v := 0) C dX11_init_266 (by decide) ?_
        refine x_aload_nY C dX11_init_267 rfl rfl ?_
        refine x_iconstY (v := 0) C dX11_init_268 (by decide) ?_
        refine x_bipushY (v := 30) C dX11_init_269 (by decide) ?_
        obtain ⟨hg53, hf⟩ := bs_if hf
        refine xu_nextY (T' := [(δ, dCell sc ((D + 1) + 1)), ((σ 9 0), sbC svt smt (nI nnt)), (svt, byC cA skt sat), (α50, .inl (cA 0, 5, .inl (fun _ => (0 : Int32))))]) (As := [.int (0 : Int32), .int (30 : Int32)]) (rest := [.int (0 : Int32), .ref α50, .ref α50, .ref (σ 5 (bsIx x2))]) (at0 := (D + 1)) (lo := (0 : Int32)) (hi := (30 : Int32)) C 0 rfl rfl (by decide) hg53 ml_X11_28 rfl ⟨Nat.le_of_ble_eq_true rfl, Nat.le_of_ble_eq_true rfl⟩ ⟨by show (cl + 1) ≤ 204; omega, by show (sl + 5) ≤ 159576; omega⟩ rfl (Nat.le_of_ble_eq_true rfl) dX11_init_271 ?_
        refine xu_stY (T' := [(δ, dCell sc ((D + 1) + 1)), ((σ 9 0), sbC svt smt (nI nnt)), (svt, byC cA skt sat), (α50, .inl (cA 0, 5, .inl (upd (fun _ => (0 : Int32)) 0 (dVal xs L (D + 1) (0 : Int32) (30 : Int32)))))]) C 3 rfl (by decide) rfl dX11_init_274 ?_
        refine x_dupY C dX11_init_275 rfl ?_
        refine x_iconstY (v := 1) C dX11_init_276 (by decide) ?_
        refine x_aload_nY C dX11_init_277 rfl rfl ?_
        refine x_iconstY (v := 1) C dX11_init_278 (by decide) ?_
        refine x_aload_nY C dX11_init_279 rfl rfl ?_
        refine x_iconstY (v := 0) C dX11_init_280 (by decide) ?_
        refine x_iconstY (v := 1) C dX11_init_281 (by decide) ?_
        obtain ⟨hg56, hf⟩ := bs_if hf
        refine xu_nextY (T' := [(δ, dCell sc (((D + 1) + 1) + 1)), ((σ 9 0), sbC svt smt (nI nnt)), (svt, byC cA skt sat), (α50, .inl (cA 0, 5, .inl (upd (fun _ => (0 : Int32)) 0 (dVal xs L (D + 1) (0 : Int32) (30 : Int32)))))]) (As := [.int (0 : Int32), .int (1 : Int32)]) (rest := [.int (1 : Int32), .ref δ, .int (1 : Int32), .ref α50, .ref α50, .ref (σ 5 (bsIx x2))]) (at0 := ((D + 1) + 1)) (lo := (0 : Int32)) (hi := (1 : Int32)) C 0 rfl rfl (by decide) hg56 ml_X11_28 rfl ⟨Nat.le_of_ble_eq_true rfl, Nat.le_of_ble_eq_true rfl⟩ ⟨by show (cl + 1) ≤ 204; omega, by show (sl + 5) ≤ 159576; omega⟩ rfl (Nat.le_of_ble_eq_true rfl) dX11_init_282 ?_
        refine x_if_neY (tgt := 293) C dX11_init_285 (by decide) (fun h57 => ?_) (fun h57 => ?_)
        · replace hf := bs_neg h57 hf
          refine x_iconstY (v := 5) C dX11_init_293 (by decide) ?_
          refine x_subY [1, 2, 3, 0] rfl ?_
          exact qX11_init_294 (hX11_init_233 xs L  n) C ih ⟨Nat.zero_le _, Nat.zero_le _⟩ _ _ _ _ _ _ _ _ _ _ _ _ _ _ _ _ _ _ _ _ hLt hFt hNt hKt (bsIx_lt hg49) (bsIx_lt hg49) (by omega) (tx_j hsl (Nat.le_of_ble_eq_true rfl)) hf
        · replace hf := bs_pos h57 hf
          refine x_bipushY (v := 12) C dX11_init_288 (by decide) ?_
          refine x_gotoY (tgt := 294) C dX11_init_290 (by decide) ?_
          refine x_subY [1, 2, 3, 0] rfl ?_
          exact qX11_init_294 (hX11_init_233 xs L  n) C ih ⟨Nat.zero_le _, Nat.zero_le _⟩ _ _ _ _ _ _ _ _ _ _ _ _ _ _ _ _ _ _ _ _ hLt hFt hNt hKt (bsIx_lt hg49) (bsIx_lt hg49) (by omega) (tx_j hsl (Nat.le_of_ble_eq_true rfl)) hf
      · replace hf := bs_pos h58 hf
        refine x_gotoY (tgt := 585) C dX11_init_251 (by decide) ?_
        refine x_subY [0, 1, 2] rfl ?_
        exact qX11_init_585 (hX11_init_233 xs L  n) C ih ⟨Nat.zero_le _, Nat.zero_le _⟩ _ _ _ _ _ _ _ _ _ _ _ _ _ hLt hFt hNt hKt (by omega) (tx_j0 hsl (Nat.le_of_ble_eq_true rfl)) hf
