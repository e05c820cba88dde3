set_option maxHeartbeats 4000000 in
set_option maxRecDepth 100000 in
theorem qL_finds_390 {p : Program} {l : Launch} {e : Env} {s : State} {m : MethodId} {args : Array Value} {below : List Frame} {meth : Method} {c : Code} {ρ : bsR} {sc L : Nat} {xs : Nat → Int32} {cA : Nat → ClassId} {dC : Nat → ClassId} {dI : Nat → Nat → Nat} {A : Nat → Prop} {Ts : List Cond} {σ : xA2} {F : va_W} (k16 : Int32 → Int32 → Int32 → Int32 → Int32 → Int32 → bsX → pY → Option (Int32 × bsX × pY)) {z : (Int32 × bsX × pY)} (C : xCx p m c cL_finds 13 s args Ts RL ρ sc L xs cA dC dI A meth (some .boolean)) (hst : l.stackTraces = false) {NC16 NS16 : Nat} (hk16 : ∀ (x2 : Int32) (x3 : Int32) (x4 : Int32) (x5 : Int32) (x6 : Int32) (x7 : Int32) (X : bsX) (Z : pY) (θ : xA2) (cl sl : Nat), cl + NC16 ≤ 104 → sl + NS16 ≤ 624 → k16 x2 x3 x4 x5 x6 x7 X Z = some z → xV p l e rmL_finds s m args below meth c cl sl (MQ below (xQi ρ cA dC dI A (fun r X' R' => r = z.1 ∧ X' = z.2.1 ∧ ∃ θ' : xA2, R' = lwWs σ θ' cA z.2.2 ++ F)) args s rmL_finds.cells rmL_finds.slots A) ρ cA dC dI A (lwWs σ θ cA Z ++ (F ++ [])) 13 16 [(0, .ref (ρ 13 0 0)), (1, .ref (σ 0 0)), (2, .int x2), (3, .int x3), (4, .int x4), (5, .int x5), (6, .int x6), (7, .int x7)] [] X) (hn16 : 8 ≤ NC16 ∧ 48 ≤ NS16)  : ∀ (x2 : Int32) (x3 : Int32) (x4 : Int32) (x5 : Int32) (x6 : Int32) (x7 : Int32) (q8 : Nat) (X : bsX) (Z : pY) (θ : xA2) (cl sl : Nat), q8 < ln Z → cl + ((0 + NC16)) ≤ 104 → sl + ((0 + NS16)) ≤ 624 → hL_finds_390 k16 x2 x3 x4 x5 x6 x7 q8 X Z = some z → xV p l e rmL_finds s m args below meth c cl sl (MQ below (xQi ρ cA dC dI A (fun r X' R' => r = z.1 ∧ X' = z.2.1 ∧ ∃ θ' : xA2, R' = lwWs σ θ' cA z.2.2 ++ F)) args s rmL_finds.cells rmL_finds.slots A) ρ cA dC dI A (lwWs σ θ cA Z ++ (F ++ [])) 13 390 [(0, .ref (ρ 13 0 0)), (1, .ref (σ 0 0)), (2, .int x2), (3, .int x3), (4, .int x4), (5, .int x5), (6, .int x6), (7, .int x7), (8, .ref (σ 5 q8))] [] X := by
  intro x2 x3 x4 x5 x6 x7 q8 X Z θ cl sl hq8 hcl hsl hf
  rw [hL_finds_390] at hf
  refine x_iload_n C dL_finds_390 rfl rfl ?_
  refine x_aload C dL_finds_391 rfl ?_
  obtain ⟨r17, hc18, hf⟩ := bs_bind hf
  obtain ⟨q0, he⟩ := xr_plc (Z := Z) σ θ cA (F ++ []) hq8
  refine x_callVi (y := yX10_isEmpty) (As := []) (rest := [.int x3]) C (cX10_isEmpty_ok hq8 hc18) ml_L_164 wyX10_isEmpty he rfl dpX10_isEmpty ⟨Nat.le_of_ble_eq_true rfl, Nat.le_of_ble_eq_true rfl⟩ ⟨by show (cl) + 0 ≤ 104; omega, by show (sl) + (0) ≤ 624; omega⟩ rfl (Nat.le_of_ble_eq_true rfl) dL_finds_393 (fun r' X' R' hp => ?_)
  obtain ⟨rfl, rfl, θ, rfl⟩ := hp
  refine x_widen (k := (cl)) (n := (sl)) (by show (cl) + 0 ≤ _; omega) (by show (sl) + (0) ≤ _; omega) ?_
  refine x_if_ne (tgt := 420) C dL_finds_396 (by decide) (fun h23 => ?_) (fun h23 => ?_)
  · replace hf := bs_neg h23 hf
    obtain ⟨hg20, hf⟩ := bs_if hf
    refine x_sub [0, 1, 2, 4, 5, 6, 7, 8] rfl ?_
    exact qL_finds_420 k16 C hst hk16 hn16 _ _ _ _ _ _ _ _ _ _  _ _ hg20 (by omega) (by omega) hf
  · replace hf := bs_pos h23 hf
    refine x_aload C dL_finds_399 rfl ?_
    obtain ⟨hg21, hf⟩ := bs_if hf
    refine xg_L_183 C hg21 dL_finds_401 ?_
    refine x_iconst (v := 0) C dL_finds_404 (by decide) ?_
    refine xl_img C hg21 (by decide) dL_finds_405 ?_
    refine x_aload_n C dL_finds_406 rfl rfl ?_
    refine xg_L_145 C dL_finds_407 ?_
    refine x_icmp_ge (tgt := 420) C dL_finds_410 (by decide) (fun h22 => ?_) (fun h22 => ?_)
    · replace hf := bs_pos h22 hf
      refine x_sub [0, 1, 2, 4, 5, 6, 7, 8] rfl ?_
      exact qL_finds_420 k16 C hst hk16 hn16 _ _ _ _ _ _ _ _ _ _  _ _ hg21 (by omega) (by omega) hf
    · replace hf := bs_neg h22 hf
      refine x_iconst (v := 1) C dL_finds_413 (by decide) ?_
      refine x_iload C dL_finds_414 rfl ?_
      refine x_ishl C dL_finds_416 ?_
      refine x_goto (tgt := 421) C dL_finds_417 (by decide) ?_
      refine x_sub [0, 1, 2, 4, 5, 6, 7, 8] rfl ?_
      exact qL_finds_421 k16 C hst hk16 hn16 _ _ _ _ _ _ _ _ _ _ _  _ _ hg21 (by omega) (by omega) hf
set_option maxHeartbeats 4000000 in
set_option maxRecDepth 100000 in
theorem qL_finds_387 {p : Program} {l : Launch} {e : Env} {s : State} {m : MethodId} {args : Array Value} {below : List Frame} {meth : Method} {c : Code} {ρ : bsR} {sc L : Nat} {xs : Nat → Int32} {cA : Nat → ClassId} {dC : Nat → ClassId} {dI : Nat → Nat → Nat} {A : Nat → Prop} {Ts : List Cond} {σ : xA2} {F : va_W} (k16 : Int32 → Int32 → Int32 → Int32 → Int32 → Int32 → bsX → pY → Option (Int32 × bsX × pY)) {z : (Int32 × bsX × pY)} (C : xCx p m c cL_finds 13 s args Ts RL ρ sc L xs cA dC dI A meth (some .boolean)) (hst : l.stackTraces = false) {NC16 NS16 : Nat} (hk16 : ∀ (x2 : Int32) (x3 : Int32) (x4 : Int32) (x5 : Int32) (x6 : Int32) (x7 : Int32) (X : bsX) (Z : pY) (θ : xA2) (cl sl : Nat), cl + NC16 ≤ 104 → sl + NS16 ≤ 624 → k16 x2 x3 x4 x5 x6 x7 X Z = some z → xV p l e rmL_finds s m args below meth c cl sl (MQ below (xQi ρ cA dC dI A (fun r X' R' => r = z.1 ∧ X' = z.2.1 ∧ ∃ θ' : xA2, R' = lwWs σ θ' cA z.2.2 ++ F)) args s rmL_finds.cells rmL_finds.slots A) ρ cA dC dI A (lwWs σ θ cA Z ++ (F ++ [])) 13 16 [(0, .ref (ρ 13 0 0)), (1, .ref (σ 0 0)), (2, .int x2), (3, .int x3), (4, .int x4), (5, .int x5), (6, .int x6), (7, .int x7)] [] X) (hn16 : 8 ≤ NC16 ∧ 48 ≤ NS16)  : ∀ (x3 : Int32) (x4 : Int32) (x5 : Int32) (x6 : Int32) (x7 : Int32) (q8 : Nat) (X : bsX) (Z : pY) (θ : xA2) (cl sl : Nat), q8 < ln Z → cl + ((0 + NC16)) ≤ 104 → sl + ((0 + NS16)) ≤ 624 → hL_finds_387 k16 x3 x4 x5 x6 x7 q8 X Z = some z → xV p l e rmL_finds s m args below meth c cl sl (MQ below (xQi ρ cA dC dI A (fun r X' R' => r = z.1 ∧ X' = z.2.1 ∧ ∃ θ' : xA2, R' = lwWs σ θ' cA z.2.2 ++ F)) args s rmL_finds.cells rmL_finds.slots A) ρ cA dC dI A (lwWs σ θ cA Z ++ (F ++ [])) 13 387 [(0, .ref (ρ 13 0 0)), (1, .ref (σ 0 0)), (3, .int x3), (4, .int x4), (5, .int x5), (6, .int x6), (7, .int x7), (8, .ref (σ 5 q8))] [] X := by
  intro x3 x4 x5 x6 x7 q8 X Z θ cl sl hq8 hcl hsl hf
  rw [hL_finds_387] at hf
  refine x_iload C dL_finds_387 rfl ?_
  refine x_istore_n (lv' := [(2, .int x7), (0, .ref (ρ 13 0 0)), (1, .ref (σ 0 0)), (3, .int x3), (4, .int x4), (5, .int x5), (6, .int x6), (7, .int x7), (8, .ref (σ 5 q8))]) C dL_finds_389 rfl (by decide) rfl ?_
  refine x_sub [1, 2, 0, 3, 4, 5, 6, 7, 8] rfl ?_
  exact qL_finds_390 k16 C hst hk16 hn16 _ _ _ _ _ _ _ _ _ _  _ _ hq8 (by omega) (by omega) hf
set_option maxHeartbeats 4000000 in
set_option maxRecDepth 100000 in
theorem qL_finds_301 {p : Program} {l : Launch} {e : Env} {s : State} {m : MethodId} {args : Array Value} {below : List Frame} {meth : Method} {c : Code} {ρ : bsR} {sc L : Nat} {xs : Nat → Int32} {cA : Nat → ClassId} {dC : Nat → ClassId} {dI : Nat → Nat → Nat} {A : Nat → Prop} {Ts : List Cond} {σ : xA2} {F : va_W} (k16 : Int32 → Int32 → Int32 → Int32 → Int32 → Int32 → bsX → pY → Option (Int32 × bsX × pY)) {z : (Int32 × bsX × pY)} (C : xCx p m c cL_finds 13 s args Ts RL ρ sc L xs cA dC dI A meth (some .boolean)) (hst : l.stackTraces = false) {NC16 NS16 : Nat} (hk16 : ∀ (x2 : Int32) (x3 : Int32) (x4 : Int32) (x5 : Int32) (x6 : Int32) (x7 : Int32) (X : bsX) (Z : pY) (θ : xA2) (cl sl : Nat), cl + NC16 ≤ 104 → sl + NS16 ≤ 624 → k16 x2 x3 x4 x5 x6 x7 X Z = some z → xV p l e rmL_finds s m args below meth c cl sl (MQ below (xQi ρ cA dC dI A (fun r X' R' => r = z.1 ∧ X' = z.2.1 ∧ ∃ θ' : xA2, R' = lwWs σ θ' cA z.2.2 ++ F)) args s rmL_finds.cells rmL_finds.slots A) ρ cA dC dI A (lwWs σ θ cA Z ++ (F ++ [])) 13 16 [(0, .ref (ρ 13 0 0)), (1, .ref (σ 0 0)), (2, .int x2), (3, .int x3), (4, .int x4), (5, .int x5), (6, .int x6), (7, .int x7)] [] X) (hn16 : 8 ≤ NC16 ∧ 48 ≤ NS16)  : ∀ (x2 : Int32) (x3 : Int32) (x4 : Int32) (x5 : Int32) (x6 : Int32) (x7 : Int32) (q8 : Nat) (x10 : Int32) (x11 : Int32) (x12 : Int32) (y0 : Int32) (y1 : Int32) (X : bsX) (Z : pY) (θ : xA2) (cl sl : Nat), q8 < ln Z → cl + ((8 + NC16)) ≤ 104 → sl + ((48 + NS16)) ≤ 624 → hL_finds_301 k16 x2 x3 x4 x5 x6 x7 q8 x10 x11 x12 y0 y1 X Z = some z → xV p l e rmL_finds s m args below meth c cl sl (MQ below (xQi ρ cA dC dI A (fun r X' R' => r = z.1 ∧ X' = z.2.1 ∧ ∃ θ' : xA2, R' = lwWs σ θ' cA z.2.2 ++ F)) args s rmL_finds.cells rmL_finds.slots A) ρ cA dC dI A (lwWs σ θ cA Z ++ (F ++ [])) 13 301 [(0, .ref (ρ 13 0 0)), (1, .ref (σ 0 0)), (2, .int x2), (3, .int x3), (4, .int x4), (5, .int x5), (6, .int x6), (7, .int x7), (8, .ref (σ 5 q8)), (10, .int x10), (11, .int x11), (12, .int x12)] [.int y1, .int y0] X := by
  intro x2 x3 x4 x5 x6 x7 q8 x10 x11 x12 y0 y1 X Z θ cl sl hq8 hcl hsl hf
  rw [hL_finds_301] at hf
  refine x_icmp_ne (tgt := 352) C dL_finds_301 (by decide) (fun h107 => ?_) (fun h107 => ?_)
  · replace hf := bs_neg h107 hf
    refine x_iconst (v := 0) C dL_finds_352 (by decide) ?_
    obtain rfl := Option.some.inj hf
    refine xu_dropall ?_
    exact x_xret C (bsZ01 (by decide)).1 ⟨rfl, rfl, _, rfl⟩ (by show _ ≤ 104; omega) (by show _ ≤ 624; omega) dL_finds_353
  · replace hf := bs_pos h107 hf
    refine x_aload_n C dL_finds_304 rfl rfl ?_
    refine x_iload C dL_finds_305 rfl ?_
    obtain ⟨r77, hc78, hf⟩ := bs_bind hf
    obtain ⟨h079, hf⟩ := bs_if hf
    refine x_callT (y := yX8_twins) (As := [.int x7]) (rest := []) C (cX8_twins_ok hst hc78) h079 ml_L_229 wyX8_twins bsm_X8 bsc_X8 rfl dpX8_twins ⟨Nat.le_of_ble_eq_true rfl, Nat.le_of_ble_eq_true rfl⟩ ⟨by show (cl) + 2 ≤ 104; omega, by show (sl) + 12 ≤ 624; omega⟩ rfl (Nat.le_of_ble_eq_true rfl) dL_finds_307 ?_
    refine x_widen (k := (cl + 2)) (n := (sl + 12)) (by show (cl) + 2 ≤ _; omega) (by show (sl) + 12 ≤ _; omega) ?_
    refine x_iload C dL_finds_310 rfl ?_
    refine x_icmp_ne (tgt := 352) C dL_finds_312 (by decide) (fun h106 => ?_) (fun h106 => ?_)
    · replace hf := bs_neg h106 hf
      refine x_iconst (v := 0) C dL_finds_352 (by decide) ?_
      obtain rfl := Option.some.inj hf
      refine xu_dropall ?_
      exact x_xret C (bsZ01 (by decide)).1 ⟨rfl, rfl, _, rfl⟩ (by show _ ≤ 104; omega) (by show _ ≤ 624; omega) dL_finds_353
    · replace hf := bs_pos h106 hf
      refine x_aload_n C dL_finds_315 rfl rfl ?_
      refine x_iload C dL_finds_316 rfl ?_
      obtain ⟨r80, hc81, hf⟩ := bs_bind hf
      obtain ⟨h082, hf⟩ := bs_if hf
      refine x_callT (y := yX8_bootsOf) (As := [.int x7]) (rest := []) C (cX8_bootsOf_ok hst hc81) h082 ml_L_232 wyX8_bootsOf bsm_X8 bsc_X8 rfl dpX8_bootsOf ⟨Nat.le_of_ble_eq_true rfl, Nat.le_of_ble_eq_true rfl⟩ ⟨by show (cl + 2) + 2 ≤ 104; omega, by show (sl + 12) + 12 ≤ 624; omega⟩ rfl (Nat.le_of_ble_eq_true rfl) dL_finds_318 ?_
      refine x_widen (k := (cl + 4)) (n := (sl + 24)) (by show (cl + 2) + 2 ≤ _; omega) (by show (sl + 12) + 12 ≤ _; omega) ?_
      refine x_iload C dL_finds_321 rfl ?_
      refine x_icmp_ne (tgt := 352) C dL_finds_323 (by decide) (fun h105 => ?_) (fun h105 => ?_)
      · replace hf := bs_neg h105 hf
        refine x_iconst (v := 0) C dL_finds_352 (by decide) ?_
        obtain rfl := Option.some.inj hf
        refine xu_dropall ?_
        exact x_xret C (bsZ01 (by decide)).1 ⟨rfl, rfl, _, rfl⟩ (by show _ ≤ 104; omega) (by show _ ≤ 624; omega) dL_finds_353
      · replace hf := bs_pos h105 hf
        refine x_aload_n C dL_finds_326 rfl rfl ?_
        refine x_iload C dL_finds_327 rfl ?_
        obtain ⟨r83, hc84, hf⟩ := bs_bind hf
        obtain ⟨h085, hf⟩ := bs_if hf
        refine x_callT (y := yX8_floorWith) (As := [.int x7]) (rest := []) C (cX8_floorWith_ok hst hc84) h085 ml_L_235 wyX8_floorWith bsm_X8 bsc_X8 rfl dpX8_floorWith ⟨Nat.le_of_ble_eq_true rfl, Nat.le_of_ble_eq_true rfl⟩ ⟨by show (cl + 4) + 2 ≤ 104; omega, by show (sl + 24) + 12 ≤ 624; omega⟩ rfl (Nat.le_of_ble_eq_true rfl) dL_finds_329 ?_
        refine x_widen (k := (cl + 6)) (n := (sl + 36)) (by show (cl + 4) + 2 ≤ _; omega) (by show (sl + 24) + 12 ≤ _; omega) ?_
        refine x_aload_n C dL_finds_332 rfl rfl ?_
        refine x_iload C dL_finds_333 rfl ?_
        obtain ⟨r86, hc87, hf⟩ := bs_bind hf
        obtain ⟨q0, he⟩ := xr_wor σ θ cA Z (F ++ [])
        refine x_callVi (y := yX11_floorWith) (As := [.int x7]) (rest := [.int r83.2.1]) C (cX11_floorWith_ok  hc87) ml_L_238 wyX11_floorWith he rfl dpX11_floorWith ⟨Nat.le_of_ble_eq_true rfl, Nat.le_of_ble_eq_true rfl⟩ ⟨by show (cl + 6) + 0 ≤ 104; omega, by show (sl + 36) + (0) ≤ 624; omega⟩ rfl (Nat.le_of_ble_eq_true rfl) dL_finds_335 (fun r' X' R' hp => ?_)
        obtain ⟨rfl, rfl, θ, rfl⟩ := hp
        refine x_widen (k := (cl + 6)) (n := (sl + 36)) (by show (cl + 6) + 0 ≤ _; omega) (by show (sl + 36) + (0) ≤ _; omega) ?_
        refine x_icmp_ne (tgt := 352) C dL_finds_338 (by decide) (fun h104 => ?_) (fun h104 => ?_)
        · replace hf := bs_neg h104 hf
          refine x_iconst (v := 0) C dL_finds_352 (by decide) ?_
          obtain rfl := Option.some.inj hf
          refine xu_dropall ?_
          exact x_xret C (bsZ01 (by decide)).1 ⟨rfl, rfl, _, rfl⟩ (by show _ ≤ 104; omega) (by show _ ≤ 624; omega) dL_finds_353
        · replace hf := bs_pos h104 hf
          refine x_aload_n C dL_finds_341 rfl rfl ?_
          refine x_iload C dL_finds_342 rfl ?_
          obtain ⟨r89, hc90, hf⟩ := bs_bind hf
          obtain ⟨h091, hf⟩ := bs_if hf
          refine x_callT (y := yX8_mayHold) (As := [.int x7]) (rest := []) C (cX8_mayHold_ok hst hc90) h091 ml_L_239 wyX8_mayHold bsm_X8 bsc_X8 rfl dpX8_mayHold ⟨Nat.le_of_ble_eq_true rfl, Nat.le_of_ble_eq_true rfl⟩ ⟨by show (cl + 6) + 2 ≤ 104; omega, by show (sl + 36) + 12 ≤ 624; omega⟩ rfl (Nat.le_of_ble_eq_true rfl) dL_finds_344 ?_
          refine x_widen (k := (cl + 8)) (n := (sl + 48)) (by show (cl + 6) + 2 ≤ _; omega) (by show (sl + 36) + 12 ≤ _; omega) ?_
          refine x_iload C dL_finds_347 rfl ?_
          refine x_icmp_eq (tgt := 354) C dL_finds_349 (by decide) (fun h103 => ?_) (fun h103 => ?_)
          · replace hf := bs_pos h103 hf
            refine x_aload C dL_finds_354 rfl ?_
            obtain ⟨r92, hc93, hf⟩ := bs_bind hf
            obtain ⟨hg94, hf⟩ := bs_if hf
            obtain ⟨q0, he⟩ := xr_plc (Z := r86.2.2) σ θ cA (F ++ []) hg94
            refine x_callVi (y := yX10_isEmpty) (As := []) (rest := []) C (cX10_isEmpty_ok hg94 hc93) ml_L_164 wyX10_isEmpty he rfl dpX10_isEmpty ⟨Nat.le_of_ble_eq_true rfl, Nat.le_of_ble_eq_true rfl⟩ ⟨by show (cl + 8) + 0 ≤ 104; omega, by show (sl + 48) + (0) ≤ 624; omega⟩ rfl (Nat.le_of_ble_eq_true rfl) dL_finds_356 (fun r' X' R' hp => ?_)
            obtain ⟨rfl, rfl, θ, rfl⟩ := hp
            refine x_widen (k := (cl + 8)) (n := (sl + 48)) (by show (cl + 8) + 0 ≤ _; omega) (by show (sl + 48) + (0) ≤ _; omega) ?_
            refine x_if_ne (tgt := 390) C dL_finds_359 (by decide) (fun h102 => ?_) (fun h102 => ?_)
            · replace hf := bs_neg h102 hf
              obtain ⟨hg96, hf⟩ := bs_if hf
              refine x_sub [0, 1, 2, 3, 4, 5, 6, 7, 8] rfl ?_
              exact qL_finds_390 k16 C hst hk16 hn16 _ _ _ _ _ _ _ _ _ _  _ _ hg96 (by omega) (by omega) hf
            · replace hf := bs_pos h102 hf
              refine x_iload_n C dL_finds_362 rfl rfl ?_
              refine x_if_lt (tgt := 387) C dL_finds_363 (by decide) (fun h101 => ?_) (fun h101 => ?_)
              · replace hf := bs_pos h101 hf
                obtain ⟨hg97, hf⟩ := bs_if hf
                refine x_sub [0, 1, 3, 4, 5, 6, 7, 8] rfl ?_
                exact qL_finds_387 k16 C hst hk16 hn16 _ _ _ _ _ _ _ _ _  _ _ hg97 (by omega) (by omega) hf
              · replace hf := bs_neg h101 hf
                refine x_aload C dL_finds_366 rfl ?_
                obtain ⟨hg98, hf⟩ := bs_if hf
                refine xg_L_183 C hg98 dL_finds_368 ?_
                refine x_iconst (v := 0) C dL_finds_371 (by decide) ?_
                refine xl_img C hg98 (by decide) dL_finds_372 ?_
                refine x_aload_n C dL_finds_373 rfl rfl ?_
                refine xg_L_114 C dL_finds_374 ?_
                refine x_iload_n C dL_finds_377 rfl rfl ?_
                obtain ⟨hg99, hf⟩ := bs_if hf
                refine xa_plc C hg99 dL_finds_378 ?_
                refine xg_L_183 C (bsIx_lt hg99) dL_finds_379 ?_
                refine x_iconst (v := 0) C dL_finds_382 (by decide) ?_
                refine xl_img C (bsIx_lt hg99) (by decide) dL_finds_383 ?_
                refine x_icmp_le (tgt := 390) C dL_finds_384 (by decide) (fun h100 => ?_) (fun h100 => ?_)
                · replace hf := bs_pos h100 hf
                  refine x_sub [0, 1, 2, 3, 4, 5, 6, 7, 8] rfl ?_
                  exact qL_finds_390 k16 C hst hk16 hn16 _ _ _ _ _ _ _ _ _ _  _ _ hg98 (by omega) (by omega) hf
                · replace hf := bs_neg h100 hf
                  refine x_sub [0, 1, 3, 4, 5, 6, 7, 8] rfl ?_
                  exact qL_finds_387 k16 C hst hk16 hn16 _ _ _ _ _ _ _ _ _  _ _ hg98 (by omega) (by omega) hf
          · replace hf := bs_neg h103 hf
            refine x_iconst (v := 0) C dL_finds_352 (by decide) ?_
            obtain rfl := Option.some.inj hf
            refine xu_dropall ?_
            exact x_xret C (bsZ01 (by decide)).1 ⟨rfl, rfl, _, rfl⟩ (by show _ ≤ 104; omega) (by show _ ≤ 624; omega) dL_finds_353
