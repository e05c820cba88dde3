set_option maxHeartbeats 4000000 in
set_option maxRecDepth 100000 in
theorem qL_finds_443 {p : Program} {l : Launch} {e : Env} {s : State} {m : MethodId} {args : Array Value} {below : List Frame} {meth : Method} {c : Code} {ρ : bsR} {sc L : Nat} {xs : Nat → Int32} {cA : Nat → ClassId} {dC : Nat → ClassId} {dI : Nat → Nat → Nat} {A : Nat → Prop} {Ts : List Cond} {σ : xA2} {F : va_W} (k16 : Int32 → Int32 → Int32 → Int32 → Int32 → Int32 → bsX → pY → Option (Int32 × bsX × pY)) {z : (Int32 × bsX × pY)} (C : xCx p m c cL_finds 13 s args Ts RL ρ sc L xs cA dC dI A meth (some .boolean)) (hst : l.stackTraces = false) {NC16 NS16 : Nat} (hk16 : ∀ (x2 : Int32) (x3 : Int32) (x4 : Int32) (x5 : Int32) (x6 : Int32) (x7 : Int32) (X : bsX) (Z : pY) (θ : xA2) (cl sl : Nat), cl + NC16 ≤ 104 → sl + NS16 ≤ 624 → k16 x2 x3 x4 x5 x6 x7 X Z = some z → xV p l e rmL_finds s m args below meth c cl sl (MQ below (xQi ρ cA dC dI A (fun r X' R' => r = z.1 ∧ X' = z.2.1 ∧ ∃ θ' : xA2, R' = lwWs σ θ' cA z.2.2 ++ F)) args s rmL_finds.cells rmL_finds.slots A) ρ cA dC dI A (lwWs σ θ cA Z ++ (F ++ [])) 13 16 [(0, .ref (ρ 13 0 0)), (1, .ref (σ 0 0)), (2, .int x2), (3, .int x3), (4, .int x4), (5, .int x5), (6, .int x6), (7, .int x7)] [] X) (hn16 : 8 ≤ NC16 ∧ 48 ≤ NS16)  : ∀ (x2 : Int32) (x3 : Int32) (x5 : Int32) (x6 : Int32) (x7 : Int32) (q8 : Nat) (y0 : Int32) (y1 : Int32) (X : bsX) (Z : pY) (θ : xA2) (cl sl : Nat), q8 < ln Z → cl + ((0 + NC16)) ≤ 104 → sl + ((0 + NS16)) ≤ 624 → hL_finds_443 k16 x2 x3 x5 x6 x7 q8 y0 y1 X Z = some z → xV p l e rmL_finds s m args below meth c cl sl (MQ below (xQi ρ cA dC dI A (fun r X' R' => r = z.1 ∧ X' = z.2.1 ∧ ∃ θ' : xA2, R' = lwWs σ θ' cA z.2.2 ++ F)) args s rmL_finds.cells rmL_finds.slots A) ρ cA dC dI A (lwWs σ θ cA Z ++ (F ++ [])) 13 443 [(0, .ref (ρ 13 0 0)), (1, .ref (σ 0 0)), (2, .int x2), (3, .int x3), (5, .int x5), (6, .int x6), (7, .int x7), (8, .ref (σ 5 q8))] [.int y1, .int y0] X := by
  intro x2 x3 x5 x6 x7 q8 y0 y1 X Z θ cl sl hq8 hcl hsl hf
  rw [hL_finds_443] at hf
  refine x_iadd C dL_finds_443 ?_
  refine x_istore (lv' := [(4, .int (y0 + y1)), (0, .ref (ρ 13 0 0)), (1, .ref (σ 0 0)), (2, .int x2), (3, .int x3), (5, .int x5), (6, .int x6), (7, .int x7), (8, .ref (σ 5 q8))]) C dL_finds_444 (by decide) rfl ?_
  refine x_aload_n C dL_finds_446 rfl rfl ?_
  refine x_iload C dL_finds_447 rfl ?_
  obtain ⟨r123, hc124, hf⟩ := bs_bind hf
  obtain ⟨q0, he⟩ := xr_wor σ θ cA Z (F ++ [])
  refine x_callVi (y := yX11_why) (As := [.int x7]) (rest := []) C (cX11_why_ok  hc124) ml_L_120 wyX11_why he rfl dpX11_why ⟨Nat.le_of_ble_eq_true rfl, Nat.le_of_ble_eq_true rfl⟩ ⟨by show (cl) + 0 ≤ 104; omega, by show (sl) + (0) ≤ 624; omega⟩ rfl (Nat.le_of_ble_eq_true rfl) dL_finds_449 (fun r' X' R' hp => ?_)
  obtain ⟨rfl, rfl, θ, rfl⟩ := hp
  refine x_widen (k := (cl)) (n := (sl)) (by show (cl) + 0 ≤ _; omega) (by show (sl) + (0) ≤ _; omega) ?_
  refine x_if_ne (tgt := 490) C dL_finds_452 (by decide) (fun h132 => ?_) (fun h132 => ?_)
  · replace hf := bs_neg h132 hf
    obtain ⟨hg126, hf⟩ := bs_if hf
    refine x_sub [1, 2, 3, 4, 0, 5, 6, 7, 8] rfl ?_
    exact qL_finds_490 k16 C hst hk16 hn16 _ _ _ _ _ _ _ _ _ _  _ _ hg126 (by omega) (by omega) hf
  · replace hf := bs_pos h132 hf
    refine x_aload C dL_finds_455 rfl ?_
    obtain ⟨hg127, hf⟩ := bs_if hf
    refine xg_L_123 C hg127 dL_finds_457 ?_
    refine x_if_ne (tgt := 490) C dL_finds_460 (by decide) (fun h131 => ?_) (fun h131 => ?_)
    · replace hf := bs_neg h131 hf
      refine x_sub [1, 2, 3, 4, 0, 5, 6, 7, 8] rfl ?_
      exact qL_finds_490 k16 C hst hk16 hn16 _ _ _ _ _ _ _ _ _ _  _ _ hg127 (by omega) (by omega) hf
    · replace hf := bs_pos h131 hf
      refine x_iload C dL_finds_463 rfl ?_
      refine x_if_lt (tgt := 486) C dL_finds_465 (by decide) (fun h130 => ?_) (fun h130 => ?_)
      · replace hf := bs_pos h130 hf
        refine x_sub [1, 2, 3, 4, 0, 6, 7, 8] rfl ?_
        exact qL_finds_486 k16 C hst hk16 hn16 _ _ _ _ _ _ _ _ _  _ _ hg127 (by omega) (by omega) hf
      · replace hf := bs_neg h130 hf
        refine x_aload C dL_finds_468 rfl ?_
        refine xg_L_129 C hg127 dL_finds_470 ?_
        refine x_aload_n C dL_finds_473 rfl rfl ?_
        refine xg_L_114 C dL_finds_474 ?_
        refine x_iload C dL_finds_477 rfl ?_
        obtain ⟨hg128, hf⟩ := bs_if hf
        refine xa_plc C hg128 dL_finds_479 ?_
        refine xg_L_129 C (bsIx_lt hg128) dL_finds_480 ?_
        refine x_icmp_ge (tgt := 490) C dL_finds_483 (by decide) (fun h129 => ?_) (fun h129 => ?_)
        · replace hf := bs_pos h129 hf
          refine x_sub [1, 2, 3, 4, 0, 5, 6, 7, 8] rfl ?_
          exact qL_finds_490 k16 C hst hk16 hn16 _ _ _ _ _ _ _ _ _ _  _ _ hg127 (by omega) (by omega) hf
        · replace hf := bs_neg h129 hf
          refine x_sub [1, 2, 3, 4, 0, 6, 7, 8] rfl ?_
          exact qL_finds_486 k16 C hst hk16 hn16 _ _ _ _ _ _ _ _ _  _ _ hg127 (by omega) (by omega) hf
set_option maxHeartbeats 4000000 in
set_option maxRecDepth 100000 in
theorem qL_finds_421 {p : Program} {l : Launch} {e : Env} {s : State} {m : MethodId} {args : Array Value} {below : List Frame} {meth : Method} {c : Code} {ρ : bsR} {sc L : Nat} {xs : Nat → Int32} {cA : Nat → ClassId} {dC : Nat → ClassId} {dI : Nat → Nat → Nat} {A : Nat → Prop} {Ts : List Cond} {σ : xA2} {F : va_W} (k16 : Int32 → Int32 → Int32 → Int32 → Int32 → Int32 → bsX → pY → Option (Int32 × bsX × pY)) {z : (Int32 × bsX × pY)} (C : xCx p m c cL_finds 13 s args Ts RL ρ sc L xs cA dC dI A meth (some .boolean)) (hst : l.stackTraces = false) {NC16 NS16 : Nat} (hk16 : ∀ (x2 : Int32) (x3 : Int32) (x4 : Int32) (x5 : Int32) (x6 : Int32) (x7 : Int32) (X : bsX) (Z : pY) (θ : xA2) (cl sl : Nat), cl + NC16 ≤ 104 → sl + NS16 ≤ 624 → k16 x2 x3 x4 x5 x6 x7 X Z = some z → xV p l e rmL_finds s m args below meth c cl sl (MQ below (xQi ρ cA dC dI A (fun r X' R' => r = z.1 ∧ X' = z.2.1 ∧ ∃ θ' : xA2, R' = lwWs σ θ' cA z.2.2 ++ F)) args s rmL_finds.cells rmL_finds.slots A) ρ cA dC dI A (lwWs σ θ cA Z ++ (F ++ [])) 13 16 [(0, .ref (ρ 13 0 0)), (1, .ref (σ 0 0)), (2, .int x2), (3, .int x3), (4, .int x4), (5, .int x5), (6, .int x6), (7, .int x7)] [] X) (hn16 : 8 ≤ NC16 ∧ 48 ≤ NS16)  : ∀ (x2 : Int32) (x4 : Int32) (x5 : Int32) (x6 : Int32) (x7 : Int32) (q8 : Nat) (y0 : Int32) (y1 : Int32) (X : bsX) (Z : pY) (θ : xA2) (cl sl : Nat), q8 < ln Z → cl + ((0 + NC16)) ≤ 104 → sl + ((0 + NS16)) ≤ 624 → hL_finds_421 k16 x2 x4 x5 x6 x7 q8 y0 y1 X Z = some z → xV p l e rmL_finds s m args below meth c cl sl (MQ below (xQi ρ cA dC dI A (fun r X' R' => r = z.1 ∧ X' = z.2.1 ∧ ∃ θ' : xA2, R' = lwWs σ θ' cA z.2.2 ++ F)) args s rmL_finds.cells rmL_finds.slots A) ρ cA dC dI A (lwWs σ θ cA Z ++ (F ++ [])) 13 421 [(0, .ref (ρ 13 0 0)), (1, .ref (σ 0 0)), (2, .int x2), (4, .int x4), (5, .int x5), (6, .int x6), (7, .int x7), (8, .ref (σ 5 q8))] [.int y1, .int y0] X := by
  intro x2 x4 x5 x6 x7 q8 y0 y1 X Z θ cl sl hq8 hcl hsl hf
  rw [hL_finds_421] at hf
  refine x_ior C dL_finds_421 ?_
  refine x_istore_n (lv' := [(3, .int (y0 ||| y1)), (0, .ref (ρ 13 0 0)), (1, .ref (σ 0 0)), (2, .int x2), (4, .int x4), (5, .int x5), (6, .int x6), (7, .int x7), (8, .ref (σ 5 q8))]) C dL_finds_422 rfl (by decide) rfl ?_
  refine x_iload C dL_finds_423 rfl ?_
  refine x_aload_n C dL_finds_425 rfl rfl ?_
  refine x_iload C dL_finds_426 rfl ?_
  obtain ⟨r71, hc72, hf⟩ := bs_bind hf
  obtain ⟨q0, he⟩ := xr_wor σ θ cA Z (F ++ [])
  refine x_callVi (y := yX11_why) (As := [.int x7]) (rest := [.int x4]) C (cX11_why_ok  hc72) ml_L_120 wyX11_why he rfl dpX11_why ⟨Nat.le_of_ble_eq_true rfl, Nat.le_of_ble_eq_true rfl⟩ ⟨by show (cl) + 0 ≤ 104; omega, by show (sl) + (0) ≤ 624; omega⟩ rfl (Nat.le_of_ble_eq_true rfl) dL_finds_428 (fun r' X' R' hp => ?_)
  obtain ⟨rfl, rfl, θ, rfl⟩ := hp
  refine x_widen (k := (cl)) (n := (sl)) (by show (cl) + 0 ≤ _; omega) (by show (sl) + (0) ≤ _; omega) ?_
  refine x_if_ne (tgt := 442) C dL_finds_431 (by decide) (fun h76 => ?_) (fun h76 => ?_)
  · replace hf := bs_neg h76 hf
    refine x_iconst (v := 0) C dL_finds_442 (by decide) ?_
    obtain ⟨hg74, hf⟩ := bs_if hf
    refine x_sub [1, 2, 3, 0, 5, 6, 7, 8] rfl ?_
    exact qL_finds_443 k16 C hst hk16 hn16 _ _ _ _ _ _ _ _ _ _ _  _ _ hg74 (by omega) (by omega) hf
  · replace hf := bs_pos h76 hf
    refine x_aload C dL_finds_434 rfl ?_
    obtain ⟨hg75, hf⟩ := bs_if hf
    refine xg_L_129 C hg75 dL_finds_436 ?_
    refine x_goto (tgt := 443) C dL_finds_439 (by decide) ?_
    refine x_sub [1, 2, 3, 0, 5, 6, 7, 8] rfl ?_
    exact qL_finds_443 k16 C hst hk16 hn16 _ _ _ _ _ _ _ _ _ _ _  _ _ hg75 (by omega) (by omega) hf
set_option maxHeartbeats 4000000 in
set_option maxRecDepth 100000 in
theorem qL_finds_420 {p : Program} {l : Launch} {e : Env} {s : State} {m : MethodId} {args : Array Value} {below : List Frame} {meth : Method} {c : Code} {ρ : bsR} {sc L : Nat} {xs : Nat → Int32} {cA : Nat → ClassId} {dC : Nat → ClassId} {dI : Nat → Nat → Nat} {A : Nat → Prop} {Ts : List Cond} {σ : xA2} {F : va_W} (k16 : Int32 → Int32 → Int32 → Int32 → Int32 → Int32 → bsX → pY → Option (Int32 × bsX × pY)) {z : (Int32 × bsX × pY)} (C : xCx p m c cL_finds 13 s args Ts RL ρ sc L xs cA dC dI A meth (some .boolean)) (hst : l.stackTraces = false) {NC16 NS16 : Nat} (hk16 : ∀ (x2 : Int32) (x3 : Int32) (x4 : Int32) (x5 : Int32) (x6 : Int32) (x7 : Int32) (X : bsX) (Z : pY) (θ : xA2) (cl sl : Nat), cl + NC16 ≤ 104 → sl + NS16 ≤ 624 → k16 x2 x3 x4 x5 x6 x7 X Z = some z → xV p l e rmL_finds s m args below meth c cl sl (MQ below (xQi ρ cA dC dI A (fun r X' R' => r = z.1 ∧ X' = z.2.1 ∧ ∃ θ' : xA2, R' = lwWs σ θ' cA z.2.2 ++ F)) args s rmL_finds.cells rmL_finds.slots A) ρ cA dC dI A (lwWs σ θ cA Z ++ (F ++ [])) 13 16 [(0, .ref (ρ 13 0 0)), (1, .ref (σ 0 0)), (2, .int x2), (3, .int x3), (4, .int x4), (5, .int x5), (6, .int x6), (7, .int x7)] [] X) (hn16 : 8 ≤ NC16 ∧ 48 ≤ NS16)  : ∀ (x2 : Int32) (x4 : Int32) (x5 : Int32) (x6 : Int32) (x7 : Int32) (q8 : Nat) (y0 : Int32) (X : bsX) (Z : pY) (θ : xA2) (cl sl : Nat), q8 < ln Z → cl + ((0 + NC16)) ≤ 104 → sl + ((0 + NS16)) ≤ 624 → hL_finds_420 k16 x2 x4 x5 x6 x7 q8 y0 X Z = some z → xV p l e rmL_finds s m args below meth c cl sl (MQ below (xQi ρ cA dC dI A (fun r X' R' => r = z.1 ∧ X' = z.2.1 ∧ ∃ θ' : xA2, R' = lwWs σ θ' cA z.2.2 ++ F)) args s rmL_finds.cells rmL_finds.slots A) ρ cA dC dI A (lwWs σ θ cA Z ++ (F ++ [])) 13 420 [(0, .ref (ρ 13 0 0)), (1, .ref (σ 0 0)), (2, .int x2), (4, .int x4), (5, .int x5), (6, .int x6), (7, .int x7), (8, .ref (σ 5 q8))] [.int y0] X := by
  intro x2 x4 x5 x6 x7 q8 y0 X Z θ cl sl hq8 hcl hsl hf
  rw [hL_finds_420] at hf
  refine x_iconst (v := 0) C dL_finds_420 (by decide) ?_
  refine x_sub [0, 1, 2, 3, 4, 5, 6, 7] rfl ?_
  exact qL_finds_421 k16 C hst hk16 hn16 _ _ _ _ _ _ _ _ _ _ _  _ _ hq8 (by omega) (by omega) hf
