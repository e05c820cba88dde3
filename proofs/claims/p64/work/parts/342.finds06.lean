set_option maxHeartbeats 4000000 in
set_option maxRecDepth 100000 in
theorem qL_finds_263 {p : Program} {l : Launch} {e : Env} {s : State} {m : MethodId} {args : Array Value} {below : List Frame} {meth : Method} {c : Code} {ρ : bsR} {sc L : Nat} {xs : Nat → Int32} {cA : Nat → ClassId} {dC : Nat → ClassId} {dI : Nat → Nat → Nat} {A : Nat → Prop} {Ts : List Cond} {σ : xA2} {F : va_W} (k16 : Int32 → Int32 → Int32 → Int32 → Int32 → Int32 → bsX → pY → Option (Int32 × bsX × pY)) {z : (Int32 × bsX × pY)} (C : xCx p m c cL_finds 13 s args Ts RL ρ sc L xs cA dC dI A meth (some .boolean)) (hst : l.stackTraces = false) {NC16 NS16 : Nat} (hk16 : ∀ (x2 : Int32) (x3 : Int32) (x4 : Int32) (x5 : Int32) (x6 : Int32) (x7 : Int32) (X : bsX) (Z : pY) (θ : xA2) (cl sl : Nat), cl + NC16 ≤ 104 → sl + NS16 ≤ 624 → k16 x2 x3 x4 x5 x6 x7 X Z = some z → xV p l e rmL_finds s m args below meth c cl sl (MQ below (xQi ρ cA dC dI A (fun r X' R' => r = z.1 ∧ X' = z.2.1 ∧ ∃ θ' : xA2, R' = lwWs σ θ' cA z.2.2 ++ F)) args s rmL_finds.cells rmL_finds.slots A) ρ cA dC dI A (lwWs σ θ cA Z ++ (F ++ [])) 13 16 [(0, .ref (ρ 13 0 0)), (1, .ref (σ 0 0)), (2, .int x2), (3, .int x3), (4, .int x4), (5, .int x5), (6, .int x6), (7, .int x7)] [] X) (hn16 : 8 ≤ NC16 ∧ 48 ≤ NS16)  : ∀ (x2 : Int32) (x3 : Int32) (x4 : Int32) (x5 : Int32) (x6 : Int32) (x7 : Int32) (q8 : Nat) (x9 : Int32) (x10 : Int32) (x11 : Int32) (y0 : Int32) (X : bsX) (Z : pY) (θ : xA2) (cl sl : Nat), q8 < ln Z → cl + ((12 + NC16)) ≤ 104 → sl + ((72 + NS16)) ≤ 624 → hL_finds_263 k16 x2 x3 x4 x5 x6 x7 q8 x9 x10 x11 y0 X Z = some z → xV p l e rmL_finds s m args below meth c cl sl (MQ below (xQi ρ cA dC dI A (fun r X' R' => r = z.1 ∧ X' = z.2.1 ∧ ∃ θ' : xA2, R' = lwWs σ θ' cA z.2.2 ++ F)) args s rmL_finds.cells rmL_finds.slots A) ρ cA dC dI A (lwWs σ θ cA Z ++ (F ++ [])) 13 263 [(0, .ref (ρ 13 0 0)), (1, .ref (σ 0 0)), (2, .int x2), (3, .int x3), (4, .int x4), (5, .int x5), (6, .int x6), (7, .int x7), (8, .ref (σ 5 q8)), (9, .int x9), (10, .int x10), (11, .int x11)] [.int y0] X := by
  intro x2 x3 x4 x5 x6 x7 q8 x9 x10 x11 y0 X Z θ cl sl hq8 hcl hsl hf
  rw [hL_finds_263] at hf
  refine x_istore (lv' := [(12, .int y0), (0, .ref (ρ 13 0 0)), (1, .ref (σ 0 0)), (2, .int x2), (3, .int x3), (4, .int x4), (5, .int x5), (6, .int x6), (7, .int x7), (8, .ref (σ 5 q8)), (9, .int x9), (10, .int x10), (11, .int x11)]) C dL_finds_263 (by decide) rfl ?_
  refine x_aload_n C dL_finds_265 rfl rfl ?_
  refine x_iload C dL_finds_266 rfl ?_
  obtain ⟨r1, hc2, hf⟩ := bs_bind hf
  obtain ⟨h03, hf⟩ := bs_if hf
  refine x_callT (y := yX8_whyNot) (As := [.int x7]) (rest := []) C (cX8_whyNot_ok hst hc2) h03 ml_L_223 wyX8_whyNot bsm_X8 bsc_X8 rfl dpX8_whyNot ⟨Nat.le_of_ble_eq_true rfl, Nat.le_of_ble_eq_true rfl⟩ ⟨by show (cl) + 2 ≤ 104; omega, by show (sl) + 12 ≤ 624; omega⟩ rfl (Nat.le_of_ble_eq_true rfl) dL_finds_268 ?_
  refine x_widen (k := (cl + 2)) (n := (sl + 12)) (by show (cl) + 2 ≤ _; omega) (by show (sl) + 12 ≤ _; omega) ?_
  refine x_aload_n C dL_finds_271 rfl rfl ?_
  refine x_iload C dL_finds_272 rfl ?_
  obtain ⟨r4, hc5, hf⟩ := bs_bind hf
  obtain ⟨q0, he⟩ := xr_wor σ θ cA Z (F ++ [])
  refine x_callVi (y := yX11_why) (As := [.int x7]) (rest := [.int r1.2.1]) C (cX11_why_ok  hc5) ml_L_120 wyX11_why he rfl dpX11_why ⟨Nat.le_of_ble_eq_true rfl, Nat.le_of_ble_eq_true rfl⟩ ⟨by show (cl + 2) + 0 ≤ 104; omega, by show (sl + 12) + (0) ≤ 624; omega⟩ rfl (Nat.le_of_ble_eq_true rfl) dL_finds_274 (fun r' X' R' hp => ?_)
  obtain ⟨rfl, rfl, θ, rfl⟩ := hp
  refine x_widen (k := (cl + 2)) (n := (sl + 12)) (by show (cl + 2) + 0 ≤ _; omega) (by show (sl + 12) + (0) ≤ _; omega) ?_
  refine x_icmp_ne (tgt := 352) C dL_finds_277 (by decide) (fun h16 => ?_) (fun h16 => ?_)
  · replace hf := bs_neg h16 hf
    refine x_iconst (v := 0) C dL_finds_352 (by decide) ?_
    obtain rfl := Option.some.inj hf
    refine xu_dropall ?_
    exact x_xret C (bsZ01 (by decide)).1 ⟨rfl, rfl, _, rfl⟩ (by show _ ≤ 104; omega) (by show _ ≤ 624; omega) dL_finds_353
  · replace hf := bs_pos h16 hf
    refine x_aload_n C dL_finds_280 rfl rfl ?_
    refine x_iload C dL_finds_281 rfl ?_
    obtain ⟨r7, hc8, hf⟩ := bs_bind hf
    obtain ⟨h09, hf⟩ := bs_if hf
    refine x_callT (y := yX8_place) (As := [.int x7]) (rest := []) C (cX8_place_ok hst hc8) h09 ml_L_226 wyX8_place bsm_X8 bsc_X8 rfl dpX8_place ⟨Nat.le_of_ble_eq_true rfl, Nat.le_of_ble_eq_true rfl⟩ ⟨by show (cl + 2) + 2 ≤ 104; omega, by show (sl + 12) + 12 ≤ 624; omega⟩ rfl (Nat.le_of_ble_eq_true rfl) dL_finds_283 ?_
    refine x_widen (k := (cl + 4)) (n := (sl + 24)) (by show (cl + 2) + 2 ≤ _; omega) (by show (sl + 12) + 12 ≤ _; omega) ?_
    refine x_aload_n C dL_finds_286 rfl rfl ?_
    refine x_iload C dL_finds_287 rfl ?_
    obtain ⟨r10, hc11, hf⟩ := bs_bind hf
    obtain ⟨q0, he⟩ := xr_wor σ θ cA r4.2.2 (F ++ [])
    refine x_callVi (y := yX11_why) (As := [.int x7]) (rest := [.int r7.2.1]) C (cX11_why_ok  hc11) ml_L_120 wyX11_why he rfl dpX11_why ⟨Nat.le_of_ble_eq_true rfl, Nat.le_of_ble_eq_true rfl⟩ ⟨by show (cl + 4) + 0 ≤ 104; omega, by show (sl + 24) + (0) ≤ 624; omega⟩ rfl (Nat.le_of_ble_eq_true rfl) dL_finds_289 (fun r' X' R' hp => ?_)
    obtain ⟨rfl, rfl, θ, rfl⟩ := hp
    refine x_widen (k := (cl + 4)) (n := (sl + 24)) (by show (cl + 4) + 0 ≤ _; omega) (by show (sl + 24) + (0) ≤ _; omega) ?_
    refine x_if_ne (tgt := 300) C dL_finds_292 (by decide) (fun h15 => ?_) (fun h15 => ?_)
    · replace hf := bs_neg h15 hf
      refine x_iconst (v := -1) C dL_finds_300 (by decide) ?_
      obtain ⟨hg13, hf⟩ := bs_if hf
      refine x_sub [1, 2, 3, 4, 5, 6, 7, 8, 9, 11, 12, 0] rfl ?_
      exact qL_finds_301 k16 C hst hk16 hn16 _ _ _ _ _ _ _ _ _ _ _ _ _ _ _  _ _ hg13 (by omega) (by omega) hf
    · replace hf := bs_pos h15 hf
      refine x_iload C dL_finds_295 rfl ?_
      refine x_goto (tgt := 301) C dL_finds_297 (by decide) ?_
      obtain ⟨hg14, hf⟩ := bs_if hf
      refine x_sub [1, 2, 3, 4, 5, 6, 7, 8, 9, 11, 12, 0] rfl ?_
      exact qL_finds_301 k16 C hst hk16 hn16 _ _ _ _ _ _ _ _ _ _ _ _ _ _ _  _ _ hg14 (by omega) (by omega) hf
set_option maxHeartbeats 4000000 in
set_option maxRecDepth 100000 in
theorem qL_finds_258 {p : Program} {l : Launch} {e : Env} {s : State} {m : MethodId} {args : Array Value} {below : List Frame} {meth : Method} {c : Code} {ρ : bsR} {sc L : Nat} {xs : Nat → Int32} {cA : Nat → ClassId} {dC : Nat → ClassId} {dI : Nat → Nat → Nat} {A : Nat → Prop} {Ts : List Cond} {σ : xA2} {F : va_W} (k16 : Int32 → Int32 → Int32 → Int32 → Int32 → Int32 → bsX → pY → Option (Int32 × bsX × pY)) {z : (Int32 × bsX × pY)} (C : xCx p m c cL_finds 13 s args Ts RL ρ sc L xs cA dC dI A meth (some .boolean)) (hst : l.stackTraces = false) {NC16 NS16 : Nat} (hk16 : ∀ (x2 : Int32) (x3 : Int32) (x4 : Int32) (x5 : Int32) (x6 : Int32) (x7 : Int32) (X : bsX) (Z : pY) (θ : xA2) (cl sl : Nat), cl + NC16 ≤ 104 → sl + NS16 ≤ 624 → k16 x2 x3 x4 x5 x6 x7 X Z = some z → xV p l e rmL_finds s m args below meth c cl sl (MQ below (xQi ρ cA dC dI A (fun r X' R' => r = z.1 ∧ X' = z.2.1 ∧ ∃ θ' : xA2, R' = lwWs σ θ' cA z.2.2 ++ F)) args s rmL_finds.cells rmL_finds.slots A) ρ cA dC dI A (lwWs σ θ cA Z ++ (F ++ [])) 13 16 [(0, .ref (ρ 13 0 0)), (1, .ref (σ 0 0)), (2, .int x2), (3, .int x3), (4, .int x4), (5, .int x5), (6, .int x6), (7, .int x7)] [] X) (hn16 : 8 ≤ NC16 ∧ 48 ≤ NS16)  : ∀ (x2 : Int32) (x3 : Int32) (x4 : Int32) (x5 : Int32) (x6 : Int32) (x7 : Int32) (q8 : Nat) (x9 : Int32) (x10 : Int32) (x11 : Int32) (X : bsX) (Z : pY) (θ : xA2) (cl sl : Nat), q8 < ln Z → cl + ((12 + NC16)) ≤ 104 → sl + ((72 + NS16)) ≤ 624 → hL_finds_258 k16 x2 x3 x4 x5 x6 x7 q8 x9 x10 x11 X Z = some z → xV p l e rmL_finds s m args below meth c cl sl (MQ below (xQi ρ cA dC dI A (fun r X' R' => r = z.1 ∧ X' = z.2.1 ∧ ∃ θ' : xA2, R' = lwWs σ θ' cA z.2.2 ++ F)) args s rmL_finds.cells rmL_finds.slots A) ρ cA dC dI A (lwWs σ θ cA Z ++ (F ++ [])) 13 258 [(0, .ref (ρ 13 0 0)), (1, .ref (σ 0 0)), (2, .int x2), (3, .int x3), (4, .int x4), (5, .int x5), (6, .int x6), (7, .int x7), (8, .ref (σ 5 q8)), (9, .int x9), (10, .int x10), (11, .int x11)] [] X := by
  intro x2 x3 x4 x5 x6 x7 q8 x9 x10 x11 X Z θ cl sl hq8 hcl hsl hf
  rw [hL_finds_258] at hf
  refine x_iconst (v := 1) C dL_finds_258 (by decide) ?_
  refine x_goto (tgt := 263) C dL_finds_259 (by decide) ?_
  refine x_sub [0, 1, 2, 3, 4, 5, 6, 7, 8, 9, 10, 11] rfl ?_
  exact qL_finds_263 k16 C hst hk16 hn16 _ _ _ _ _ _ _ _ _ _ _ _ _ _  _ _ hq8 (by omega) (by omega) hf
set_option maxHeartbeats 4000000 in
set_option maxRecDepth 100000 in
theorem qL_finds_262 {p : Program} {l : Launch} {e : Env} {s : State} {m : MethodId} {args : Array Value} {below : List Frame} {meth : Method} {c : Code} {ρ : bsR} {sc L : Nat} {xs : Nat → Int32} {cA : Nat → ClassId} {dC : Nat → ClassId} {dI : Nat → Nat → Nat} {A : Nat → Prop} {Ts : List Cond} {σ : xA2} {F : va_W} (k16 : Int32 → Int32 → Int32 → Int32 → Int32 → Int32 → bsX → pY → Option (Int32 × bsX × pY)) {z : (Int32 × bsX × pY)} (C : xCx p m c cL_finds 13 s args Ts RL ρ sc L xs cA dC dI A meth (some .boolean)) (hst : l.stackTraces = false) {NC16 NS16 : Nat} (hk16 : ∀ (x2 : Int32) (x3 : Int32) (x4 : Int32) (x5 : Int32) (x6 : Int32) (x7 : Int32) (X : bsX) (Z : pY) (θ : xA2) (cl sl : Nat), cl + NC16 ≤ 104 → sl + NS16 ≤ 624 → k16 x2 x3 x4 x5 x6 x7 X Z = some z → xV p l e rmL_finds s m args below meth c cl sl (MQ below (xQi ρ cA dC dI A (fun r X' R' => r = z.1 ∧ X' = z.2.1 ∧ ∃ θ' : xA2, R' = lwWs σ θ' cA z.2.2 ++ F)) args s rmL_finds.cells rmL_finds.slots A) ρ cA dC dI A (lwWs σ θ cA Z ++ (F ++ [])) 13 16 [(0, .ref (ρ 13 0 0)), (1, .ref (σ 0 0)), (2, .int x2), (3, .int x3), (4, .int x4), (5, .int x5), (6, .int x6), (7, .int x7)] [] X) (hn16 : 8 ≤ NC16 ∧ 48 ≤ NS16)  : ∀ (x2 : Int32) (x3 : Int32) (x4 : Int32) (x5 : Int32) (x6 : Int32) (x7 : Int32) (q8 : Nat) (x9 : Int32) (x10 : Int32) (x11 : Int32) (X : bsX) (Z : pY) (θ : xA2) (cl sl : Nat), q8 < ln Z → cl + ((12 + NC16)) ≤ 104 → sl + ((72 + NS16)) ≤ 624 → hL_finds_262 k16 x2 x3 x4 x5 x6 x7 q8 x9 x10 x11 X Z = some z → xV p l e rmL_finds s m args below meth c cl sl (MQ below (xQi ρ cA dC dI A (fun r X' R' => r = z.1 ∧ X' = z.2.1 ∧ ∃ θ' : xA2, R' = lwWs σ θ' cA z.2.2 ++ F)) args s rmL_finds.cells rmL_finds.slots A) ρ cA dC dI A (lwWs σ θ cA Z ++ (F ++ [])) 13 262 [(0, .ref (ρ 13 0 0)), (1, .ref (σ 0 0)), (2, .int x2), (3, .int x3), (4, .int x4), (5, .int x5), (6, .int x6), (7, .int x7), (8, .ref (σ 5 q8)), (9, .int x9), (10, .int x10), (11, .int x11)] [] X := by
  intro x2 x3 x4 x5 x6 x7 q8 x9 x10 x11 X Z θ cl sl hq8 hcl hsl hf
  rw [hL_finds_262] at hf
  refine x_iconst (v := 0) C dL_finds_262 (by decide) ?_
  refine x_sub [0, 1, 2, 3, 4, 5, 6, 7, 8, 9, 10, 11] rfl ?_
  exact qL_finds_263 k16 C hst hk16 hn16 _ _ _ _ _ _ _ _ _ _ _ _ _ _  _ _ hq8 (by omega) (by omega) hf
