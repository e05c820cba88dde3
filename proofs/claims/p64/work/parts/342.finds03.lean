set_option maxHeartbeats 4000000 in
set_option maxRecDepth 100000 in
theorem qL_finds_532 {p : Program} {l : Launch} {e : Env} {s : State} {m : MethodId} {args : Array Value} {below : List Frame} {meth : Method} {c : Code} {ρ : bsR} {sc L : Nat} {xs : Nat → Int32} {cA : Nat → ClassId} {dC : Nat → ClassId} {dI : Nat → Nat → Nat} {A : Nat → Prop} {Ts : List Cond} {σ : xA2} {F : va_W} (k16 : Int32 → Int32 → Int32 → Int32 → Int32 → Int32 → bsX → pY → Option (Int32 × bsX × pY)) {z : (Int32 × bsX × pY)} (C : xCx p m c cL_finds 13 s args Ts RL ρ sc L xs cA dC dI A meth (some .boolean)) (hst : l.stackTraces = false) {NC16 NS16 : Nat} (hk16 : ∀ (x2 : Int32) (x3 : Int32) (x4 : Int32) (x5 : Int32) (x6 : Int32) (x7 : Int32) (X : bsX) (Z : pY) (θ : xA2) (cl sl : Nat), cl + NC16 ≤ 104 → sl + NS16 ≤ 624 → k16 x2 x3 x4 x5 x6 x7 X Z = some z → xV p l e rmL_finds s m args below meth c cl sl (MQ below (xQi ρ cA dC dI A (fun r X' R' => r = z.1 ∧ X' = z.2.1 ∧ ∃ θ' : xA2, R' = lwWs σ θ' cA z.2.2 ++ F)) args s rmL_finds.cells rmL_finds.slots A) ρ cA dC dI A (lwWs σ θ cA Z ++ (F ++ [])) 13 16 [(0, .ref (ρ 13 0 0)), (1, .ref (σ 0 0)), (2, .int x2), (3, .int x3), (4, .int x4), (5, .int x5), (6, .int x6), (7, .int x7)] [] X) (hn16 : 8 ≤ NC16 ∧ 48 ≤ NS16)  : ∀ (x2 : Int32) (x3 : Int32) (x4 : Int32) (x5 : Int32) (x6 : Int32) (x7 : Int32) (q8 : Nat) (X : bsX) (Z : pY) (θ : xA2) (cl sl : Nat), q8 < ln Z → cl + ((0 + NC16)) ≤ 104 → sl + ((0 + NS16)) ≤ 624 → hL_finds_532 k16 x2 x3 x4 x5 x6 x7 q8 X Z = some z → xV p l e rmL_finds s m args below meth c cl sl (MQ below (xQi ρ cA dC dI A (fun r X' R' => r = z.1 ∧ X' = z.2.1 ∧ ∃ θ' : xA2, R' = lwWs σ θ' cA z.2.2 ++ F)) args s rmL_finds.cells rmL_finds.slots A) ρ cA dC dI A (lwWs σ θ cA Z ++ (F ++ [])) 13 532 [(0, .ref (ρ 13 0 0)), (1, .ref (σ 0 0)), (2, .int x2), (3, .int x3), (4, .int x4), (5, .int x5), (6, .int x6), (7, .int x7), (8, .ref (σ 5 q8))] [] X := by
  intro x2 x3 x4 x5 x6 x7 q8 X Z θ cl sl hq8 hcl hsl hf
  rw [hL_finds_532] at hf
  refine x_iload C dL_finds_532 rfl ?_
  refine x_aload C dL_finds_534 rfl ?_
  refine xg_L_183 C hq8 dL_finds_536 ?_
  refine x_iconst (v := 0) C dL_finds_539 (by decide) ?_
  refine xl_img C hq8 (by decide) dL_finds_540 ?_
  refine x_mmax C (Nat.le_of_ble_eq_true rfl) (Nat.le_of_ble_eq_true rfl) (by show _ ≤ 104; omega) (by show _ ≤ 624; omega) (mm_L_220) dL_finds_541 ?_
  refine x_istore (lv' := [(6, .int (bsMax x6 (Z 6 q8 1))), (0, .ref (ρ 13 0 0)), (1, .ref (σ 0 0)), (2, .int x2), (3, .int x3), (4, .int x4), (5, .int x5), (7, .int x7), (8, .ref (σ 5 q8))]) C dL_finds_544 (by decide) rfl ?_
  refine x_sub [1, 2, 3, 4, 5, 6, 0, 7] rfl ?_
  exact qL_finds_546 k16 C hst hk16 hn16 _ _ _ _ _ _ _ _ _  _ _  (by omega) (by omega) hf
set_option maxHeartbeats 4000000 in
set_option maxRecDepth 100000 in
theorem qL_finds_490 {p : Program} {l : Launch} {e : Env} {s : State} {m : MethodId} {args : Array Value} {below : List Frame} {meth : Method} {c : Code} {ρ : bsR} {sc L : Nat} {xs : Nat → Int32} {cA : Nat → ClassId} {dC : Nat → ClassId} {dI : Nat → Nat → Nat} {A : Nat → Prop} {Ts : List Cond} {σ : xA2} {F : va_W} (k16 : Int32 → Int32 → Int32 → Int32 → Int32 → Int32 → bsX → pY → Option (Int32 × bsX × pY)) {z : (Int32 × bsX × pY)} (C : xCx p m c cL_finds 13 s args Ts RL ρ sc L xs cA dC dI A meth (some .boolean)) (hst : l.stackTraces = false) {NC16 NS16 : Nat} (hk16 : ∀ (x2 : Int32) (x3 : Int32) (x4 : Int32) (x5 : Int32) (x6 : Int32) (x7 : Int32) (X : bsX) (Z : pY) (θ : xA2) (cl sl : Nat), cl + NC16 ≤ 104 → sl + NS16 ≤ 624 → k16 x2 x3 x4 x5 x6 x7 X Z = some z → xV p l e rmL_finds s m args below meth c cl sl (MQ below (xQi ρ cA dC dI A (fun r X' R' => r = z.1 ∧ X' = z.2.1 ∧ ∃ θ' : xA2, R' = lwWs σ θ' cA z.2.2 ++ F)) args s rmL_finds.cells rmL_finds.slots A) ρ cA dC dI A (lwWs σ θ cA Z ++ (F ++ [])) 13 16 [(0, .ref (ρ 13 0 0)), (1, .ref (σ 0 0)), (2, .int x2), (3, .int x3), (4, .int x4), (5, .int x5), (6, .int x6), (7, .int x7)] [] X) (hn16 : 8 ≤ NC16 ∧ 48 ≤ NS16)  : ∀ (x2 : Int32) (x3 : Int32) (x4 : Int32) (x5 : Int32) (x6 : Int32) (x7 : Int32) (q8 : Nat) (X : bsX) (Z : pY) (θ : xA2) (cl sl : Nat), q8 < ln Z → cl + ((0 + NC16)) ≤ 104 → sl + ((0 + NS16)) ≤ 624 → hL_finds_490 k16 x2 x3 x4 x5 x6 x7 q8 X Z = some z → xV p l e rmL_finds s m args below meth c cl sl (MQ below (xQi ρ cA dC dI A (fun r X' R' => r = z.1 ∧ X' = z.2.1 ∧ ∃ θ' : xA2, R' = lwWs σ θ' cA z.2.2 ++ F)) args s rmL_finds.cells rmL_finds.slots A) ρ cA dC dI A (lwWs σ θ cA Z ++ (F ++ [])) 13 490 [(0, .ref (ρ 13 0 0)), (1, .ref (σ 0 0)), (2, .int x2), (3, .int x3), (4, .int x4), (5, .int x5), (6, .int x6), (7, .int x7), (8, .ref (σ 5 q8))] [] X := by
  intro x2 x3 x4 x5 x6 x7 q8 X Z θ cl sl hq8 hcl hsl hf
  rw [hL_finds_490] at hf
  refine x_aload C dL_finds_490 rfl ?_
  obtain ⟨r142, hc143, hf⟩ := bs_bind hf
  obtain ⟨q0, he⟩ := xr_plc (Z := Z) σ θ cA (F ++ []) hq8
  refine x_callVi (y := yX10_isEmpty) (As := []) (rest := []) C (cX10_isEmpty_ok hq8 hc143) ml_L_164 wyX10_isEmpty he rfl dpX10_isEmpty ⟨Nat.le_of_ble_eq_true rfl, Nat.le_of_ble_eq_true rfl⟩ ⟨by show (cl) + 0 ≤ 104; omega, by show (sl) + (0) ≤ 624; omega⟩ rfl (Nat.le_of_ble_eq_true rfl) dL_finds_492 (fun r' X' R' hp => ?_)
  obtain ⟨rfl, rfl, θ, rfl⟩ := hp
  refine x_widen (k := (cl)) (n := (sl)) (by show (cl) + 0 ≤ _; omega) (by show (sl) + (0) ≤ _; omega) ?_
  refine x_if_ne (tgt := 546) C dL_finds_495 (by decide) (fun h150 => ?_) (fun h150 => ?_)
  · replace hf := bs_neg h150 hf
    refine x_sub [0, 1, 2, 3, 4, 5, 6, 7] rfl ?_
    exact qL_finds_546 k16 C hst hk16 hn16 _ _ _ _ _ _ _ _ _  _ _  (by omega) (by omega) hf
  · replace hf := bs_pos h150 hf
    refine x_aload C dL_finds_498 rfl ?_
    obtain ⟨hg145, hf⟩ := bs_if hf
    refine xg_L_183 C hg145 dL_finds_500 ?_
    refine x_iconst (v := 3) C dL_finds_503 (by decide) ?_
    refine xl_img C hg145 (by decide) dL_finds_504 ?_
    refine x_if_ne (tgt := 546) C dL_finds_505 (by decide) (fun h149 => ?_) (fun h149 => ?_)
    · replace hf := bs_neg h149 hf
      refine x_sub [0, 1, 2, 3, 4, 5, 6, 7] rfl ?_
      exact qL_finds_546 k16 C hst hk16 hn16 _ _ _ _ _ _ _ _ _  _ _  (by omega) (by omega) hf
    · replace hf := bs_pos h149 hf
      refine x_aload C dL_finds_508 rfl ?_
      refine xg_L_168 C hg145 dL_finds_510 ?_
      refine x_if_le (tgt := 546) C dL_finds_513 (by decide) (fun h148 => ?_) (fun h148 => ?_)
      · replace hf := bs_pos h148 hf
        refine x_sub [0, 1, 2, 3, 4, 5, 6, 7] rfl ?_
        exact qL_finds_546 k16 C hst hk16 hn16 _ _ _ _ _ _ _ _ _  _ _  (by omega) (by omega) hf
      · replace hf := bs_neg h148 hf
        refine x_aload C dL_finds_516 rfl ?_
        refine xg_L_123 C hg145 dL_finds_518 ?_
        refine x_if_ne (tgt := 532) C dL_finds_521 (by decide) (fun h147 => ?_) (fun h147 => ?_)
        · replace hf := bs_neg h147 hf
          refine x_sub [0, 1, 2, 3, 4, 5, 6, 7, 8] rfl ?_
          exact qL_finds_532 k16 C hst hk16 hn16 _ _ _ _ _ _ _ _ _ _  _ _ hg145 (by omega) (by omega) hf
        · replace hf := bs_pos h147 hf
          refine x_aload C dL_finds_524 rfl ?_
          refine xg_L_129 C hg145 dL_finds_526 ?_
          refine x_if_le (tgt := 546) C dL_finds_529 (by decide) (fun h146 => ?_) (fun h146 => ?_)
          · replace hf := bs_pos h146 hf
            refine x_sub [0, 1, 2, 3, 4, 5, 6, 7] rfl ?_
            exact qL_finds_546 k16 C hst hk16 hn16 _ _ _ _ _ _ _ _ _  _ _  (by omega) (by omega) hf
          · replace hf := bs_neg h146 hf
            refine x_sub [0, 1, 2, 3, 4, 5, 6, 7, 8] rfl ?_
            exact qL_finds_532 k16 C hst hk16 hn16 _ _ _ _ _ _ _ _ _ _  _ _ hg145 (by omega) (by omega) hf
set_option maxHeartbeats 4000000 in
set_option maxRecDepth 100000 in
theorem qL_finds_486 {p : Program} {l : Launch} {e : Env} {s : State} {m : MethodId} {args : Array Value} {below : List Frame} {meth : Method} {c : Code} {ρ : bsR} {sc L : Nat} {xs : Nat → Int32} {cA : Nat → ClassId} {dC : Nat → ClassId} {dI : Nat → Nat → Nat} {A : Nat → Prop} {Ts : List Cond} {σ : xA2} {F : va_W} (k16 : Int32 → Int32 → Int32 → Int32 → Int32 → Int32 → bsX → pY → Option (Int32 × bsX × pY)) {z : (Int32 × bsX × pY)} (C : xCx p m c cL_finds 13 s args Ts RL ρ sc L xs cA dC dI A meth (some .boolean)) (hst : l.stackTraces = false) {NC16 NS16 : Nat} (hk16 : ∀ (x2 : Int32) (x3 : Int32) (x4 : Int32) (x5 : Int32) (x6 : Int32) (x7 : Int32) (X : bsX) (Z : pY) (θ : xA2) (cl sl : Nat), cl + NC16 ≤ 104 → sl + NS16 ≤ 624 → k16 x2 x3 x4 x5 x6 x7 X Z = some z → xV p l e rmL_finds s m args below meth c cl sl (MQ below (xQi ρ cA dC dI A (fun r X' R' => r = z.1 ∧ X' = z.2.1 ∧ ∃ θ' : xA2, R' = lwWs σ θ' cA z.2.2 ++ F)) args s rmL_finds.cells rmL_finds.slots A) ρ cA dC dI A (lwWs σ θ cA Z ++ (F ++ [])) 13 16 [(0, .ref (ρ 13 0 0)), (1, .ref (σ 0 0)), (2, .int x2), (3, .int x3), (4, .int x4), (5, .int x5), (6, .int x6), (7, .int x7)] [] X) (hn16 : 8 ≤ NC16 ∧ 48 ≤ NS16)  : ∀ (x2 : Int32) (x3 : Int32) (x4 : Int32) (x6 : Int32) (x7 : Int32) (q8 : Nat) (X : bsX) (Z : pY) (θ : xA2) (cl sl : Nat), q8 < ln Z → cl + ((0 + NC16)) ≤ 104 → sl + ((0 + NS16)) ≤ 624 → hL_finds_486 k16 x2 x3 x4 x6 x7 q8 X Z = some z → xV p l e rmL_finds s m args below meth c cl sl (MQ below (xQi ρ cA dC dI A (fun r X' R' => r = z.1 ∧ X' = z.2.1 ∧ ∃ θ' : xA2, R' = lwWs σ θ' cA z.2.2 ++ F)) args s rmL_finds.cells rmL_finds.slots A) ρ cA dC dI A (lwWs σ θ cA Z ++ (F ++ [])) 13 486 [(0, .ref (ρ 13 0 0)), (1, .ref (σ 0 0)), (2, .int x2), (3, .int x3), (4, .int x4), (6, .int x6), (7, .int x7), (8, .ref (σ 5 q8))] [] X := by
  intro x2 x3 x4 x6 x7 q8 X Z θ cl sl hq8 hcl hsl hf
  rw [hL_finds_486] at hf
  refine x_iload C dL_finds_486 rfl ?_
  refine x_istore (lv' := [(5, .int x7), (0, .ref (ρ 13 0 0)), (1, .ref (σ 0 0)), (2, .int x2), (3, .int x3), (4, .int x4), (6, .int x6), (7, .int x7), (8, .ref (σ 5 q8))]) C dL_finds_488 (by decide) rfl ?_
  refine x_sub [1, 2, 3, 4, 5, 0, 6, 7, 8] rfl ?_
  exact qL_finds_490 k16 C hst hk16 hn16 _ _ _ _ _ _ _ _ _ _  _ _ hq8 (by omega) (by omega) hf
