set_option maxHeartbeats 4000000 in
set_option maxRecDepth 100000 in
theorem qL_isLike_321 {p : Program} {l : Launch} {e : Env} {s : State} {m : MethodId} {args : Array Value} {below : List Frame} {meth : Method} {c : Code} {ρ : bsR} {sc L : Nat} {xs : Nat → Int32} {cA : Nat → ClassId} {dC : Nat → ClassId} {dI : Nat → Nat → Nat} {A : Nat → Prop} {Ts : List Cond} {σ : xA2} {F : va_W} (k130 : Int32 → bsX → pY → Option (Int32 × bsX × pY)) (k288 : Int32 → Nat → Int32 → bsX → pY → Option (Int32 × bsX × pY)) {z : (Int32 × bsX × pY)} (C : xCx p m c cL_isLike 7 s args Ts RL ρ sc L xs cA dC dI A meth (some .boolean)) (hst : l.stackTraces = false) {NC130 NS130 : Nat} (hk130 : ∀ (x3 : Int32) (X : bsX) (Z : pY) (θ : xA2) (cl sl : Nat), cl + NC130 ≤ 610 → sl + NS130 ≤ 3677 → k130 x3 X Z = some z → xV p l e rmL_isLike s m args below meth c cl sl (MQ below (xQi ρ cA dC dI A (fun r X' R' => r = z.1 ∧ X' = z.2.1 ∧ ∃ θ' : xA2, R' = lwWs σ θ' cA z.2.2 ++ F)) args s rmL_isLike.cells rmL_isLike.slots A) ρ cA dC dI A (lwWs σ θ cA Z ++ (F ++ [])) 7 130 [(0, .ref (ρ 13 0 0)), (1, .ref (σ 0 0)), (3, .int x3)] [] X) (hn130 : 175 ≤ NC130 ∧ 1040 ≤ NS130) {NC288 NS288 : Nat} (hk288 : ∀ (x3 : Int32) (q4 : Nat) (x6 : Int32) (X : bsX) (Z : pY) (θ : xA2) (cl sl : Nat), q4 < ln Z → cl + NC288 ≤ 610 → sl + NS288 ≤ 3677 → k288 x3 q4 x6 X Z = some z → xV p l e rmL_isLike s m args below meth c cl sl (MQ below (xQi ρ cA dC dI A (fun r X' R' => r = z.1 ∧ X' = z.2.1 ∧ ∃ θ' : xA2, R' = lwWs σ θ' cA z.2.2 ++ F)) args s rmL_isLike.cells rmL_isLike.slots A) ρ cA dC dI A (lwWs σ θ cA Z ++ (F ++ [])) 7 288 [(0, .ref (ρ 13 0 0)), (1, .ref (σ 0 0)), (3, .int x3), (4, .ref (σ 5 q4)), (6, .int x6)] [] X) (hn288 : 0 + NC130 ≤ NC288 ∧ 0 + NS130 ≤ NS288)  : ∀ (x3 : Int32) (q4 : Nat) (x6 : Int32) (y0 : Int32) (y1 : Int32) (X : bsX) (Z : pY) (θ : xA2) (cl sl : Nat), q4 < ln Z → cl + ((0 + NC288)) ≤ 610 → sl + ((0 + NS288)) ≤ 3677 → hL_isLike_321 k130 k288 x3 q4 x6 y0 y1 X Z = some z → xV p l e rmL_isLike s m args below meth c cl sl (MQ below (xQi ρ cA dC dI A (fun r X' R' => r = z.1 ∧ X' = z.2.1 ∧ ∃ θ' : xA2, R' = lwWs σ θ' cA z.2.2 ++ F)) args s rmL_isLike.cells rmL_isLike.slots A) ρ cA dC dI A (lwWs σ θ cA Z ++ (F ++ [])) 7 321 [(0, .ref (ρ 13 0 0)), (1, .ref (σ 0 0)), (3, .int x3), (4, .ref (σ 5 q4)), (6, .int x6)] [.int y1, .int y0] X := by
  intro x3 q4 x6 y0 y1 X Z θ cl sl hq4 hcl hsl hf
  rw [hL_isLike_321] at hf
  refine x_icmp_eq (tgt := 326) C dL_isLike_321 (by decide) (fun h1 => ?_) (fun h1 => ?_)
  · replace hf := bs_pos h1 hf
    refine x_iinc (k0 := 4) (v := (x6 + (1 : Int32))) (lv' := [(6, .int (x6 + (1 : Int32))), (0, .ref (ρ 13 0 0)), (1, .ref (σ 0 0)), (3, .int x3), (4, .ref (σ 5 q4))]) C dL_isLike_326 rfl rfl (by decide) rfl ?_
    refine x_goto (tgt := 288) C dL_isLike_329 (by decide) ?_
    refine x_sub [1, 2, 3, 4, 0] rfl ?_
    exact hk288 _ _ _ _ _ _  _ _ hq4 (by omega) (by omega) hf
  · replace hf := bs_neg h1 hf
    refine x_iconst (v := 0) C dL_isLike_324 (by decide) ?_
    obtain rfl := Option.some.inj hf
    refine xu_dropall ?_
    exact x_xret C (bsZ01 (by decide)).1 ⟨rfl, rfl, _, rfl⟩ (by show _ ≤ 610; omega) (by show _ ≤ 3677; omega) dL_isLike_325
