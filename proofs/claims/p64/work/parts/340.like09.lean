set_option maxHeartbeats 4000000 in
set_option maxRecDepth 100000 in
theorem qL_isLike_477 {p : Program} {l : Launch} {e : Env} {s : State} {m : MethodId} {args : Array Value} {below : List Frame} {meth : Method} {c : Code} {ρ : bsR} {sc L : Nat} {xs : Nat → Int32} {cA : Nat → ClassId} {dC : Nat → ClassId} {dI : Nat → Nat → Nat} {A : Nat → Prop} {Ts : List Cond} {σ : xA2} {F : va_W} (k413 : Int32 → bsX → pY → Option (Int32 × bsX × pY)) (k423 : Int32 → Int32 → bsX → pY → Option (Int32 × bsX × pY)) {z : (Int32 × bsX × pY)} (C : xCx p m c cL_isLike 7 s args Ts RL ρ sc L xs cA dC dI A meth (some .boolean)) (hst : l.stackTraces = false) {NC413 NS413 : Nat} (hk413 : ∀ (x4 : Int32) (X : bsX) (Z : pY) (θ : xA2) (cl sl : Nat), cl + NC413 ≤ 610 → sl + NS413 ≤ 3677 → k413 x4 X Z = some z → xV p l e rmL_isLike s m args below meth c cl sl (MQ below (xQi ρ cA dC dI A (fun r X' R' => r = z.1 ∧ X' = z.2.1 ∧ ∃ θ' : xA2, R' = lwWs σ θ' cA z.2.2 ++ F)) args s rmL_isLike.cells rmL_isLike.slots A) ρ cA dC dI A (lwWs σ θ cA Z ++ (F ++ [])) 7 413 [(0, .ref (ρ 13 0 0)), (1, .ref (σ 0 0)), (4, .int x4)] [] X) (hn413 : 24 ≤ NC413 ∧ 136 ≤ NS413) {NC423 NS423 : Nat} (hk423 : ∀ (x4 : Int32) (x5 : Int32) (X : bsX) (Z : pY) (θ : xA2) (cl sl : Nat), cl + NC423 ≤ 610 → sl + NS423 ≤ 3677 → k423 x4 x5 X Z = some z → xV p l e rmL_isLike s m args below meth c cl sl (MQ below (xQi ρ cA dC dI A (fun r X' R' => r = z.1 ∧ X' = z.2.1 ∧ ∃ θ' : xA2, R' = lwWs σ θ' cA z.2.2 ++ F)) args s rmL_isLike.cells rmL_isLike.slots A) ρ cA dC dI A (lwWs σ θ cA Z ++ (F ++ [])) 7 423 [(0, .ref (ρ 13 0 0)), (1, .ref (σ 0 0)), (4, .int x4), (5, .int x5)] [] X) (hn423 : 0 + NC413 ≤ NC423 ∧ 0 + NS413 ≤ NS423)  : ∀ (x4 : Int32) (x5 : Int32) (y0 : Int32) (y1 : Int32) (X : bsX) (Z : pY) (θ : xA2) (cl sl : Nat), cl + ((0 + NC423)) ≤ 610 → sl + ((0 + NS423)) ≤ 3677 → hL_isLike_477 k413 k423 x4 x5 y0 y1 X Z = some z → xV p l e rmL_isLike s m args below meth c cl sl (MQ below (xQi ρ cA dC dI A (fun r X' R' => r = z.1 ∧ X' = z.2.1 ∧ ∃ θ' : xA2, R' = lwWs σ θ' cA z.2.2 ++ F)) args s rmL_isLike.cells rmL_isLike.slots A) ρ cA dC dI A (lwWs σ θ cA Z ++ (F ++ [])) 7 477 [(0, .ref (ρ 13 0 0)), (1, .ref (σ 0 0)), (4, .int x4), (5, .int x5)] [.int y1, .int y0] X := by
  intro x4 x5 y0 y1 X Z θ cl sl hcl hsl hf
  rw [hL_isLike_477] at hf
  refine x_icmp_eq (tgt := 482) C dL_isLike_477 (by decide) (fun h47 => ?_) (fun h47 => ?_)
  · replace hf := bs_pos h47 hf
    refine x_iinc (k0 := 3) (v := (x5 + (1 : Int32))) (lv' := [(5, .int (x5 + (1 : Int32))), (0, .ref (ρ 13 0 0)), (1, .ref (σ 0 0)), (4, .int x4)]) C dL_isLike_482 rfl rfl (by decide) rfl ?_
    refine x_goto (tgt := 423) C dL_isLike_485 (by decide) ?_
    refine x_sub [1, 2, 3, 0] rfl ?_
    exact hk423 _ _ _ _ _  _ _  (by omega) (by omega) hf
  · replace hf := bs_neg h47 hf
    refine x_iconst (v := 0) C dL_isLike_480 (by decide) ?_
    obtain rfl := Option.some.inj hf
    refine xu_dropall ?_
    exact x_xret C (bsZ01 (by decide)).1 ⟨rfl, rfl, _, rfl⟩ (by show _ ≤ 610; omega) (by show _ ≤ 3677; omega) dL_isLike_481
