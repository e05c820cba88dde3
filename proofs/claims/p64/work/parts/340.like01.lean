set_option maxHeartbeats 4000000 in
set_option maxRecDepth 100000 in
theorem qL_isLike_117 {p : Program} {l : Launch} {e : Env} {s : State} {m : MethodId} {args : Array Value} {below : List Frame} {meth : Method} {c : Code} {ρ : bsR} {sc L : Nat} {xs : Nat → Int32} {cA : Nat → ClassId} {dC : Nat → ClassId} {dI : Nat → Nat → Nat} {A : Nat → Prop} {Ts : List Cond} {σ : xA2} {F : va_W} (k74 : (Nat → Int32) → Int32 → bsX → pY → Option (Int32 × bsX × pY)) {z : (Int32 × bsX × pY)} (C : xCx p m c cL_isLike 7 s args Ts RL ρ sc L xs cA dC dI A meth (some .boolean)) (hst : l.stackTraces = false) {NC74 NS74 : Nat} (hk74 : ∀ (f2 : (Nat → Int32)) (x3 : Int32) (X : bsX) (Z : pY) (θ : xA2) (α2 : Nat) (cl sl : Nat), cl + NC74 ≤ 610 → sl + NS74 ≤ 3677 → k74 f2 x3 X Z = some z → xV p l e rmL_isLike s m args below meth c cl sl (MQ below (xQi ρ cA dC dI A (fun r X' R' => r = z.1 ∧ X' = z.2.1 ∧ ∃ θ' : xA2, R' = lwWs σ θ' cA z.2.2 ++ F)) args s rmL_isLike.cells rmL_isLike.slots A) ρ cA dC dI A (lwWs σ θ cA Z ++ (F ++ [(α2, .inl (cA 0, 9, .inl f2))])) 7 74 [(0, .ref (ρ 13 0 0)), (1, .ref (σ 0 0)), (2, .ref α2), (3, .int x3)] [] X) (hn74 : 567 ≤ NC74 ∧ 3416 ≤ NS74)  : ∀ (f2 : (Nat → Int32)) (x3 : Int32) (y0 : Int32) (y1 : Int32) (X : bsX) (Z : pY) (θ : xA2) (α2 : Nat) (cl sl : Nat), cl + ((0 + NC74)) ≤ 610 → sl + ((0 + NS74)) ≤ 3677 → hL_isLike_117 k74 f2 x3 y0 y1 X Z = some z → xV p l e rmL_isLike s m args below meth c cl sl (MQ below (xQi ρ cA dC dI A (fun r X' R' => r = z.1 ∧ X' = z.2.1 ∧ ∃ θ' : xA2, R' = lwWs σ θ' cA z.2.2 ++ F)) args s rmL_isLike.cells rmL_isLike.slots A) ρ cA dC dI A (lwWs σ θ cA Z ++ (F ++ [(α2, .inl (cA 0, 9, .inl f2))])) 7 117 [(0, .ref (ρ 13 0 0)), (1, .ref (σ 0 0)), (2, .ref α2), (3, .int x3)] [.int y1, .int y0] X := by
  intro f2 x3 y0 y1 X Z θ α2 cl sl hcl hsl hf
  rw [hL_isLike_117] at hf
  refine x_icmp_eq (tgt := 122) C dL_isLike_117 (by decide) (fun h75 => ?_) (fun h75 => ?_)
  · replace hf := bs_pos h75 hf
    refine x_iinc (k0 := 3) (v := (x3 + (1 : Int32))) (lv' := [(3, .int (x3 + (1 : Int32))), (0, .ref (ρ 13 0 0)), (1, .ref (σ 0 0)), (2, .ref α2)]) C dL_isLike_122 rfl rfl (by decide) rfl ?_
    refine x_goto (tgt := 74) C dL_isLike_125 (by decide) ?_
    refine x_sub [1, 2, 3, 0] rfl ?_
    exact hk74 _ _ _ _ _ _ _ _  (by omega) (by omega) hf
  · replace hf := bs_neg h75 hf
    refine x_iconst (v := 0) C dL_isLike_120 (by decide) ?_
    obtain rfl := Option.some.inj hf
    refine xu_dropall ?_
    exact x_xret C (bsZ01 (by decide)).1 ⟨rfl, rfl, _, rfl⟩ (by show _ ≤ 610; omega) (by show _ ≤ 3677; omega) dL_isLike_121
