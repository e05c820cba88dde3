set_option maxHeartbeats 4000000 in
set_option maxRecDepth 100000 in
theorem qL_act_1007 {p : Program} {l : Launch} {e : Env} {s : State} {m : MethodId} {args : Array Value} {below : List Frame} {meth : Method} {c : Code} {ρ : bsR} {sc L : Nat} {xs : Nat → Int32} {cA : Nat → ClassId} {dC : Nat → ClassId} {dI : Nat → Nat → Nat} {A : Nat → Prop} {Ts : List Cond} {σ : xA2} {F : va_W} {B : Nat} {δ : Nat} {z : (Int32 × bsX × pY × Nat)} (C : xCx p m c cL_act 10 s args Ts RL ρ sc L xs cA dC dI A meth (some .boolean)) (hst : l.stackTraces = false)  : ∀ (x7 : Int32) (x8 : Int32) (x9 : Int32) (X : bsX) (Z : pY) (D : Nat) (θ : xA2) (cl sl : Nat), cl + ((24)) ≤ 369 → sl + ((136)) ≤ 1238 + 122 * B → hL_act_1007 xs L B x7 x8 x9 X Z D = some z → xV p l e (rmL_act B) s m args below meth c cl sl (MQ below (xQi ρ cA dC dI A (fun r X' R' => r = z.1 ∧ X' = z.2.1 ∧ ∃ σ' θ' : xA2, σ' 0 0 = σ 0 0 ∧ R' = lwWs σ' θ' cA z.2.2.1 ++ (F ++ [(δ, dCell sc z.2.2.2)]))) args s (rmL_act B).cells (rmL_act B).slots A) ρ cA dC dI A (lwWs σ θ cA Z ++ (F ++ [(δ, dCell sc D)])) 10 1007 [(0, .ref (ρ 13 0 0)), (1, .ref (σ 0 0)), (7, .int x7), (8, .int x8), (9, .int x9)] [] X := by
  intro x7 x8 x9 X Z D θ cl sl hcl hsl hf
  rw [hL_act_1007] at hf
  refine x_iload C dL_act_1007 rfl ?_
  refine x_iconst (v := 5) C dL_act_1009 (by decide) ?_
  refine x_icmp_ne (tgt := 1019) C dL_act_1010 (by decide) (fun h243 => ?_) (fun h243 => ?_)
  · replace hf := bs_neg h243 hf
    refine x_sub [0, 2, 3, 4] rfl ?_
    exact qL_act_1019  C hst  _ _ _ _ _ _ _  _ _  (by omega) (by omega) hf
  · replace hf := bs_pos h243 hf
    refine x_aload_n C dL_act_1013 rfl rfl ?_
    refine x_iload C dL_act_1014 rfl ?_
    refine xp_L_145 C dL_act_1016 ?_
    refine x_sub [0, 2, 3, 4] rfl ?_
    exact qL_act_1019  C hst  _ _ _ _ _ _ _  _ _  (by omega) (by omega) hf
set_option maxHeartbeats 4000000 in
set_option maxRecDepth 100000 in
theorem qL_act_995 {p : Program} {l : Launch} {e : Env} {s : State} {m : MethodId} {args : Array Value} {below : List Frame} {meth : Method} {c : Code} {ρ : bsR} {sc L : Nat} {xs : Nat → Int32} {cA : Nat → ClassId} {dC : Nat → ClassId} {dI : Nat → Nat → Nat} {A : Nat → Prop} {Ts : List Cond} {σ : xA2} {F : va_W} {B : Nat} {δ : Nat} {z : (Int32 × bsX × pY × Nat)} (C : xCx p m c cL_act 10 s args Ts RL ρ sc L xs cA dC dI A meth (some .boolean)) (hst : l.stackTraces = false)  : ∀ (x7 : Int32) (x8 : Int32) (x9 : Int32) (X : bsX) (Z : pY) (D : Nat) (θ : xA2) (cl sl : Nat), cl + ((24)) ≤ 369 → sl + ((136)) ≤ 1238 + 122 * B → hL_act_995 xs L B x7 x8 x9 X Z D = some z → xV p l e (rmL_act B) s m args below meth c cl sl (MQ below (xQi ρ cA dC dI A (fun r X' R' => r = z.1 ∧ X' = z.2.1 ∧ ∃ σ' θ' : xA2, σ' 0 0 = σ 0 0 ∧ R' = lwWs σ' θ' cA z.2.2.1 ++ (F ++ [(δ, dCell sc z.2.2.2)]))) args s (rmL_act B).cells (rmL_act B).slots A) ρ cA dC dI A (lwWs σ θ cA Z ++ (F ++ [(δ, dCell sc D)])) 10 995 [(0, .ref (ρ 13 0 0)), (1, .ref (σ 0 0)), (7, .int x7), (8, .int x8), (9, .int x9)] [] X := by
  intro x7 x8 x9 X Z D θ cl sl hcl hsl hf
  rw [hL_act_995] at hf
  refine x_iload C dL_act_995 rfl ?_
  refine x_iconst (v := 4) C dL_act_997 (by decide) ?_
  refine x_icmp_ne (tgt := 1007) C dL_act_998 (by decide) (fun h37 => ?_) (fun h37 => ?_)
  · replace hf := bs_neg h37 hf
    refine x_sub [0, 1, 2, 3, 4] rfl ?_
    exact qL_act_1007  C hst  _ _ _ _ _ _ _  _ _  (by omega) (by omega) hf
  · replace hf := bs_pos h37 hf
    refine x_aload_n C dL_act_1001 rfl rfl ?_
    refine x_iload C dL_act_1002 rfl ?_
    refine xp_L_142 C dL_act_1004 ?_
    refine x_sub [0, 1, 2, 3, 4] rfl ?_
    exact qL_act_1007  C hst  _ _ _ _ _ _ _  _ _  (by omega) (by omega) hf
set_option maxHeartbeats 4000000 in
set_option maxRecDepth 100000 in
theorem qL_act_983 {p : Program} {l : Launch} {e : Env} {s : State} {m : MethodId} {args : Array Value} {below : List Frame} {meth : Method} {c : Code} {ρ : bsR} {sc L : Nat} {xs : Nat → Int32} {cA : Nat → ClassId} {dC : Nat → ClassId} {dI : Nat → Nat → Nat} {A : Nat → Prop} {Ts : List Cond} {σ : xA2} {F : va_W} {B : Nat} {δ : Nat} {z : (Int32 × bsX × pY × Nat)} (C : xCx p m c cL_act 10 s args Ts RL ρ sc L xs cA dC dI A meth (some .boolean)) (hst : l.stackTraces = false)  : ∀ (x7 : Int32) (x8 : Int32) (x9 : Int32) (X : bsX) (Z : pY) (D : Nat) (θ : xA2) (cl sl : Nat), cl + ((24)) ≤ 369 → sl + ((136)) ≤ 1238 + 122 * B → hL_act_983 xs L B x7 x8 x9 X Z D = some z → xV p l e (rmL_act B) s m args below meth c cl sl (MQ below (xQi ρ cA dC dI A (fun r X' R' => r = z.1 ∧ X' = z.2.1 ∧ ∃ σ' θ' : xA2, σ' 0 0 = σ 0 0 ∧ R' = lwWs σ' θ' cA z.2.2.1 ++ (F ++ [(δ, dCell sc z.2.2.2)]))) args s (rmL_act B).cells (rmL_act B).slots A) ρ cA dC dI A (lwWs σ θ cA Z ++ (F ++ [(δ, dCell sc D)])) 10 983 [(0, .ref (ρ 13 0 0)), (1, .ref (σ 0 0)), (7, .int x7), (8, .int x8), (9, .int x9)] [] X := by
  intro x7 x8 x9 X Z D θ cl sl hcl hsl hf
  rw [hL_act_983] at hf
  refine x_iload C dL_act_983 rfl ?_
  refine x_iconst (v := 3) C dL_act_985 (by decide) ?_
  refine x_icmp_ne (tgt := 995) C dL_act_986 (by decide) (fun h244 => ?_) (fun h244 => ?_)
  · replace hf := bs_neg h244 hf
    refine x_sub [0, 1, 2, 3, 4] rfl ?_
    exact qL_act_995  C hst  _ _ _ _ _ _ _  _ _  (by omega) (by omega) hf
  · replace hf := bs_pos h244 hf
    refine x_aload_n C dL_act_989 rfl rfl ?_
    refine x_iload C dL_act_990 rfl ?_
    refine xp_L_139 C dL_act_992 ?_
    refine x_sub [0, 1, 2, 3, 4] rfl ?_
    exact qL_act_995  C hst  _ _ _ _ _ _ _  _ _  (by omega) (by omega) hf
set_option maxHeartbeats 4000000 in
set_option maxRecDepth 100000 in
theorem qL_act_969 {p : Program} {l : Launch} {e : Env} {s : State} {m : MethodId} {args : Array Value} {below : List Frame} {meth : Method} {c : Code} {ρ : bsR} {sc L : Nat} {xs : Nat → Int32} {cA : Nat → ClassId} {dC : Nat → ClassId} {dI : Nat → Nat → Nat} {A : Nat → Prop} {Ts : List Cond} {σ : xA2} {F : va_W} {B : Nat} {δ : Nat} {z : (Int32 × bsX × pY × Nat)} (C : xCx p m c cL_act 10 s args Ts RL ρ sc L xs cA dC dI A meth (some .boolean)) (hst : l.stackTraces = false)  : ∀ (x7 : Int32) (x8 : Int32) (y0 : Int32) (X : bsX) (Z : pY) (D : Nat) (θ : xA2) (cl sl : Nat), cl + ((24)) ≤ 369 → sl + ((136)) ≤ 1238 + 122 * B → hL_act_969 xs L B x7 x8 y0 X Z D = some z → xV p l e (rmL_act B) s m args below meth c cl sl (MQ below (xQi ρ cA dC dI A (fun r X' R' => r = z.1 ∧ X' = z.2.1 ∧ ∃ σ' θ' : xA2, σ' 0 0 = σ 0 0 ∧ R' = lwWs σ' θ' cA z.2.2.1 ++ (F ++ [(δ, dCell sc z.2.2.2)]))) args s (rmL_act B).cells (rmL_act B).slots A) ρ cA dC dI A (lwWs σ θ cA Z ++ (F ++ [(δ, dCell sc D)])) 10 969 [(0, .ref (ρ 13 0 0)), (1, .ref (σ 0 0)), (7, .int x7), (8, .int x8)] [.int y0] X := by
  intro x7 x8 y0 X Z D θ cl sl hcl hsl hf
  rw [hL_act_969] at hf
  refine x_istore (lv' := [(9, .int y0), (0, .ref (ρ 13 0 0)), (1, .ref (σ 0 0)), (7, .int x7), (8, .int x8)]) C dL_act_969 (by decide) rfl ?_
  refine x_iload C dL_act_971 rfl ?_
  refine x_iconst (v := 2) C dL_act_973 (by decide) ?_
  refine x_icmp_ne (tgt := 983) C dL_act_974 (by decide) (fun h143 => ?_) (fun h143 => ?_)
  · replace hf := bs_neg h143 hf
    refine x_sub [1, 2, 3, 4, 0] rfl ?_
    exact qL_act_983  C hst  _ _ _ _ _ _ _  _ _  (by omega) (by omega) hf
  · replace hf := bs_pos h143 hf
    refine x_aload_n C dL_act_977 rfl rfl ?_
    refine x_iload C dL_act_978 rfl ?_
    refine xp_L_136 C dL_act_980 ?_
    refine x_sub [1, 2, 3, 4, 0] rfl ?_
    exact qL_act_983  C hst  _ _ _ _ _ _ _  _ _  (by omega) (by omega) hf
