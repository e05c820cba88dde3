set_option maxHeartbeats 4000000 in
set_option maxRecDepth 100000 in
theorem qL_isLike_222 {p : Program} {l : Launch} {e : Env} {s : State} {m : MethodId} {args : Array Value} {below : List Frame} {meth : Method} {c : Code} {ρ : bsR} {sc L : Nat} {xs : Nat → Int32} {cA : Nat → ClassId} {dC : Nat → ClassId} {dI : Nat → Nat → Nat} {A : Nat → Prop} {Ts : List Cond} {σ : xA2} {F : va_W} (k130 : Int32 → bsX → pY → Option (Int32 × bsX × pY)) {z : (Int32 × bsX × pY)} (C : xCx p m c cL_isLike 7 s args Ts RL ρ sc L xs cA dC dI A meth (some .boolean)) (hst : l.stackTraces = false) {NC130 NS130 : Nat} (hk130 : ∀ (x3 : Int32) (X : bsX) (Z : pY) (θ : xA2) (cl sl : Nat), cl + NC130 ≤ 610 → sl + NS130 ≤ 3677 → k130 x3 X Z = some z → xV p l e rmL_isLike s m args below meth c cl sl (MQ below (xQi ρ cA dC dI A (fun r X' R' => r = z.1 ∧ X' = z.2.1 ∧ ∃ θ' : xA2, R' = lwWs σ θ' cA z.2.2 ++ F)) args s rmL_isLike.cells rmL_isLike.slots A) ρ cA dC dI A (lwWs σ θ cA Z ++ (F ++ [])) 7 130 [(0, .ref (ρ 13 0 0)), (1, .ref (σ 0 0)), (3, .int x3)] [] X) (hn130 : 175 ≤ NC130 ∧ 1040 ≤ NS130)  : ∀ (x3 : Int32) (q4 : Nat) (f0 : (Nat → Int32)) (y2 : Int32) (y3 : Int32) (X : bsX) (Z : pY) (θ : xA2) (α0 : Nat) (cl sl : Nat), q4 < ln Z → cl + ((48 + NC130)) ≤ 610 → sl + ((288 + NS130)) ≤ 3677 → hL_isLike_222 k130 x3 q4 f0 y2 y3 X Z = some z → xV p l e rmL_isLike s m args below meth c cl sl (MQ below (xQi ρ cA dC dI A (fun r X' R' => r = z.1 ∧ X' = z.2.1 ∧ ∃ θ' : xA2, R' = lwWs σ θ' cA z.2.2 ++ F)) args s rmL_isLike.cells rmL_isLike.slots A) ρ cA dC dI A (lwWs σ θ cA Z ++ (F ++ [(α0, .inl (cA 0, 9, .inl f0))])) 7 222 [(0, .ref (ρ 13 0 0)), (1, .ref (σ 0 0)), (3, .int x3), (4, .ref (σ 5 q4))] [.int y3, .int y2, .ref α0, .ref α0] X := by
  intro x3 q4 f0 y2 y3 X Z θ α0 cl sl hq4 hcl hsl hf
  rw [hL_isLike_222] at hf
  obtain ⟨hg46, hf⟩ := bs_if hf
  refine xu_st (T' := [(α0, .inl (cA 0, 9, .inl (upd f0 (bsIx y2) y3)))]) C 0 rfl hg46 rfl dL_isLike_222 ?_
  refine x_dup C dL_isLike_223 rfl ?_
  refine x_bipush (v := 6) C dL_isLike_224 (by decide) ?_
  refine x_aload C dL_isLike_226 rfl ?_
  refine xg_L_174 C hq4 dL_isLike_228 ?_
  refine xu_st (T' := [(α0, .inl (cA 0, 9, .inl (upd (upd f0 (bsIx y2) y3) 6 (Z 5 q4 6))))]) C 0 rfl (by decide) rfl dL_isLike_231 ?_
  refine x_dup C dL_isLike_232 rfl ?_
  refine x_bipush (v := 7) C dL_isLike_233 (by decide) ?_
  refine x_aload C dL_isLike_235 rfl ?_
  refine xg_L_177 C hq4 dL_isLike_237 ?_
  refine xu_st (T' := [(α0, .inl (cA 0, 9, .inl (upd (upd (upd f0 (bsIx y2) y3) 6 (Z 5 q4 6)) 7 (Z 5 q4 7))))]) C 0 rfl (by decide) rfl dL_isLike_240 ?_
  refine x_dup C dL_isLike_241 rfl ?_
  refine x_bipush (v := 8) C dL_isLike_242 (by decide) ?_
  refine x_aload C dL_isLike_244 rfl ?_
  refine xg_L_180 C hq4 dL_isLike_246 ?_
  refine xu_st (T' := [(α0, .inl (cA 0, 9, .inl (upd (upd (upd (upd f0 (bsIx y2) y3) 6 (Z 5 q4 6)) 7 (Z 5 q4 7)) 8 (Z 5 q4 8))))]) C 0 rfl (by decide) rfl dL_isLike_249 ?_
  refine x_astore (lv' := [(5, .ref α0), (0, .ref (ρ 13 0 0)), (1, .ref (σ 0 0)), (3, .int x3), (4, .ref (σ 5 q4))]) C dL_isLike_250 (by decide) rfl ?_
  refine x_iconst (v := 0) C dL_isLike_252 (by decide) ?_
  refine x_istore (lv' := [(6, .int (0 : Int32)), (5, .ref α0), (0, .ref (ρ 13 0 0)), (1, .ref (σ 0 0)), (3, .int x3), (4, .ref (σ 5 q4))]) C dL_isLike_253 (by decide) rfl ?_
  refine x_sub [2, 3, 4, 5, 1, 0] rfl ?_
  exact qL_isLike_255 k130 C hst hk130 hn130 10 _ _ _ _ _ _ _ _ _ _ hq4 (by show _ + (30 + _) ≤ _; omega) (by show _ + (180 + _) ≤ _; omega) hf
