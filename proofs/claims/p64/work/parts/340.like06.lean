set_option maxHeartbeats 4000000 in
set_option maxRecDepth 100000 in
theorem qL_isLike_198 {p : Program} {l : Launch} {e : Env} {s : State} {m : MethodId} {args : Array Value} {below : List Frame} {meth : Method} {c : Code} {ρ : bsR} {sc L : Nat} {xs : Nat → Int32} {cA : Nat → ClassId} {dC : Nat → ClassId} {dI : Nat → Nat → Nat} {A : Nat → Prop} {Ts : List Cond} {σ : xA2} {F : va_W} (k130 : Int32 → bsX → pY → Option (Int32 × bsX × pY)) {z : (Int32 × bsX × pY)} (C : xCx p m c cL_isLike 7 s args Ts RL ρ sc L xs cA dC dI A meth (some .boolean)) (hst : l.stackTraces = false) {NC130 NS130 : Nat} (hk130 : ∀ (x3 : Int32) (X : bsX) (Z : pY) (θ : xA2) (cl sl : Nat), cl + NC130 ≤ 610 → sl + NS130 ≤ 3677 → k130 x3 X Z = some z → xV p l e rmL_isLike s m args below meth c cl sl (MQ below (xQi ρ cA dC dI A (fun r X' R' => r = z.1 ∧ X' = z.2.1 ∧ ∃ θ' : xA2, R' = lwWs σ θ' cA z.2.2 ++ F)) args s rmL_isLike.cells rmL_isLike.slots A) ρ cA dC dI A (lwWs σ θ cA Z ++ (F ++ [])) 7 130 [(0, .ref (ρ 13 0 0)), (1, .ref (σ 0 0)), (3, .int x3)] [] X) (hn130 : 175 ≤ NC130 ∧ 1040 ≤ NS130)  : ∀ (x3 : Int32) (q4 : Nat) (f0 : (Nat → Int32)) (y2 : Int32) (y3 : Int32) (X : bsX) (Z : pY) (θ : xA2) (α0 : Nat) (cl sl : Nat), q4 < ln Z → cl + ((48 + NC130)) ≤ 610 → sl + ((288 + NS130)) ≤ 3677 → hL_isLike_198 k130 x3 q4 f0 y2 y3 X Z = some z → xV p l e rmL_isLike s m args below meth c cl sl (MQ below (xQi ρ cA dC dI A (fun r X' R' => r = z.1 ∧ X' = z.2.1 ∧ ∃ θ' : xA2, R' = lwWs σ θ' cA z.2.2 ++ F)) args s rmL_isLike.cells rmL_isLike.slots A) ρ cA dC dI A (lwWs σ θ cA Z ++ (F ++ [(α0, .inl (cA 0, 9, .inl f0))])) 7 198 [(0, .ref (ρ 13 0 0)), (1, .ref (σ 0 0)), (3, .int x3), (4, .ref (σ 5 q4))] [.int y3, .int y2, .ref α0, .ref α0] X := by
  intro x3 q4 f0 y2 y3 X Z θ α0 cl sl hq4 hcl hsl hf
  rw [hL_isLike_198] at hf
  obtain ⟨hg12, hf⟩ := bs_if hf
  refine xu_st (T' := [(α0, .inl (cA 0, 9, .inl (upd f0 (bsIx y2) y3)))]) C 0 rfl hg12 rfl dL_isLike_198 ?_
  refine x_dup C dL_isLike_199 rfl ?_
  refine x_iconst (v := 4) C dL_isLike_200 (by decide) ?_
  refine x_aload C dL_isLike_201 rfl ?_
  refine xg_L_171 C hq4 dL_isLike_203 ?_
  refine xu_st (T' := [(α0, .inl (cA 0, 9, .inl (upd (upd f0 (bsIx y2) y3) 4 (Z 5 q4 5))))]) C 0 rfl (by decide) rfl dL_isLike_206 ?_
  refine x_dup C dL_isLike_207 rfl ?_
  refine x_iconst (v := 5) C dL_isLike_208 (by decide) ?_
  refine x_aload_n C dL_isLike_209 rfl rfl ?_
  refine x_iload_n C dL_isLike_210 rfl rfl ?_
  obtain ⟨r13, hc14, hf⟩ := bs_bind hf
  obtain ⟨q0, he⟩ := xr_wor σ θ cA Z (F ++ [(α0, .inl (cA 0, 9, .inl (upd (upd f0 (bsIx y2) y3) 4 (Z 5 q4 5))))])
  refine x_callVi (y := yX11_why) (As := [.int x3]) (rest := [.int (5 : Int32), .ref α0, .ref α0]) C (cX11_why_ok  hc14) ml_L_120 wyX11_why he rfl dpX11_why ⟨Nat.le_of_ble_eq_true rfl, Nat.le_of_ble_eq_true rfl⟩ ⟨by show (cl) + 0 ≤ 610; omega, by show (sl) + (0) ≤ 3677; omega⟩ rfl (Nat.le_of_ble_eq_true rfl) dL_isLike_211 (fun r' X' R' hp => ?_)
  obtain ⟨rfl, rfl, θ, rfl⟩ := hp
  refine x_widen (k := (cl)) (n := (sl)) (by show (cl) + 0 ≤ _; omega) (by show (sl) + (0) ≤ _; omega) ?_
  refine x_if_ne (tgt := 221) C dL_isLike_214 (by decide) (fun h18 => ?_) (fun h18 => ?_)
  · replace hf := bs_neg h18 hf
    refine x_iconst (v := 0) C dL_isLike_221 (by decide) ?_
    obtain ⟨hg16, hf⟩ := bs_if hf
    refine x_sub [0, 1, 2, 3] rfl ?_
    exact qL_isLike_222 k130 C hst hk130 hn130 _ _ _ _ _ _ _ _ _ _ _ hg16 (by omega) (by omega) hf
  · replace hf := bs_pos h18 hf
    refine x_iconst (v := 1) C dL_isLike_217 (by decide) ?_
    refine x_goto (tgt := 222) C dL_isLike_218 (by decide) ?_
    obtain ⟨hg17, hf⟩ := bs_if hf
    refine x_sub [0, 1, 2, 3] rfl ?_
    exact qL_isLike_222 k130 C hst hk130 hn130 _ _ _ _ _ _ _ _ _ _ _ hg17 (by omega) (by omega) hf
