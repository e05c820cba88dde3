set_option maxHeartbeats 4000000 in
set_option maxRecDepth 100000 in
theorem qL_isLike_130 {p : Program} {l : Launch} {e : Env} {s : State} {m : MethodId} {args : Array Value} {below : List Frame} {meth : Method} {c : Code} {ρ : bsR} {sc L : Nat} {xs : Nat → Int32} {cA : Nat → ClassId} {dC : Nat → ClassId} {dI : Nat → Nat → Nat} {A : Nat → Prop} {Ts : List Cond} {σ : xA2} {F : va_W} {z : (Int32 × bsX × pY)} (C : xCx p m c cL_isLike 7 s args Ts RL ρ sc L xs cA dC dI A meth (some .boolean)) (hst : l.stackTraces = false)  : ∀ (n : Nat), ∀ (x3 : Int32) (X : bsX) (Z : pY) (θ : xA2) (cl sl : Nat), cl + (n * 49 + (175)) ≤ 610 → sl + (n * 297 + (1040)) ≤ 3677 → hL_isLike_130  n x3 X Z = some z → xV p l e rmL_isLike s m args below meth c cl sl (MQ below (xQi ρ cA dC dI A (fun r X' R' => r = z.1 ∧ X' = z.2.1 ∧ ∃ θ' : xA2, R' = lwWs σ θ' cA z.2.2 ++ F)) args s rmL_isLike.cells rmL_isLike.slots A) ρ cA dC dI A (lwWs σ θ cA Z ++ (F ++ [])) 7 130 [(0, .ref (ρ 13 0 0)), (1, .ref (σ 0 0)), (3, .int x3)] [] X := by
  intro n
  induction n with
  | zero => intro x3 X Z θ cl sl hcl hsl hf; exact (nomatch hf)
  | succ n ih =>
    intro x3 X Z θ cl sl hcl hsl hf
    rw [hL_isLike_130] at hf
    refine x_iload_n C dL_isLike_130 rfl rfl ?_
    refine x_aload_n C dL_isLike_131 rfl rfl ?_
    refine xg_L_114 C dL_isLike_132 ?_
    refine xn_plc C dL_isLike_135 ?_
    refine x_icmp_ge (tgt := 338) C dL_isLike_136 (by decide) (fun h11 => ?_) (fun h11 => ?_)
    · replace hf := bs_pos h11 hf
      refine x_iconst (v := 4) C dL_isLike_338 (by decide) ?_
      refine xu_newi (c1 := (cl + 1)) (s1 := (sl + 4)) (N := 4) C (by decide) (by decide) (by decide) ⟨by show _ ≤ 610; omega, by show _ ≤ 3677; omega⟩ (by omega) (by omega) dL_isLike_339 (fun α2 => ?_)
      show xV p l e rmL_isLike s m args below meth c (cl + 1) (sl + 4) (MQ below (xQi ρ cA dC dI A (fun r X' R' => r = z.1 ∧ X' = z.2.1 ∧ ∃ θ' : xA2, R' = lwWs σ θ' cA z.2.2 ++ F)) args s rmL_isLike.cells rmL_isLike.slots A) ρ cA dC dI A (lwWs σ θ cA Z ++ (F ++ [(α2, .inl (cA 0, 4, .inl (fun _ => (0 : Int32))))])) 7 341 [(0, .ref (ρ 13 0 0)), (1, .ref (σ 0 0)), (3, .int x3)] [.ref α2] X
      refine x_dup C dL_isLike_341 rfl ?_
      refine x_iconst (v := 0) C dL_isLike_342 (by decide) ?_
      refine x_aload_n C dL_isLike_343 rfl rfl ?_
      refine xg_L_185 C dL_isLike_344 ?_
      refine xu_st (T' := [(α2, .inl (cA 0, 4, .inl (upd (fun _ => (0 : Int32)) 0 (Z 2 0 1))))]) C 0 rfl (by decide) rfl dL_isLike_347 ?_
      refine x_dup C dL_isLike_348 rfl ?_
      refine x_iconst (v := 1) C dL_isLike_349 (by decide) ?_
      refine x_aload_n C dL_isLike_350 rfl rfl ?_
      refine xg_L_188 C dL_isLike_351 ?_
      refine xu_st (T' := [(α2, .inl (cA 0, 4, .inl (upd (upd (fun _ => (0 : Int32)) 0 (Z 2 0 1)) 1 (Z 2 0 2))))]) C 0 rfl (by decide) rfl dL_isLike_354 ?_
      refine x_dup C dL_isLike_355 rfl ?_
      refine x_iconst (v := 2) C dL_isLike_356 (by decide) ?_
      refine x_aload_n C dL_isLike_357 rfl rfl ?_
      refine xg_L_191 C dL_isLike_358 ?_
      refine x_iconst (v := 0) C dL_isLike_361 (by decide) ?_
      refine xl_com C (by decide) dL_isLike_362 ?_
      refine xu_st (T' := [(α2, .inl (cA 0, 4, .inl (upd (upd (upd (fun _ => (0 : Int32)) 0 (Z 2 0 1)) 1 (Z 2 0 2)) 2 (Z 13 0 1))))]) C 0 rfl (by decide) rfl dL_isLike_363 ?_
      refine x_dup C dL_isLike_364 rfl ?_
      refine x_iconst (v := 3) C dL_isLike_365 (by decide) ?_
      refine x_iconst (v := 3) C dL_isLike_366 (by decide) ?_
      refine xu_st (T' := [(α2, .inl (cA 0, 4, .inl (upd (upd (upd (upd (fun _ => (0 : Int32)) 0 (Z 2 0 1)) 1 (Z 2 0 2)) 2 (Z 13 0 1)) 3 (3 : Int32))))]) C 0 rfl (by decide) rfl dL_isLike_367 ?_
      refine x_astore_n (lv' := [(3, .ref α2), (0, .ref (ρ 13 0 0)), (1, .ref (σ 0 0))]) C dL_isLike_368 rfl (by decide) rfl ?_
      refine x_iconst (v := 0) C dL_isLike_369 (by decide) ?_
      refine x_istore (lv' := [(4, .int (0 : Int32)), (3, .ref α2), (0, .ref (ρ 13 0 0)), (1, .ref (σ 0 0))]) C dL_isLike_370 (by decide) rfl ?_
      refine x_sub [2, 3, 1, 0] rfl ?_
      exact qL_isLike_372  C hst  5 _ _ _ _ _ _ _ _  (by show _ + (10 + _) ≤ _; omega) (by show _ + (60 + _) ≤ _; omega) hf
    · replace hf := bs_neg h11 hf
      refine x_aload_n C dL_isLike_139 rfl rfl ?_
      refine xg_L_114 C dL_isLike_140 ?_
      refine x_iload_n C dL_isLike_143 rfl rfl ?_
      obtain ⟨hg3, hf⟩ := bs_if hf
      refine xa_plc C hg3 dL_isLike_144 ?_
      refine x_astore (lv' := [(4, .ref (σ 5 (bsIx x3))), (0, .ref (ρ 13 0 0)), (1, .ref (σ 0 0)), (3, .int x3)]) C dL_isLike_145 (by decide) rfl ?_
      refine x_bipush (v := 9) C dL_isLike_147 (by decide) ?_
      refine xu_newi (c1 := (cl + 1)) (s1 := (sl + 9)) (N := 9) C (by decide) (by decide) (by decide) ⟨by show _ ≤ 610; omega, by show _ ≤ 3677; omega⟩ (by omega) (by omega) dL_isLike_149 (fun α4 => ?_)
      show xV p l e rmL_isLike s m args below meth c (cl + 1) (sl + 9) (MQ below (xQi ρ cA dC dI A (fun r X' R' => r = z.1 ∧ X' = z.2.1 ∧ ∃ θ' : xA2, R' = lwWs σ θ' cA z.2.2 ++ F)) args s rmL_isLike.cells rmL_isLike.slots A) ρ cA dC dI A (lwWs σ θ cA Z ++ (F ++ [(α4, .inl (cA 0, 9, .inl (fun _ => (0 : Int32))))])) 7 151 [(4, .ref (σ 5 (bsIx x3))), (0, .ref (ρ 13 0 0)), (1, .ref (σ 0 0)), (3, .int x3)] [.ref α4] X
      refine x_dup C dL_isLike_151 rfl ?_
      refine x_iconst (v := 0) C dL_isLike_152 (by decide) ?_
      refine x_aload C dL_isLike_153 rfl ?_
      obtain ⟨r5, hc6, hf⟩ := bs_bind hf
      obtain ⟨q0, he⟩ := xr_plc (Z := Z) σ θ cA (F ++ [(α4, .inl (cA 0, 9, .inl (fun _ => (0 : Int32))))]) (bsIx_lt hg3)
      refine x_callVi (y := yX10_isEmpty) (As := []) (rest := [.int (0 : Int32), .ref α4, .ref α4]) C (cX10_isEmpty_ok (bsIx_lt hg3) hc6) ml_L_164 wyX10_isEmpty he rfl dpX10_isEmpty ⟨Nat.le_of_ble_eq_true rfl, Nat.le_of_ble_eq_true rfl⟩ ⟨by show (cl + 1) + 0 ≤ 610; omega, by show (sl + 9) + (0) ≤ 3677; omega⟩ rfl (Nat.le_of_ble_eq_true rfl) dL_isLike_155 (fun r' X' R' hp => ?_)
      obtain ⟨rfl, rfl, θ, rfl⟩ := hp
      refine x_widen (k := (cl + 1)) (n := (sl + 9)) (by show (cl + 1) + 0 ≤ _; omega) (by show (sl + 9) + (0) ≤ _; omega) ?_
      refine x_if_eq (tgt := 165) C dL_isLike_158 (by decide) (fun h10 => ?_) (fun h10 => ?_)
      · replace hf := bs_pos h10 hf
        refine x_iconst (v := 1) C dL_isLike_165 (by decide) ?_
        obtain ⟨hg8, hf⟩ := bs_if hf
        refine x_sub [1, 2, 3, 0] rfl ?_
        exact qL_isLike_166 (hL_isLike_130   n) C hst ih ⟨by omega, by omega⟩ _ _ _ _ _ _ _ _ _ _ _ hg8 (by omega) (by omega) hf
      · replace hf := bs_neg h10 hf
        refine x_iconst (v := 0) C dL_isLike_161 (by decide) ?_
        refine x_goto (tgt := 166) C dL_isLike_162 (by decide) ?_
        obtain ⟨hg9, hf⟩ := bs_if hf
        refine x_sub [1, 2, 3, 0] rfl ?_
        exact qL_isLike_166 (hL_isLike_130   n) C hst ih ⟨by omega, by omega⟩ _ _ _ _ _ _ _ _ _ _ _ hg9 (by omega) (by omega) hf
