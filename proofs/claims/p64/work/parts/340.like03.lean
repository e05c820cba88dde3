set_option maxHeartbeats 4000000 in
set_option maxRecDepth 100000 in
theorem qL_isLike_288 {p : Program} {l : Launch} {e : Env} {s : State} {m : MethodId} {args : Array Value} {below : List Frame} {meth : Method} {c : Code} {ρ : bsR} {sc L : Nat} {xs : Nat → Int32} {cA : Nat → ClassId} {dC : Nat → ClassId} {dI : Nat → Nat → Nat} {A : Nat → Prop} {Ts : List Cond} {σ : xA2} {F : va_W} (k130 : Int32 → bsX → pY → Option (Int32 × bsX × pY)) {z : (Int32 × bsX × pY)} (C : xCx p m c cL_isLike 7 s args Ts RL ρ sc L xs cA dC dI A meth (some .boolean)) (hst : l.stackTraces = false) {NC130 NS130 : Nat} (hk130 : ∀ (x3 : Int32) (X : bsX) (Z : pY) (θ : xA2) (cl sl : Nat), cl + NC130 ≤ 610 → sl + NS130 ≤ 3677 → k130 x3 X Z = some z → xV p l e rmL_isLike s m args below meth c cl sl (MQ below (xQi ρ cA dC dI A (fun r X' R' => r = z.1 ∧ X' = z.2.1 ∧ ∃ θ' : xA2, R' = lwWs σ θ' cA z.2.2 ++ F)) args s rmL_isLike.cells rmL_isLike.slots A) ρ cA dC dI A (lwWs σ θ cA Z ++ (F ++ [])) 7 130 [(0, .ref (ρ 13 0 0)), (1, .ref (σ 0 0)), (3, .int x3)] [] X) (hn130 : 175 ≤ NC130 ∧ 1040 ≤ NS130)  : ∀ (n : Nat), ∀ (x3 : Int32) (q4 : Nat) (x6 : Int32) (X : bsX) (Z : pY) (θ : xA2) (cl sl : Nat), q4 < ln Z → cl + (n * 3 + (0 + NC130)) ≤ 610 → sl + (n * 18 + (0 + NS130)) ≤ 3677 → hL_isLike_288 k130 n x3 q4 x6 X Z = some z → xV p l e rmL_isLike s m args below meth c cl sl (MQ below (xQi ρ cA dC dI A (fun r X' R' => r = z.1 ∧ X' = z.2.1 ∧ ∃ θ' : xA2, R' = lwWs σ θ' cA z.2.2 ++ F)) args s rmL_isLike.cells rmL_isLike.slots A) ρ cA dC dI A (lwWs σ θ cA Z ++ (F ++ [])) 7 288 [(0, .ref (ρ 13 0 0)), (1, .ref (σ 0 0)), (3, .int x3), (4, .ref (σ 5 q4)), (6, .int x6)] [] X := by
  intro n
  induction n with
  | zero => intro x3 q4 x6 X Z θ cl sl hq4 hcl hsl hf; exact (nomatch hf)
  | succ n ih =>
    intro x3 q4 x6 X Z θ cl sl hq4 hcl hsl hf
    rw [hL_isLike_288] at hf
    refine x_iload C dL_isLike_288 rfl ?_
    refine x_iconst (v := 5) C dL_isLike_290 (by decide) ?_
    refine x_icmp_ge (tgt := 332) C dL_isLike_291 (by decide) (fun h58 => ?_) (fun h58 => ?_)
    · replace hf := bs_pos h58 hf
      refine x_iinc (k0 := 2) (v := (x3 + (1 : Int32))) (lv' := [(3, .int (x3 + (1 : Int32))), (0, .ref (ρ 13 0 0)), (1, .ref (σ 0 0)), (4, .ref (σ 5 q4)), (6, .int x6)]) C dL_isLike_332 rfl rfl (by decide) rfl ?_
      refine x_goto (tgt := 130) C dL_isLike_335 (by decide) ?_
      refine x_sub [1, 2, 0] rfl ?_
      exact hk130 _ _ _ _  _ _  (by omega) (by omega) hf
    · replace hf := bs_neg h58 hf
      refine x_aload_n C dL_isLike_294 rfl rfl ?_
      refine x_iload_n C dL_isLike_295 rfl rfl ?_
      refine x_iload C dL_isLike_296 rfl ?_
      obtain ⟨r48, hc49, hf⟩ := bs_bind hf
      obtain ⟨h050, hf⟩ := bs_if hf
      refine x_callT (y := yX8_image) (As := [.int x3, .int x6]) (rest := []) C (cX8_image_ok hst hc49) h050 ml_L_40 wyX8_image bsm_X8 bsc_X8 rfl dpX8_image ⟨Nat.le_of_ble_eq_true rfl, Nat.le_of_ble_eq_true rfl⟩ ⟨by show (cl) + 3 ≤ 610; omega, by show (sl) + 18 ≤ 3677; omega⟩ rfl (Nat.le_of_ble_eq_true rfl) dL_isLike_298 ?_
      refine x_widen (k := (cl + 3)) (n := (sl + 18)) (by show (cl) + 3 ≤ _; omega) (by show (sl) + 18 ≤ _; omega) ?_
      refine x_aload C dL_isLike_301 rfl ?_
      obtain ⟨r51, hc52, hf⟩ := bs_bind hf
      obtain ⟨q0, he⟩ := xr_plc (Z := Z) σ θ cA (F ++ []) hq4
      refine x_callVi (y := yX10_isEmpty) (As := []) (rest := [.int r48.2.1]) C (cX10_isEmpty_ok hq4 hc52) ml_L_164 wyX10_isEmpty he rfl dpX10_isEmpty ⟨Nat.le_of_ble_eq_true rfl, Nat.le_of_ble_eq_true rfl⟩ ⟨by show (cl + 3) + 0 ≤ 610; omega, by show (sl + 18) + (0) ≤ 3677; omega⟩ rfl (Nat.le_of_ble_eq_true rfl) dL_isLike_303 (fun r' X' R' hp => ?_)
      obtain ⟨rfl, rfl, θ, rfl⟩ := hp
      refine x_widen (k := (cl + 3)) (n := (sl + 18)) (by show (cl + 3) + 0 ≤ _; omega) (by show (sl + 18) + (0) ≤ _; omega) ?_
      refine x_if_eq (tgt := 313) C dL_isLike_306 (by decide) (fun h57 => ?_) (fun h57 => ?_)
      · replace hf := bs_pos h57 hf
        refine x_aload C dL_isLike_313 rfl ?_
        obtain ⟨hg54, hf⟩ := bs_if hf
        refine xg_L_183 C hg54 dL_isLike_315 ?_
        refine x_iload C dL_isLike_318 rfl ?_
        obtain ⟨hg55, hf⟩ := bs_if hf
        refine xl_img C hg54 hg55 dL_isLike_320 ?_
        refine x_sub [0, 1, 2, 3, 4] rfl ?_
        exact qL_isLike_321 k130 (hL_isLike_288  k130 n) C hst hk130 hn130 ih ⟨by omega, by omega⟩ _ _ _ _ _ _ _ _  _ _ hg54 (by omega) (by omega) hf
      · replace hf := bs_neg h57 hf
        refine x_iconst (v := -1) C dL_isLike_309 (by decide) ?_
        refine x_goto (tgt := 321) C dL_isLike_310 (by decide) ?_
        obtain ⟨hg56, hf⟩ := bs_if hf
        refine x_sub [0, 1, 2, 3, 4] rfl ?_
        exact qL_isLike_321 k130 (hL_isLike_288  k130 n) C hst hk130 hn130 ih ⟨by omega, by omega⟩ _ _ _ _ _ _ _ _  _ _ hg56 (by omega) (by omega) hf
