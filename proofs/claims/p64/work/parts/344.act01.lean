set_option maxHeartbeats 4000000 in
set_option maxRecDepth 100000 in
theorem qL_act_56 {p : Program} {l : Launch} {e : Env} {s : State} {m : MethodId} {args : Array Value} {below : List Frame} {meth : Method} {c : Code} {ρ : bsR} {sc L : Nat} {xs : Nat → Int32} {cA : Nat → ClassId} {dC : Nat → ClassId} {dI : Nat → Nat → Nat} {A : Nat → Prop} {Ts : List Cond} {σ : xA2} {F : va_W} {B : Nat} {δ : Nat} {z : (Int32 × bsX × pY × Nat)} (C : xCx p m c cL_act 10 s args Ts RL ρ sc L xs cA dC dI A meth (some .boolean)) (hst : l.stackTraces = false)  : ∀ (X : bsX) (Z : pY) (D : Nat) (θ : xA2) (cl sl : Nat), cl + ((11)) ≤ 369 → sl + ((60 + 1 * B)) ≤ 1238 + 122 * B → hL_act_56 xs L B X Z D = some z → xV p l e (rmL_act B) s m args below meth c cl sl (MQ below (xQi ρ cA dC dI A (fun r X' R' => r = z.1 ∧ X' = z.2.1 ∧ ∃ σ' θ' : xA2, σ' 0 0 = σ 0 0 ∧ R' = lwWs σ' θ' cA z.2.2.1 ++ (F ++ [(δ, dCell sc z.2.2.2)]))) args s (rmL_act B).cells (rmL_act B).slots A) ρ cA dC dI A (lwWs σ θ cA Z ++ (F ++ [(δ, dCell sc D)])) 10 56 [(0, .ref (ρ 13 0 0)), (1, .ref (σ 0 0))] [] X := by
  intro X Z D θ cl sl hcl hsl hf
  rw [hL_act_56] at hf
  refine x_aload_n C dL_act_56 rfl rfl ?_
  refine xg_L_148 C dL_act_57 ?_
  refine x_if_eq (tgt := 81) C dL_act_60 (by decide) (fun h257 => ?_) (fun h257 => ?_)
  · replace hf := bs_pos h257 hf
    refine x_aload_n C dL_act_81 rfl rfl ?_
    refine x_iconst (v := 0) C dL_act_82 (by decide) ?_
    obtain ⟨r245, hc246, hf⟩ := bs_bind hf
    obtain ⟨q0, he⟩ := xr_wor σ θ cA Z (F ++ [(δ, dCell sc D)])
    refine x_callVi (y := yX11_boot) (As := [.int (0 : Int32)]) (rest := []) C (cX11_boot_ok (B := B)  hc246) ml_L_203 wyX11_boot he rfl dpX11_boot ⟨Nat.le_of_ble_eq_true rfl, Nat.le_of_ble_eq_true rfl⟩ ⟨by show (cl) + 2 ≤ 369; omega, by show (sl) + (5 + 1 * B) ≤ 1238 + 122 * B; omega⟩ rfl (Nat.le_of_ble_eq_true rfl) dL_act_83 (fun r' X' R' hp => ?_)
    obtain ⟨rfl, rfl, θ, rfl⟩ := hp
    refine x_widen (k := (cl + 2)) (n := (sl + 5 + 1 * B)) (by show (cl) + 2 ≤ _; omega) (by show (sl) + (5 + 1 * B) ≤ _; omega) ?_
    refine x_istore (lv' := [(7, .int r245.1), (0, .ref (ρ 13 0 0)), (1, .ref (σ 0 0))]) C dL_act_86 (by decide) rfl ?_
    refine x_aload_n C dL_act_88 rfl rfl ?_
    obtain ⟨r248, hc249, hf⟩ := bs_bind hf
    obtain ⟨h0250, hf⟩ := bs_if hf
    refine x_callT (y := yX8_power) (As := []) (rest := []) C (cX8_power_ok hst hc249) h0250 ml_L_49 wyX8_power bsm_X8 bsc_X8 rfl dpX8_power ⟨Nat.le_of_ble_eq_true rfl, Nat.le_of_ble_eq_true rfl⟩ ⟨by show (cl + 2) + 2 ≤ 369; omega, by show (sl + 5 + 1 * B) + 12 ≤ 1238 + 122 * B; omega⟩ rfl (Nat.le_of_ble_eq_true rfl) dL_act_89 ?_
    refine x_widen (k := (cl + 4)) (n := (sl + 17 + 1 * B)) (by show (cl + 2) + 2 ≤ _; omega) (by show (sl + 5 + 1 * B) + 12 ≤ _; omega) ?_
    refine x_aload_n C dL_act_92 rfl rfl ?_
    refine xg_L_151 C dL_act_93 ?_
    refine x_icmp_ne (tgt := 103) C dL_act_96 (by decide) (fun h251 => ?_) (fun h251 => ?_)
    · replace hf := bs_neg h251 hf
      refine x_iconst (v := 0) C dL_act_103 (by decide) ?_
      obtain rfl := Option.some.inj hf
      exact x_xret C (bsZ01 (by decide)).1 ⟨rfl, rfl, σ, _, rfl, rfl⟩ (by show _ ≤ 369; omega) (by show _ ≤ 1238 + 122 * B; omega) dL_act_104
    · replace hf := bs_pos h251 hf
      refine x_iconst (v := 1) C dL_act_99 (by decide) ?_
      refine x_goto (tgt := 104) C dL_act_100 (by decide) ?_
      obtain rfl := Option.some.inj hf
      exact x_xret C (bsZ01 (by decide)).1 ⟨rfl, rfl, σ, _, rfl, rfl⟩ (by show _ ≤ 369; omega) (by show _ ≤ 1238 + 122 * B; omega) dL_act_104
  · replace hf := bs_neg h257 hf
    refine x_aload_n C dL_act_63 rfl rfl ?_
    refine x_iconst (v := 5) C dL_act_64 (by decide) ?_
    refine x_iconst (v := 0) C dL_act_65 (by decide) ?_
    refine xu_newi (c1 := (cl + 1)) (s1 := (sl)) (N := 0) C (by decide) (by decide) (by decide) ⟨by show _ ≤ 369; omega, by show _ ≤ 1238 + 122 * B; omega⟩ (by omega) (by omega) dL_act_66 (fun α252 => ?_)
    show xV p l e (rmL_act B) s m args below meth c (cl + 1) (sl) (MQ below (xQi ρ cA dC dI A (fun r X' R' => r = z.1 ∧ X' = z.2.1 ∧ ∃ σ' θ' : xA2, σ' 0 0 = σ 0 0 ∧ R' = lwWs σ' θ' cA z.2.2.1 ++ (F ++ [(δ, dCell sc z.2.2.2)]))) args s (rmL_act B).cells (rmL_act B).slots A) ρ cA dC dI A (lwWs σ θ cA Z ++ (F ++ [(δ, dCell sc D), (α252, .inl (cA 0, 0, .inl (fun _ => (0 : Int32))))])) 10 68 [(0, .ref (ρ 13 0 0)), (1, .ref (σ 0 0))] [.ref α252, .int (5 : Int32), .ref (ρ 13 0 0)] X
    obtain ⟨r253, hc254, hf⟩ := bs_bind hf
    obtain ⟨hk255, hf⟩ := bs_if hf
    refine xu_thrown C 1 rfl (by decide) hk255 (fun R2 q2 b h9 => cL_calls_5 hst h9 hc254 hk255.1) ⟨Nat.le_of_ble_eq_true rfl, Nat.le_of_ble_eq_true rfl⟩ ⟨by show (cl + 1) + 10 ≤ 369; omega, by show (sl) + 60 ≤ 1238 + 122 * B; omega⟩ rfl (Nat.le_of_ble_eq_true rfl) dL_act_68 ?_
    refine x_widen (k := (cl + 11)) (n := (sl + 60)) (by show (cl + 1) + 10 ≤ _; omega) (by show (sl) + 60 ≤ _; omega) ?_
    refine x_iconst (v := 3) C dL_act_71 (by decide) ?_
    refine x_icmp_ne (tgt := 79) C dL_act_72 (by decide) (fun h256 => ?_) (fun h256 => ?_)
    · replace hf := bs_neg h256 hf
      refine x_iconst (v := 0) C dL_act_79 (by decide) ?_
      obtain rfl := Option.some.inj hf
      refine xu_drop (T' := [(δ, dCell sc D)]) (sl_keep (List.Sublist.cons _ List.Sublist.slnil)) ?_
      exact x_xret C (bsZ01 (by decide)).1 ⟨rfl, rfl, σ, _, rfl, rfl⟩ (by show _ ≤ 369; omega) (by show _ ≤ 1238 + 122 * B; omega) dL_act_80
    · replace hf := bs_pos h256 hf
      refine x_iconst (v := 1) C dL_act_75 (by decide) ?_
      refine x_goto (tgt := 80) C dL_act_76 (by decide) ?_
      obtain rfl := Option.some.inj hf
      refine xu_drop (T' := [(δ, dCell sc D)]) (sl_keep (List.Sublist.cons _ List.Sublist.slnil)) ?_
      exact x_xret C (bsZ01 (by decide)).1 ⟨rfl, rfl, σ, _, rfl, rfl⟩ (by show _ ≤ 369; omega) (by show _ ≤ 1238 + 122 * B; omega) dL_act_80
set_option maxHeartbeats 4000000 in
set_option maxRecDepth 100000 in
theorem qL_act_128 {p : Program} {l : Launch} {e : Env} {s : State} {m : MethodId} {args : Array Value} {below : List Frame} {meth : Method} {c : Code} {ρ : bsR} {sc L : Nat} {xs : Nat → Int32} {cA : Nat → ClassId} {dC : Nat → ClassId} {dI : Nat → Nat → Nat} {A : Nat → Prop} {Ts : List Cond} {σ : xA2} {F : va_W} {B : Nat} {δ : Nat} {z : (Int32 × bsX × pY × Nat)} (C : xCx p m c cL_act 10 s args Ts RL ρ sc L xs cA dC dI A meth (some .boolean)) (hst : l.stackTraces = false)  : ∀ (x5 : Int32) (y1 : Int32) (y2 : Int32) (X : bsX) (Z : pY) (D : Nat) (θ : xA2) (cl sl : Nat), cl + ((369)) ≤ 369 → sl + ((1238 + 122 * B)) ≤ 1238 + 122 * B → hL_act_128 xs L B x5 y1 y2 X Z D = some z → xV p l e (rmL_act B) s m args below meth c cl sl (MQ below (xQi ρ cA dC dI A (fun r X' R' => r = z.1 ∧ X' = z.2.1 ∧ ∃ σ' θ' : xA2, σ' 0 0 = σ 0 0 ∧ R' = lwWs σ' θ' cA z.2.2.1 ++ (F ++ [(δ, dCell sc z.2.2.2)]))) args s (rmL_act B).cells (rmL_act B).slots A) ρ cA dC dI A (lwWs σ θ cA Z ++ (F ++ [(δ, dCell sc D)])) 10 128 [(0, .ref (ρ 13 0 0)), (1, .ref (σ 0 0)), (5, .int x5)] [.int y2, .int y1, .ref δ] X := by
  intro x5 y1 y2 X Z D θ cl sl hcl hsl hf
  rw [hL_act_128] at hf
  obtain ⟨hg3, hf⟩ := bs_if hf
  obtain ⟨hg4, hf⟩ := bs_if hf
  refine xu_next (T' := [(δ, dCell sc (D + 1))]) (As := [.int y1, .int y2]) (rest := []) (at0 := D) (lo := y1) (hi := y2) C 0 rfl rfl hg3 hg4 ml_L_198 rfl ⟨Nat.le_of_ble_eq_true rfl, Nat.le_of_ble_eq_true rfl⟩ ⟨by show (cl) ≤ 369; omega, by show (sl) ≤ 1238 + 122 * B; omega⟩ rfl (Nat.le_of_ble_eq_true rfl) dL_act_128 ?_
  refine x_istore (lv' := [(7, .int (dVal xs L D y1 y2)), (0, .ref (ρ 13 0 0)), (1, .ref (σ 0 0)), (5, .int x5)]) C dL_act_131 (by decide) rfl ?_
  refine x_aload_n C dL_act_133 rfl rfl ?_
  refine x_iload C dL_act_134 rfl ?_
  obtain ⟨r5, hc6, hf⟩ := bs_bind hf
  obtain ⟨h07, hf⟩ := bs_if hf
  refine x_callT (y := yX8_tick) (As := [.int (dVal xs L D y1 y2)]) (rest := []) C (cX8_tick_ok hst hc6) h07 ml_L_58 wyX8_tick bsm_X8 bsc_X8 rfl dpX8_tick ⟨Nat.le_of_ble_eq_true rfl, Nat.le_of_ble_eq_true rfl⟩ ⟨by show (cl) + 3 ≤ 369; omega, by show (sl) + 18 ≤ 1238 + 122 * B; omega⟩ rfl (Nat.le_of_ble_eq_true rfl) dL_act_136 ?_
  refine x_widen (k := (cl + 3)) (n := (sl + 18)) (by show (cl) + 3 ≤ _; omega) (by show (sl) + 18 ≤ _; omega) ?_
  refine x_aload_n C dL_act_139 rfl rfl ?_
  refine x_iload C dL_act_140 rfl ?_
  obtain ⟨r8, hc9, hf⟩ := bs_bind hf
  obtain ⟨q0, he⟩ := xr_wor σ θ cA Z (F ++ [(δ, dCell sc (D + 1))])
  refine x_callVr (y := yX11_ticks) (As := [.int (dVal xs L D y1 y2)]) (rest := [.int r5.2.1]) C (cX11_ticks_ok (B := B)  hc9) ml_L_205 wyX11_ticks he rfl dpX11_ticks ⟨Nat.le_of_ble_eq_true rfl, Nat.le_of_ble_eq_true rfl⟩ ⟨by show (cl + 3) + 366 ≤ 369; omega, by show (sl + 18) + (1220 + 122 * B) ≤ 1238 + 122 * B; omega⟩ rfl (Nat.le_of_ble_eq_true rfl) dL_act_142 (fun r' X' R' hp => ?_)
  obtain ⟨rfl, rfl, θ, rfl⟩ := hp
  refine x_widen (k := (cl + 369)) (n := (sl + 1238 + 122 * B)) (by show (cl + 3) + 366 ≤ _; omega) (by show (sl + 18) + (1220 + 122 * B) ≤ _; omega) ?_
  refine xg_L_160 C dL_act_145 ?_
  refine x_bipush (v := 12) C dL_act_148 (by decide) ?_
  refine xl_cnt C (by decide) dL_act_150 ?_
  refine x_iload C dL_act_151 rfl ?_
  refine x_isub C dL_act_153 ?_
  refine x_icmp_ne (tgt := 161) C dL_act_154 (by decide) (fun h11 => ?_) (fun h11 => ?_)
  · replace hf := bs_neg h11 hf
    refine x_iconst (v := 0) C dL_act_161 (by decide) ?_
    obtain rfl := Option.some.inj hf
    exact x_xret C (bsZ01 (by decide)).1 ⟨rfl, rfl, σ, _, rfl, rfl⟩ (by show _ ≤ 369; omega) (by show _ ≤ 1238 + 122 * B; omega) dL_act_162
  · replace hf := bs_pos h11 hf
    refine x_iconst (v := 1) C dL_act_157 (by decide) ?_
    refine x_goto (tgt := 162) C dL_act_158 (by decide) ?_
    obtain rfl := Option.some.inj hf
    exact x_xret C (bsZ01 (by decide)).1 ⟨rfl, rfl, σ, _, rfl, rfl⟩ (by show _ ≤ 369; omega) (by show _ ≤ 1238 + 122 * B; omega) dL_act_162
set_option maxHeartbeats 4000000 in
set_option maxRecDepth 100000 in
theorem qL_act_253 {p : Program} {l : Launch} {e : Env} {s : State} {m : MethodId} {args : Array Value} {below : List Frame} {meth : Method} {c : Code} {ρ : bsR} {sc L : Nat} {xs : Nat → Int32} {cA : Nat → ClassId} {dC : Nat → ClassId} {dI : Nat → Nat → Nat} {A : Nat → Prop} {Ts : List Cond} {σ : xA2} {F : va_W} {B : Nat} {δ : Nat} {z : (Int32 × bsX × pY × Nat)} (C : xCx p m c cL_act 10 s args Ts RL ρ sc L xs cA dC dI A meth (some .boolean)) (hst : l.stackTraces = false)  : ∀ (X : bsX) (Z : pY) (D : Nat) (θ : xA2) (cl sl : Nat), cl + ((11)) ≤ 369 → sl + ((61)) ≤ 1238 + 122 * B → hL_act_253 xs L B X Z D = some z → xV p l e (rmL_act B) s m args below meth c cl sl (MQ below (xQi ρ cA dC dI A (fun r X' R' => r = z.1 ∧ X' = z.2.1 ∧ ∃ σ' θ' : xA2, σ' 0 0 = σ 0 0 ∧ R' = lwWs σ' θ' cA z.2.2.1 ++ (F ++ [(δ, dCell sc z.2.2.2)]))) args s (rmL_act B).cells (rmL_act B).slots A) ρ cA dC dI A (lwWs σ θ cA Z ++ (F ++ [(δ, dCell sc D)])) 10 253 [(0, .ref (ρ 13 0 0))] [] X := by
  intro X Z D θ cl sl hcl hsl hf
  rw [hL_act_253] at hf
  refine x_aload_n C dL_act_253 rfl rfl ?_
  refine x_bipush (v := 14) C dL_act_254 (by decide) ?_
  refine x_iconst (v := 1) C dL_act_256 (by decide) ?_
  refine xu_newi (c1 := (cl + 1)) (s1 := (sl + 1)) (N := 1) C (by decide) (by decide) (by decide) ⟨by show _ ≤ 369; omega, by show _ ≤ 1238 + 122 * B; omega⟩ (by omega) (by omega) dL_act_257 (fun α272 => ?_)
  show xV p l e (rmL_act B) s m args below meth c (cl + 1) (sl + 1) (MQ below (xQi ρ cA dC dI A (fun r X' R' => r = z.1 ∧ X' = z.2.1 ∧ ∃ σ' θ' : xA2, σ' 0 0 = σ 0 0 ∧ R' = lwWs σ' θ' cA z.2.2.1 ++ (F ++ [(δ, dCell sc z.2.2.2)]))) args s (rmL_act B).cells (rmL_act B).slots A) ρ cA dC dI A (lwWs σ θ cA Z ++ (F ++ [(δ, dCell sc D), (α272, .inl (cA 0, 1, .inl (fun _ => (0 : Int32))))])) 10 259 [(0, .ref (ρ 13 0 0))] [.ref α272, .int (14 : Int32), .ref (ρ 13 0 0)] X
  refine x_dup C dL_act_259 rfl ?_
  refine x_iconst (v := 0) C dL_act_260 (by decide) ?_
  refine x_sipush (v := 301) C dL_act_261 (by decide) ?_
  refine xu_st (T' := [(δ, dCell sc D), (α272, .inl (cA 0, 1, .inl (upd (fun _ => (0 : Int32)) 0 (301 : Int32))))]) C 1 rfl (by decide) rfl dL_act_264 ?_
  obtain ⟨r273, hc274, hf⟩ := bs_bind hf
  obtain ⟨hk275, hf⟩ := bs_if hf
  refine xu_thrown C 1 rfl (by decide) hk275 (fun R2 q2 b h9 => cL_calls_14 hst h9 hc274 hk275.1) ⟨Nat.le_of_ble_eq_true rfl, Nat.le_of_ble_eq_true rfl⟩ ⟨by show (cl + 1) + 10 ≤ 369; omega, by show (sl + 1) + 60 ≤ 1238 + 122 * B; omega⟩ rfl (Nat.le_of_ble_eq_true rfl) dL_act_265 ?_
  refine x_widen (k := (cl + 11)) (n := (sl + 61)) (by show (cl + 1) + 10 ≤ _; omega) (by show (sl + 1) + 60 ≤ _; omega) ?_
  refine x_iconst (v := 3) C dL_act_268 (by decide) ?_
  refine x_icmp_ne (tgt := 276) C dL_act_269 (by decide) (fun h276 => ?_) (fun h276 => ?_)
  · replace hf := bs_neg h276 hf
    refine x_iconst (v := 0) C dL_act_276 (by decide) ?_
    obtain rfl := Option.some.inj hf
    refine xu_drop (T' := [(δ, dCell sc D)]) (sl_keep (List.Sublist.cons _ List.Sublist.slnil)) ?_
    exact x_xret C (bsZ01 (by decide)).1 ⟨rfl, rfl, σ, _, rfl, rfl⟩ (by show _ ≤ 369; omega) (by show _ ≤ 1238 + 122 * B; omega) dL_act_277
  · replace hf := bs_pos h276 hf
    refine x_iconst (v := 1) C dL_act_272 (by decide) ?_
    refine x_goto (tgt := 277) C dL_act_273 (by decide) ?_
    obtain rfl := Option.some.inj hf
    refine xu_drop (T' := [(δ, dCell sc D)]) (sl_keep (List.Sublist.cons _ List.Sublist.slnil)) ?_
    exact x_xret C (bsZ01 (by decide)).1 ⟨rfl, rfl, σ, _, rfl, rfl⟩ (by show _ ≤ 369; omega) (by show _ ≤ 1238 + 122 * B; omega) dL_act_277
set_option maxHeartbeats 4000000 in
set_option maxRecDepth 100000 in
theorem qL_act_419 {p : Program} {l : Launch} {e : Env} {s : State} {m : MethodId} {args : Array Value} {below : List Frame} {meth : Method} {c : Code} {ρ : bsR} {sc L : Nat} {xs : Nat → Int32} {cA : Nat → ClassId} {dC : Nat → ClassId} {dI : Nat → Nat → Nat} {A : Nat → Prop} {Ts : List Cond} {σ : xA2} {F : va_W} {B : Nat} {δ : Nat} {z : (Int32 × bsX × pY × Nat)} (C : xCx p m c cL_act 10 s args Ts RL ρ sc L xs cA dC dI A meth (some .boolean)) (hst : l.stackTraces = false)  : ∀ (x4 : Int32) (f7 : (Nat → Int32)) (x8 : Int32) (X : bsX) (Z : pY) (D : Nat) (θ : xA2) (α7 : Nat) (cl sl : Nat), cl + ((11)) ≤ 369 → sl + ((65)) ≤ 1238 + 122 * B → hL_act_419 xs L B x4 f7 x8 X Z D = some z → xV p l e (rmL_act B) s m args below meth c cl sl (MQ below (xQi ρ cA dC dI A (fun r X' R' => r = z.1 ∧ X' = z.2.1 ∧ ∃ σ' θ' : xA2, σ' 0 0 = σ 0 0 ∧ R' = lwWs σ' θ' cA z.2.2.1 ++ (F ++ [(δ, dCell sc z.2.2.2)]))) args s (rmL_act B).cells (rmL_act B).slots A) ρ cA dC dI A (lwWs σ θ cA Z ++ (F ++ [(δ, dCell sc D), (α7, .inl (cA 0, 5, .inl f7))])) 10 419 [(0, .ref (ρ 13 0 0)), (4, .int x4), (7, .ref α7), (8, .int x8)] [] X := by
  intro x4 f7 x8 X Z D θ α7 cl sl hcl hsl hf
  rw [hL_act_419] at hf
  refine x_aload_n C dL_act_419 rfl rfl ?_
  refine x_bipush (v := 9) C dL_act_420 (by decide) ?_
  refine x_iconst (v := 5) C dL_act_422 (by decide) ?_
  refine xu_newi (c1 := (cl + 1)) (s1 := (sl + 5)) (N := 5) C (by decide) (by decide) (by decide) ⟨by show _ ≤ 369; omega, by show _ ≤ 1238 + 122 * B; omega⟩ (by omega) (by omega) dL_act_423 (fun α12 => ?_)
  show xV p l e (rmL_act B) s m args below meth c (cl + 1) (sl + 5) (MQ below (xQi ρ cA dC dI A (fun r X' R' => r = z.1 ∧ X' = z.2.1 ∧ ∃ σ' θ' : xA2, σ' 0 0 = σ 0 0 ∧ R' = lwWs σ' θ' cA z.2.2.1 ++ (F ++ [(δ, dCell sc z.2.2.2)]))) args s (rmL_act B).cells (rmL_act B).slots A) ρ cA dC dI A (lwWs σ θ cA Z ++ (F ++ [(δ, dCell sc D), (α7, .inl (cA 0, 5, .inl f7)), (α12, .inl (cA 0, 5, .inl (fun _ => (0 : Int32))))])) 10 425 [(0, .ref (ρ 13 0 0)), (4, .int x4), (7, .ref α7), (8, .int x8)] [.ref α12, .int (9 : Int32), .ref (ρ 13 0 0)] X
  refine x_dup C dL_act_425 rfl ?_
  refine x_iconst (v := 0) C dL_act_426 (by decide) ?_
  refine x_iload C dL_act_427 rfl ?_
  refine xu_st (T' := [(δ, dCell sc D), (α7, .inl (cA 0, 5, .inl f7)), (α12, .inl (cA 0, 5, .inl (upd (fun _ => (0 : Int32)) 0 x4)))]) C 2 rfl (by decide) rfl dL_act_429 ?_
  refine x_dup C dL_act_430 rfl ?_
  refine x_iconst (v := 1) C dL_act_431 (by decide) ?_
  refine x_aload C dL_act_432 rfl ?_
  refine x_iconst (v := 0) C dL_act_434 (by decide) ?_
  refine xu_ld C 1 rfl (by decide) dL_act_435 ?_
  refine xu_st (T' := [(δ, dCell sc D), (α7, .inl (cA 0, 5, .inl f7)), (α12, .inl (cA 0, 5, .inl (upd (upd (fun _ => (0 : Int32)) 0 x4) 1 (f7 0))))]) C 2 rfl (by decide) rfl dL_act_436 ?_
  refine x_dup C dL_act_437 rfl ?_
  refine x_iconst (v := 2) C dL_act_438 (by decide) ?_
  refine x_aload C dL_act_439 rfl ?_
  refine x_iconst (v := 1) C dL_act_441 (by decide) ?_
  refine xu_ld C 1 rfl (by decide) dL_act_442 ?_
  refine xu_st (T' := [(δ, dCell sc D), (α7, .inl (cA 0, 5, .inl f7)), (α12, .inl (cA 0, 5, .inl (upd (upd (upd (fun _ => (0 : Int32)) 0 x4) 1 (f7 0)) 2 (f7 1))))]) C 2 rfl (by decide) rfl dL_act_443 ?_
  refine x_dup C dL_act_444 rfl ?_
  refine x_iconst (v := 3) C dL_act_445 (by decide) ?_
  refine x_aload C dL_act_446 rfl ?_
  refine x_iconst (v := 2) C dL_act_448 (by decide) ?_
  refine xu_ld C 1 rfl (by decide) dL_act_449 ?_
  refine xu_st (T' := [(δ, dCell sc D), (α7, .inl (cA 0, 5, .inl f7)), (α12, .inl (cA 0, 5, .inl (upd (upd (upd (upd (fun _ => (0 : Int32)) 0 x4) 1 (f7 0)) 2 (f7 1)) 3 (f7 2))))]) C 2 rfl (by decide) rfl dL_act_450 ?_
  refine x_dup C dL_act_451 rfl ?_
  refine x_iconst (v := 4) C dL_act_452 (by decide) ?_
  refine x_iload C dL_act_453 rfl ?_
  refine xu_st (T' := [(δ, dCell sc D), (α7, .inl (cA 0, 5, .inl f7)), (α12, .inl (cA 0, 5, .inl (upd (upd (upd (upd (upd (fun _ => (0 : Int32)) 0 x4) 1 (f7 0)) 2 (f7 1)) 3 (f7 2)) 4 x8)))]) C 2 rfl (by decide) rfl dL_act_455 ?_
  obtain ⟨r13, hc14, hf⟩ := bs_bind hf
  obtain ⟨hk15, hf⟩ := bs_if hf
  refine xu_thrown C 2 rfl (by decide) hk15 (fun R2 q2 b h9 => cL_calls_9 hst h9 hc14 hk15.1) ⟨Nat.le_of_ble_eq_true rfl, Nat.le_of_ble_eq_true rfl⟩ ⟨by show (cl + 1) + 10 ≤ 369; omega, by show (sl + 5) + 60 ≤ 1238 + 122 * B; omega⟩ rfl (Nat.le_of_ble_eq_true rfl) dL_act_456 ?_
  refine x_widen (k := (cl + 11)) (n := (sl + 65)) (by show (cl + 1) + 10 ≤ _; omega) (by show (sl + 5) + 60 ≤ _; omega) ?_
  refine x_iconst (v := 3) C dL_act_459 (by decide) ?_
  refine x_icmp_ne (tgt := 467) C dL_act_460 (by decide) (fun h16 => ?_) (fun h16 => ?_)
  · replace hf := bs_neg h16 hf
    refine x_iconst (v := 0) C dL_act_467 (by decide) ?_
    obtain rfl := Option.some.inj hf
    refine xu_drop (T' := [(δ, dCell sc D)]) (sl_keep (List.Sublist.cons _ (List.Sublist.cons _ List.Sublist.slnil))) ?_
    exact x_xret C (bsZ01 (by decide)).1 ⟨rfl, rfl, σ, _, rfl, rfl⟩ (by show _ ≤ 369; omega) (by show _ ≤ 1238 + 122 * B; omega) dL_act_468
  · replace hf := bs_pos h16 hf
    refine x_iconst (v := 1) C dL_act_463 (by decide) ?_
    refine x_goto (tgt := 468) C dL_act_464 (by decide) ?_
    obtain rfl := Option.some.inj hf
    refine xu_drop (T' := [(δ, dCell sc D)]) (sl_keep (List.Sublist.cons _ (List.Sublist.cons _ List.Sublist.slnil))) ?_
    exact x_xret C (bsZ01 (by decide)).1 ⟨rfl, rfl, σ, _, rfl, rfl⟩ (by show _ ≤ 369; omega) (by show _ ≤ 1238 + 122 * B; omega) dL_act_468
