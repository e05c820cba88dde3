set_option maxHeartbeats 4000000 in
set_option maxRecDepth 100000 in
theorem qL_act_376 {p : Program} {l : Launch} {e : Env} {s : State} {m : MethodId} {args : Array Value} {below : List Frame} {meth : Method} {c : Code} {ρ : bsR} {sc L : Nat} {xs : Nat → Int32} {cA : Nat → ClassId} {dC : Nat → ClassId} {dI : Nat → Nat → Nat} {A : Nat → Prop} {Ts : List Cond} {σ : xA2} {F : va_W} {B : Nat} {δ : Nat} {z : (Int32 × bsX × pY × Nat)} (C : xCx p m c cL_act 10 s args Ts RL ρ sc L xs cA dC dI A meth (some .boolean)) (hst : l.stackTraces = false)  : ∀ (x4 : Int32) (q6 : Nat) (f0 : (Nat → Int32)) (y2 : Int32) (y3 : Int32) (X : bsX) (Z : pY) (D : Nat) (θ : xA2) (α0 : Nat) (cl sl : Nat), q6 < ln Z → cl + ((21)) ≤ 369 → sl + ((124)) ≤ 1238 + 122 * B → hL_act_376 xs L B x4 q6 f0 y2 y3 X Z D = some z → xV p l e (rmL_act B) s m args below meth c cl sl (MQ below (xQi ρ cA dC dI A (fun r X' R' => r = z.1 ∧ X' = z.2.1 ∧ ∃ σ' θ' : xA2, σ' 0 0 = σ 0 0 ∧ R' = lwWs σ' θ' cA z.2.2.1 ++ (F ++ [(δ, dCell sc z.2.2.2)]))) args s (rmL_act B).cells (rmL_act B).slots A) ρ cA dC dI A (lwWs σ θ cA Z ++ (F ++ [(δ, dCell sc D), (α0, .inl (cA 0, 5, .inl f0))])) 10 376 [(0, .ref (ρ 13 0 0)), (1, .ref (σ 0 0)), (2, .ref δ), (4, .int x4), (6, .ref (σ 5 q6))] [.int y3, .int y2, .ref α0, .ref α0] X := by
  intro x4 q6 f0 y2 y3 X Z D θ α0 cl sl hq6 hcl hsl hf
  rw [hL_act_376] at hf
  obtain ⟨hg17, hf⟩ := bs_if hf
  refine xu_st (T' := [(δ, dCell sc D), (α0, .inl (cA 0, 5, .inl (upd f0 (bsIx y2) y3)))]) C 1 rfl hg17 rfl dL_act_376 ?_
  refine x_dup C dL_act_377 rfl ?_
  refine x_iconst (v := 3) C dL_act_378 (by decide) ?_
  refine x_iconst (v := 0) C dL_act_379 (by decide) ?_
  refine xu_st (T' := [(δ, dCell sc D), (α0, .inl (cA 0, 5, .inl (upd (upd f0 (bsIx y2) y3) 3 (0 : Int32))))]) C 1 rfl (by decide) rfl dL_act_380 ?_
  refine x_dup C dL_act_381 rfl ?_
  refine x_iconst (v := 4) C dL_act_382 (by decide) ?_
  refine x_iconst (v := 0) C dL_act_383 (by decide) ?_
  refine xu_st (T' := [(δ, dCell sc D), (α0, .inl (cA 0, 5, .inl (upd (upd (upd f0 (bsIx y2) y3) 3 (0 : Int32)) 4 (0 : Int32))))]) C 1 rfl (by decide) rfl dL_act_384 ?_
  refine x_astore (lv' := [(7, .ref α0), (0, .ref (ρ 13 0 0)), (1, .ref (σ 0 0)), (2, .ref δ), (4, .int x4), (6, .ref (σ 5 q6))]) C dL_act_385 (by decide) rfl ?_
  refine x_aload_n C dL_act_387 rfl rfl ?_
  refine x_iconst (v := 1) C dL_act_388 (by decide) ?_
  refine x_bipush (v := 9) C dL_act_389 (by decide) ?_
  obtain ⟨hg20, hf⟩ := bs_if hf
  refine xu_next (T' := [(δ, dCell sc (D + 1)), (α0, .inl (cA 0, 5, .inl (upd (upd (upd f0 (bsIx y2) y3) 3 (0 : Int32)) 4 (0 : Int32))))]) (As := [.int (1 : Int32), .int (9 : Int32)]) (rest := []) (at0 := D) (lo := (1 : Int32)) (hi := (9 : Int32)) C 0 rfl rfl (by decide) hg20 ml_L_198 rfl ⟨Nat.le_of_ble_eq_true rfl, Nat.le_of_ble_eq_true rfl⟩ ⟨by show (cl) ≤ 369; omega, by show (sl) ≤ 1238 + 122 * B; omega⟩ rfl (Nat.le_of_ble_eq_true rfl) dL_act_391 ?_
  refine x_istore (lv' := [(8, .int (dVal xs L D (1 : Int32) (9 : Int32))), (7, .ref α0), (0, .ref (ρ 13 0 0)), (1, .ref (σ 0 0)), (2, .ref δ), (4, .int x4), (6, .ref (σ 5 q6))]) C dL_act_394 (by decide) rfl ?_
  refine x_aload_n C dL_act_396 rfl rfl ?_
  refine xg_L_148 C dL_act_397 ?_
  refine x_if_eq (tgt := 419) C dL_act_400 (by decide) (fun h36 => ?_) (fun h36 => ?_)
  · replace hf := bs_pos h36 hf
    refine x_sub [2, 5, 1, 0] rfl ?_
    exact qL_act_419  C hst  _ _ _ _ _ _ _ _ _ _  (by omega) (by omega) hf
  · replace hf := bs_neg h36 hf
    refine x_aload_n C dL_act_403 rfl rfl ?_
    refine xg_L_185 C dL_act_404 ?_
    refine x_if_ge (tgt := 419) C dL_act_407 (by decide) (fun h35 => ?_) (fun h35 => ?_)
    · replace hf := bs_pos h35 hf
      refine x_sub [2, 5, 1, 0] rfl ?_
      exact qL_act_419  C hst  _ _ _ _ _ _ _ _ _ _  (by omega) (by omega) hf
    · replace hf := bs_neg h35 hf
      refine x_aload_n C dL_act_410 rfl rfl ?_
      refine xg_L_151 C dL_act_411 ?_
      refine x_iload C dL_act_414 rfl ?_
      refine x_icmp_ne (tgt := 469) C dL_act_416 (by decide) (fun h34 => ?_) (fun h34 => ?_)
      · replace hf := bs_neg h34 hf
        refine x_aload C dL_act_469 rfl ?_
        obtain ⟨q0, he⟩ := xr_plc (Z := Z) σ θ cA (F ++ [(δ, dCell sc (D + 1)), (α0, .inl (cA 0, 5, .inl (upd (upd (upd f0 (bsIx y2) y3) 3 (0 : Int32)) 4 (0 : Int32))))]) hq6
        refine x_callVv (y := yX10_empties) (As := []) (rest := []) C (cX10_empties_ok hq6) ml_L_209 wyX10_empties he rfl dpX10_empties ⟨Nat.le_of_ble_eq_true rfl, Nat.le_of_ble_eq_true rfl⟩ ⟨by show (cl) + 1 ≤ 369; omega, by show (sl) + 5 ≤ 1238 + 122 * B; omega⟩ rfl (Nat.le_of_ble_eq_true rfl) dL_act_471 (fun X' R' hp => ?_)
        obtain ⟨hXX, θ, rfl⟩ := hp
        rw [hXX]
        clear hXX he
        refine x_widen (k := (cl + 1)) (n := (sl + 5)) (by show (cl) + 1 ≤ _; omega) (by show (sl) + 5 ≤ _; omega) ?_
        refine x_aload_n C dL_act_474 rfl rfl ?_
        refine x_iload C dL_act_475 rfl ?_
        refine xp_L_185 C dL_act_477 ?_
        refine x_aload_n C dL_act_480 rfl rfl ?_
        refine x_iload C dL_act_481 rfl ?_
        refine xp_L_188 C dL_act_483 ?_
        refine x_sub [2, 3, 5, 1, 0] rfl ?_
        refine x_aload_n C dL_act_486 rfl rfl ?_
        refine x_aload C dL_act_487 rfl ?_
        refine xu_same (T' := [(δ, dCell sc (D + 1)), (α0, .inl (cA 0, 5, .inl (fun i => (zCom (upd (upd (upd f0 (bsIx y2) y3) 3 (0 : Int32)) 4 (0 : Int32)) (wr (wr (zEmp q6 Z) 2 0 1 x4) 2 0 2 (dVal xs L D (1 : Int32) (9 : Int32)))) 13 0 (i + 1))))]) 1 rfl (cell_I (fun i hi => zCom_img hi)) rfl ?_
        obtain ⟨q0, hq, he⟩ := lw_at (σ := σ) (θ := θ) (cA := cA) (Z := (wr (wr (zEmp q6 Z) 2 0 1 x4) 2 0 2 (dVal xs L D (1 : Int32) (9 : Int32)))) (K := 0) (j := 0) (lwK_mem.mpr (Or.inl ⟨by decide, rfl⟩)) (F ++ [(δ, dCell sc (D + 1)), (α0, .inl (cA 0, 5, .inl (fun i => (zCom (upd (upd (upd f0 (bsIx y2) y3) 3 (0 : Int32)) 4 (0 : Int32)) (wr (wr (zEmp q6 Z) 2 0 1 x4) 2 0 2 (dVal xs L D (1 : Int32) (9 : Int32)))) 13 0 (i + 1))))])
        refine x_putN C (N := 15) (k := 13) (T := TX11) (Cn := RX11) (ref := "BootSlotsLaw$World") (host := "BootSlotsLaw") (fs := lwF0 σ θ (wr (wr (zEmp q6 Z) 2 0 1 x4) 2 0 2 (dVal xs L D (1 : Int32) (9 : Int32)))) (ty := .array .int) he rfl bsin_X11 tyX11 tyX11_ok nmX11 (by decide) (by decide +kernel) rfl rfl rfl rfl rfl (Nat.le_of_ble_eq_true rfl) (show _ = (lwWs σ θ cA (wr (wr (zEmp q6 Z) 2 0 1 x4) 2 0 2 (dVal xs L D (1 : Int32) (9 : Int32)))).set q0 (σ 0 0, .inr (13, (lwF0 σ θ (wr (wr (zEmp q6 Z) 2 0 1 x4) 2 0 2 (dVal xs L D (1 : Int32) (9 : Int32)))).set 13 (.ref α0))) ++ ((F ++ [(δ, dCell sc (D + 1))]) ++ [(α0, .inl (cA 0, 5, .inl (fun i => (zCom (upd (upd (upd f0 (bsIx y2) y3) 3 (0 : Int32)) 4 (0 : Int32)) (wr (wr (zEmp q6 Z) 2 0 1 x4) 2 0 2 (dVal xs L D (1 : Int32) (9 : Int32)))) 13 0 (i + 1))))]) from by rw [List.set_append, if_pos (by have := (List.getElem?_eq_some_iff.mp hq).1; simpa [lwWs] using this), List.append_assoc]; rfl) dL_act_489 ?_
        refine x_newCom hq (fun σ2 h4 hs2 => ?_)
        clear he hq
        subst h4
        rw [← hs2 0 0 (by decide)]
        revert hs2
        revert σ2
        intro σ hs2
        refine x_aload_n C dL_act_492 rfl rfl ?_
        refine x_bipush (v := 9) C dL_act_493 (by decide) ?_
        refine x_iconst (v := 5) C dL_act_495 (by decide) ?_
        refine xu_newi (c1 := (cl + 2)) (s1 := (sl + 10)) (N := 5) C (by decide) (by decide) (by decide) ⟨by show _ ≤ 369; omega, by show _ ≤ 1238 + 122 * B; omega⟩ (by omega) (by omega) dL_act_496 (fun α25 => ?_)
        show xV p l e (rmL_act B) s m args below meth c (cl + 2) (sl + 10) (MQ below (xQi ρ cA dC dI A (fun r X' R' => r = z.1 ∧ X' = z.2.1 ∧ ∃ σ' θ' : xA2, σ' 0 0 = σ 0 0 ∧ R' = lwWs σ' θ' cA z.2.2.1 ++ (F ++ [(δ, dCell sc z.2.2.2)]))) args s (rmL_act B).cells (rmL_act B).slots A) ρ cA dC dI A (lwWs σ θ cA (zCom (upd (upd (upd f0 (bsIx y2) y3) 3 (0 : Int32)) 4 (0 : Int32)) (wr (wr (zEmp q6 Z) 2 0 1 x4) 2 0 2 (dVal xs L D (1 : Int32) (9 : Int32)))) ++ (F ++ [(δ, dCell sc (D + 1)), (α25, .inl (cA 0, 5, .inl (fun _ => (0 : Int32))))])) 10 498 [(0, .ref (ρ 13 0 0)), (1, .ref (σ 0 0)), (4, .int x4), (7, .ref (σ 4 0)), (8, .int (dVal xs L D (1 : Int32) (9 : Int32)))] [.ref α25, .int (9 : Int32), .ref (ρ 13 0 0)] X
        refine x_dup C dL_act_498 rfl ?_
        refine x_iconst (v := 0) C dL_act_499 (by decide) ?_
        refine x_iload C dL_act_500 rfl ?_
        refine xu_st (T' := [(δ, dCell sc (D + 1)), (α25, .inl (cA 0, 5, .inl (upd (fun _ => (0 : Int32)) 0 x4)))]) C 1 rfl (by decide) rfl dL_act_502 ?_
        refine x_dup C dL_act_503 rfl ?_
        refine x_iconst (v := 1) C dL_act_504 (by decide) ?_
        refine x_bipush (v := 100) C dL_act_505 (by decide) ?_
        refine xu_st (T' := [(δ, dCell sc (D + 1)), (α25, .inl (cA 0, 5, .inl (upd (upd (fun _ => (0 : Int32)) 0 x4) 1 (100 : Int32))))]) C 1 rfl (by decide) rfl dL_act_507 ?_
        refine x_dup C dL_act_508 rfl ?_
        refine x_iconst (v := 2) C dL_act_509 (by decide) ?_
        refine x_iconst (v := 1) C dL_act_510 (by decide) ?_
        refine xu_st (T' := [(δ, dCell sc (D + 1)), (α25, .inl (cA 0, 5, .inl (upd (upd (upd (fun _ => (0 : Int32)) 0 x4) 1 (100 : Int32)) 2 (1 : Int32))))]) C 1 rfl (by decide) rfl dL_act_511 ?_
        refine x_dup C dL_act_512 rfl ?_
        refine x_iconst (v := 3) C dL_act_513 (by decide) ?_
        refine x_iconst (v := 0) C dL_act_514 (by decide) ?_
        refine xu_st (T' := [(δ, dCell sc (D + 1)), (α25, .inl (cA 0, 5, .inl (upd (upd (upd (upd (fun _ => (0 : Int32)) 0 x4) 1 (100 : Int32)) 2 (1 : Int32)) 3 (0 : Int32))))]) C 1 rfl (by decide) rfl dL_act_515 ?_
        refine x_dup C dL_act_516 rfl ?_
        refine x_iconst (v := 4) C dL_act_517 (by decide) ?_
        refine x_iconst (v := 1) C dL_act_518 (by decide) ?_
        refine xu_st (T' := [(δ, dCell sc (D + 1)), (α25, .inl (cA 0, 5, .inl (upd (upd (upd (upd (upd (fun _ => (0 : Int32)) 0 x4) 1 (100 : Int32)) 2 (1 : Int32)) 3 (0 : Int32)) 4 (1 : Int32))))]) C 1 rfl (by decide) rfl dL_act_519 ?_
        obtain ⟨r26, hc27, hf⟩ := bs_bind hf
        obtain ⟨hk28, hf⟩ := bs_if hf
        refine xu_thrown C 1 rfl (by decide) hk28 (fun R2 q2 b h9 => cL_calls_9 hst h9 hc27 hk28.1) ⟨Nat.le_of_ble_eq_true rfl, Nat.le_of_ble_eq_true rfl⟩ ⟨by show (cl + 2) + 10 ≤ 369; omega, by show (sl + 10) + 60 ≤ 1238 + 122 * B; omega⟩ rfl (Nat.le_of_ble_eq_true rfl) dL_act_520 ?_
        refine x_widen (k := (cl + 12)) (n := (sl + 70)) (by show (cl + 2) + 10 ≤ _; omega) (by show (sl + 10) + 60 ≤ _; omega) ?_
        refine x_iconst (v := 3) C dL_act_523 (by decide) ?_
        refine x_icmp_ne (tgt := 561) C dL_act_524 (by decide) (fun h33 => ?_) (fun h33 => ?_)
        · replace hf := bs_neg h33 hf
          refine x_iconst (v := 0) C dL_act_561 (by decide) ?_
          obtain rfl := Option.some.inj hf
          refine xu_drop (T' := [(δ, dCell sc (D + 1))]) (sl_keep (List.Sublist.cons _ List.Sublist.slnil)) ?_
          exact x_xret C (bsZ01 (by decide)).1 ⟨rfl, rfl, σ, _, rfl, rfl⟩ (by show _ ≤ 369; omega) (by show _ ≤ 1238 + 122 * B; omega) dL_act_562
        · replace hf := bs_pos h33 hf
          refine x_aload_n C dL_act_527 rfl rfl ?_
          refine x_iload C dL_act_528 rfl ?_
          refine x_aload C dL_act_530 rfl ?_
          refine x_iconst (v := 0) C dL_act_532 (by decide) ?_
          refine xl_com C (by decide) dL_act_533 ?_
          refine x_aload C dL_act_534 rfl ?_
          refine x_iconst (v := 1) C dL_act_536 (by decide) ?_
          refine xl_com C (by decide) dL_act_537 ?_
          refine x_aload C dL_act_538 rfl ?_
          refine x_iconst (v := 2) C dL_act_540 (by decide) ?_
          refine xl_com C (by decide) dL_act_541 ?_
          refine x_iload C dL_act_542 rfl ?_
          obtain ⟨r29, hc30, hf⟩ := bs_bind hf
          obtain ⟨h031, hf⟩ := bs_if hf
          refine x_callT (y := yX8_begin) (As := [.int x4, .int ((zCom (upd (upd (upd f0 (bsIx y2) y3) 3 (0 : Int32)) 4 (0 : Int32)) (wr (wr (zEmp q6 Z) 2 0 1 x4) 2 0 2 (dVal xs L D (1 : Int32) (9 : Int32)))) 13 0 1), .int ((zCom (upd (upd (upd f0 (bsIx y2) y3) 3 (0 : Int32)) 4 (0 : Int32)) (wr (wr (zEmp q6 Z) 2 0 1 x4) 2 0 2 (dVal xs L D (1 : Int32) (9 : Int32)))) 13 0 2), .int ((zCom (upd (upd (upd f0 (bsIx y2) y3) 3 (0 : Int32)) 4 (0 : Int32)) (wr (wr (zEmp q6 Z) 2 0 1 x4) 2 0 2 (dVal xs L D (1 : Int32) (9 : Int32)))) 13 0 3), .int (dVal xs L D (1 : Int32) (9 : Int32))]) (rest := []) C (cX8_begin_ok hst hc30) h031 ml_L_61 wyX8_begin bsm_X8 bsc_X8 rfl dpX8_begin ⟨Nat.le_of_ble_eq_true rfl, Nat.le_of_ble_eq_true rfl⟩ ⟨by show (cl + 12) + 9 ≤ 369; omega, by show (sl + 70) + 54 ≤ 1238 + 122 * B; omega⟩ rfl (Nat.le_of_ble_eq_true rfl) dL_act_544 ?_
          refine x_widen (k := (cl + 21)) (n := (sl + 124)) (by show (cl + 12) + 9 ≤ _; omega) (by show (sl + 70) + 54 ≤ _; omega) ?_
          refine x_aload_n C dL_act_547 rfl rfl ?_
          refine xg_L_133 C dL_act_548 ?_
          refine x_iload C dL_act_551 rfl ?_
          refine x_iadd C dL_act_553 ?_
          refine x_icmp_ne (tgt := 561) C dL_act_554 (by decide) (fun h32 => ?_) (fun h32 => ?_)
          · replace hf := bs_neg h32 hf
            refine x_iconst (v := 0) C dL_act_561 (by decide) ?_
            obtain rfl := Option.some.inj hf
            refine xu_drop (T' := [(δ, dCell sc (D + 1))]) (sl_keep (List.Sublist.cons _ List.Sublist.slnil)) ?_
            exact x_xret C (bsZ01 (by decide)).1 ⟨rfl, rfl, σ, _, rfl, rfl⟩ (by show _ ≤ 369; omega) (by show _ ≤ 1238 + 122 * B; omega) dL_act_562
          · replace hf := bs_pos h32 hf
            refine x_iconst (v := 1) C dL_act_557 (by decide) ?_
            refine x_goto (tgt := 562) C dL_act_558 (by decide) ?_
            obtain rfl := Option.some.inj hf
            refine xu_drop (T' := [(δ, dCell sc (D + 1))]) (sl_keep (List.Sublist.cons _ List.Sublist.slnil)) ?_
            exact x_xret C (bsZ01 (by decide)).1 ⟨rfl, rfl, σ, _, rfl, rfl⟩ (by show _ ≤ 369; omega) (by show _ ≤ 1238 + 122 * B; omega) dL_act_562
      · replace hf := bs_pos h34 hf
        refine x_sub [2, 5, 1, 0] rfl ?_
        exact qL_act_419  C hst  _ _ _ _ _ _ _ _ _ _  (by omega) (by omega) hf
set_option maxHeartbeats 4000000 in
set_option maxRecDepth 100000 in
theorem qL_act_331 {p : Program} {l : Launch} {e : Env} {s : State} {m : MethodId} {args : Array Value} {below : List Frame} {meth : Method} {c : Code} {ρ : bsR} {sc L : Nat} {xs : Nat → Int32} {cA : Nat → ClassId} {dC : Nat → ClassId} {dI : Nat → Nat → Nat} {A : Nat → Prop} {Ts : List Cond} {σ : xA2} {F : va_W} {B : Nat} {δ : Nat} {z : (Int32 × bsX × pY × Nat)} (C : xCx p m c cL_act 10 s args Ts RL ρ sc L xs cA dC dI A meth (some .boolean)) (hst : l.stackTraces = false)  : ∀ (x4 : Int32) (q6 : Nat) (X : bsX) (Z : pY) (D : Nat) (θ : xA2) (cl sl : Nat), q6 < ln Z → cl + ((22)) ≤ 369 → sl + ((129)) ≤ 1238 + 122 * B → hL_act_331 xs L B x4 q6 X Z D = some z → xV p l e (rmL_act B) s m args below meth c cl sl (MQ below (xQi ρ cA dC dI A (fun r X' R' => r = z.1 ∧ X' = z.2.1 ∧ ∃ σ' θ' : xA2, σ' 0 0 = σ 0 0 ∧ R' = lwWs σ' θ' cA z.2.2.1 ++ (F ++ [(δ, dCell sc z.2.2.2)]))) args s (rmL_act B).cells (rmL_act B).slots A) ρ cA dC dI A (lwWs σ θ cA Z ++ (F ++ [(δ, dCell sc D)])) 10 331 [(0, .ref (ρ 13 0 0)), (1, .ref (σ 0 0)), (2, .ref δ), (4, .int x4), (6, .ref (σ 5 q6))] [] X := by
  intro x4 q6 X Z D θ cl sl hq6 hcl hsl hf
  rw [hL_act_331] at hf
  refine x_iconst (v := 5) C dL_act_331 (by decide) ?_
  refine xu_newi (c1 := (cl + 1)) (s1 := (sl + 5)) (N := 5) C (by decide) (by decide) (by decide) ⟨by show _ ≤ 369; omega, by show _ ≤ 1238 + 122 * B; omega⟩ (by omega) (by omega) dL_act_332 (fun α144 => ?_)
  show xV p l e (rmL_act B) s m args below meth c (cl + 1) (sl + 5) (MQ below (xQi ρ cA dC dI A (fun r X' R' => r = z.1 ∧ X' = z.2.1 ∧ ∃ σ' θ' : xA2, σ' 0 0 = σ 0 0 ∧ R' = lwWs σ' θ' cA z.2.2.1 ++ (F ++ [(δ, dCell sc z.2.2.2)]))) args s (rmL_act B).cells (rmL_act B).slots A) ρ cA dC dI A (lwWs σ θ cA Z ++ (F ++ [(δ, dCell sc D), (α144, .inl (cA 0, 5, .inl (fun _ => (0 : Int32))))])) 10 334 [(0, .ref (ρ 13 0 0)), (1, .ref (σ 0 0)), (2, .ref δ), (4, .int x4), (6, .ref (σ 5 q6))] [.ref α144] X
  refine x_dup C dL_act_334 rfl ?_
  refine x_iconst (v := 0) C dL_act_335 (by decide) ?_
  refine x_aload_n C dL_act_336 rfl rfl ?_
  refine x_iconst (v := 0) C dL_act_337 (by decide) ?_
  refine x_bipush (v := 40) C dL_act_338 (by decide) ?_
  obtain ⟨hg147, hf⟩ := bs_if hf
  refine xu_next (T' := [(δ, dCell sc (D + 1)), (α144, .inl (cA 0, 5, .inl (fun _ => (0 : Int32))))]) (As := [.int (0 : Int32), .int (40 : Int32)]) (rest := [.int (0 : Int32), .ref α144, .ref α144]) (at0 := D) (lo := (0 : Int32)) (hi := (40 : Int32)) C 0 rfl rfl (by decide) hg147 ml_L_198 rfl ⟨Nat.le_of_ble_eq_true rfl, Nat.le_of_ble_eq_true rfl⟩ ⟨by show (cl + 1) ≤ 369; omega, by show (sl + 5) ≤ 1238 + 122 * B; omega⟩ rfl (Nat.le_of_ble_eq_true rfl) dL_act_340 ?_
  refine xu_st (T' := [(δ, dCell sc (D + 1)), (α144, .inl (cA 0, 5, .inl (upd (fun _ => (0 : Int32)) 0 (dVal xs L D (0 : Int32) (40 : Int32)))))]) C 1 rfl (by decide) rfl dL_act_343 ?_
  refine x_dup C dL_act_344 rfl ?_
  refine x_iconst (v := 1) C dL_act_345 (by decide) ?_
  refine x_aload_n C dL_act_346 rfl rfl ?_
  refine x_iconst (v := 1) C dL_act_347 (by decide) ?_
  refine x_bipush (v := 9) C dL_act_348 (by decide) ?_
  obtain ⟨hg150, hf⟩ := bs_if hf
  refine xu_next (T' := [(δ, dCell sc ((D + 1) + 1)), (α144, .inl (cA 0, 5, .inl (upd (fun _ => (0 : Int32)) 0 (dVal xs L D (0 : Int32) (40 : Int32)))))]) (As := [.int (1 : Int32), .int (9 : Int32)]) (rest := [.int (1 : Int32), .ref α144, .ref α144]) (at0 := (D + 1)) (lo := (1 : Int32)) (hi := (9 : Int32)) C 0 rfl rfl (by decide) hg150 ml_L_198 rfl ⟨Nat.le_of_ble_eq_true rfl, Nat.le_of_ble_eq_true rfl⟩ ⟨by show (cl + 1) ≤ 369; omega, by show (sl + 5) ≤ 1238 + 122 * B; omega⟩ rfl (Nat.le_of_ble_eq_true rfl) dL_act_350 ?_
  refine xu_st (T' := [(δ, dCell sc ((D + 1) + 1)), (α144, .inl (cA 0, 5, .inl (upd (upd (fun _ => (0 : Int32)) 0 (dVal xs L D (0 : Int32) (40 : Int32))) 1 (dVal xs L (D + 1) (1 : Int32) (9 : Int32)))))]) C 1 rfl (by decide) rfl dL_act_353 ?_
  refine x_dup C dL_act_354 rfl ?_
  refine x_iconst (v := 2) C dL_act_355 (by decide) ?_
  refine x_aload_n C dL_act_356 rfl rfl ?_
  refine x_iconst (v := 0) C dL_act_357 (by decide) ?_
  refine x_iconst (v := 1) C dL_act_358 (by decide) ?_
  obtain ⟨hg153, hf⟩ := bs_if hf
  refine xu_next (T' := [(δ, dCell sc (((D + 1) + 1) + 1)), (α144, .inl (cA 0, 5, .inl (upd (upd (fun _ => (0 : Int32)) 0 (dVal xs L D (0 : Int32) (40 : Int32))) 1 (dVal xs L (D + 1) (1 : Int32) (9 : Int32)))))]) (As := [.int (0 : Int32), .int (1 : Int32)]) (rest := [.int (2 : Int32), .ref α144, .ref α144]) (at0 := ((D + 1) + 1)) (lo := (0 : Int32)) (hi := (1 : Int32)) C 0 rfl rfl (by decide) hg153 ml_L_198 rfl ⟨Nat.le_of_ble_eq_true rfl, Nat.le_of_ble_eq_true rfl⟩ ⟨by show (cl + 1) ≤ 369; omega, by show (sl + 5) ≤ 1238 + 122 * B; omega⟩ rfl (Nat.le_of_ble_eq_true rfl) dL_act_359 ?_
  refine x_if_ne (tgt := 369) C dL_act_362 (by decide) (fun h157 => ?_) (fun h157 => ?_)
  · replace hf := bs_neg h157 hf
    refine x_aload_n C dL_act_369 rfl rfl ?_
    refine x_iconst (v := 0) C dL_act_370 (by decide) ?_
    refine x_bipush (v := 12) C dL_act_371 (by decide) ?_
    obtain ⟨hg156, hf⟩ := bs_if hf
    refine xu_next (T' := [(δ, dCell sc ((((D + 1) + 1) + 1) + 1)), (α144, .inl (cA 0, 5, .inl (upd (upd (fun _ => (0 : Int32)) 0 (dVal xs L D (0 : Int32) (40 : Int32))) 1 (dVal xs L (D + 1) (1 : Int32) (9 : Int32)))))]) (As := [.int (0 : Int32), .int (12 : Int32)]) (rest := [.int (2 : Int32), .ref α144, .ref α144]) (at0 := (((D + 1) + 1) + 1)) (lo := (0 : Int32)) (hi := (12 : Int32)) C 0 rfl rfl (by decide) hg156 ml_L_198 rfl ⟨Nat.le_of_ble_eq_true rfl, Nat.le_of_ble_eq_true rfl⟩ ⟨by show (cl + 1) ≤ 369; omega, by show (sl + 5) ≤ 1238 + 122 * B; omega⟩ rfl (Nat.le_of_ble_eq_true rfl) dL_act_373 ?_
    refine x_sub [0, 1, 2, 3, 4] rfl ?_
    exact qL_act_376  C hst  _ _ _ _ _ _ _ _ _ _ _ _ hq6 (by omega) (by omega) hf
  · replace hf := bs_pos h157 hf
    refine x_iconst (v := 0) C dL_act_365 (by decide) ?_
    refine x_goto (tgt := 376) C dL_act_366 (by decide) ?_
    refine x_sub [0, 1, 2, 3, 4] rfl ?_
    exact qL_act_376  C hst  _ _ _ _ _ _ _ _ _ _ _ _ hq6 (by omega) (by omega) hf
set_option maxHeartbeats 4000000 in
set_option maxRecDepth 100000 in
theorem qL_act_623 {p : Program} {l : Launch} {e : Env} {s : State} {m : MethodId} {args : Array Value} {below : List Frame} {meth : Method} {c : Code} {ρ : bsR} {sc L : Nat} {xs : Nat → Int32} {cA : Nat → ClassId} {dC : Nat → ClassId} {dI : Nat → Nat → Nat} {A : Nat → Prop} {Ts : List Cond} {σ : xA2} {F : va_W} {B : Nat} {δ : Nat} {z : (Int32 × bsX × pY × Nat)} (C : xCx p m c cL_act 10 s args Ts RL ρ sc L xs cA dC dI A meth (some .boolean)) (hst : l.stackTraces = false)  : ∀ (x4 : Int32) (q6 : Nat) (x7 : Int32) (X : bsX) (Z : pY) (D : Nat) (θ : xA2) (cl sl : Nat), q6 < ln Z → cl + ((15)) ≤ 369 → sl + ((86)) ≤ 1238 + 122 * B → hL_act_623 xs L B x4 q6 x7 X Z D = some z → xV p l e (rmL_act B) s m args below meth c cl sl (MQ below (xQi ρ cA dC dI A (fun r X' R' => r = z.1 ∧ X' = z.2.1 ∧ ∃ σ' θ' : xA2, σ' 0 0 = σ 0 0 ∧ R' = lwWs σ' θ' cA z.2.2.1 ++ (F ++ [(δ, dCell sc z.2.2.2)]))) args s (rmL_act B).cells (rmL_act B).slots A) ρ cA dC dI A (lwWs σ θ cA Z ++ (F ++ [(δ, dCell sc D)])) 10 623 [(0, .ref (ρ 13 0 0)), (1, .ref (σ 0 0)), (2, .ref δ), (4, .int x4), (6, .ref (σ 5 q6)), (7, .int x7)] [] X := by
  intro x4 q6 x7 X Z D θ cl sl hq6 hcl hsl hf
  rw [hL_act_623] at hf
  refine x_aload_n C dL_act_623 rfl rfl ?_
  refine xg_L_185 C dL_act_624 ?_
  refine x_iload C dL_act_627 rfl ?_
  refine x_icmp_ne (tgt := 639) C dL_act_629 (by decide) (fun h242 => ?_) (fun h242 => ?_)
  · replace hf := bs_neg h242 hf
    refine x_aload C dL_act_639 rfl ?_
    refine xg_L_183 C hq6 dL_act_641 ?_
    refine x_astore (lv' := [(8, .ref (θ 6 q6)), (0, .ref (ρ 13 0 0)), (1, .ref (σ 0 0)), (2, .ref δ), (4, .int x4), (6, .ref (σ 5 q6)), (7, .int x7)]) C dL_act_644 (by decide) rfl ?_
    refine x_iload C dL_act_646 rfl ?_
    refine x_iconst (v := 1) C dL_act_648 (by decide) ?_
    refine x_icmp_eq (tgt := 657) C dL_act_649 (by decide) (fun h199 => ?_) (fun h199 => ?_)
    · replace hf := bs_pos h199 hf
      refine x_iload C dL_act_657 rfl ?_
      refine x_if_eq (tgt := 667) C dL_act_659 (by decide) (fun h177 => ?_) (fun h177 => ?_)
      · replace hf := bs_pos h177 hf
        refine x_aload_n C dL_act_667 rfl rfl ?_
        refine x_bipush (v := 10) C dL_act_668 (by decide) ?_
        refine x_iconst (v := 2) C dL_act_670 (by decide) ?_
        refine xu_newi (c1 := (cl + 1)) (s1 := (sl + 2)) (N := 2) C (by decide) (by decide) (by decide) ⟨by show _ ≤ 369; omega, by show _ ≤ 1238 + 122 * B; omega⟩ (by omega) (by omega) dL_act_671 (fun α158 => ?_)
        show xV p l e (rmL_act B) s m args below meth c (cl + 1) (sl + 2) (MQ below (xQi ρ cA dC dI A (fun r X' R' => r = z.1 ∧ X' = z.2.1 ∧ ∃ σ' θ' : xA2, σ' 0 0 = σ 0 0 ∧ R' = lwWs σ' θ' cA z.2.2.1 ++ (F ++ [(δ, dCell sc z.2.2.2)]))) args s (rmL_act B).cells (rmL_act B).slots A) ρ cA dC dI A (lwWs σ θ cA Z ++ (F ++ [(δ, dCell sc D), (α158, .inl (cA 0, 2, .inl (fun _ => (0 : Int32))))])) 10 673 [(8, .ref (θ 6 q6)), (0, .ref (ρ 13 0 0)), (1, .ref (σ 0 0)), (2, .ref δ), (4, .int x4), (6, .ref (σ 5 q6)), (7, .int x7)] [.ref α158, .int (10 : Int32), .ref (ρ 13 0 0)] X
        refine x_dup C dL_act_673 rfl ?_
        refine x_iconst (v := 0) C dL_act_674 (by decide) ?_
        refine x_iload C dL_act_675 rfl ?_
        refine xu_st (T' := [(δ, dCell sc D), (α158, .inl (cA 0, 2, .inl (upd (fun _ => (0 : Int32)) 0 x4)))]) C 1 rfl (by decide) rfl dL_act_677 ?_
        refine x_dup C dL_act_678 rfl ?_
        refine x_iconst (v := 1) C dL_act_679 (by decide) ?_
        refine x_iconst (v := 3) C dL_act_680 (by decide) ?_
        refine xu_st (T' := [(δ, dCell sc D), (α158, .inl (cA 0, 2, .inl (upd (upd (fun _ => (0 : Int32)) 0 x4) 1 (3 : Int32))))]) C 1 rfl (by decide) rfl dL_act_681 ?_
        obtain ⟨r159, hc160, hf⟩ := bs_bind hf
        obtain ⟨hk161, hf⟩ := bs_if hf
        refine xu_thrown C 1 rfl (by decide) hk161 (fun R2 q2 b h9 => cL_calls_10 hst h9 hc160 hk161.1) ⟨Nat.le_of_ble_eq_true rfl, Nat.le_of_ble_eq_true rfl⟩ ⟨by show (cl + 1) + 10 ≤ 369; omega, by show (sl + 2) + 60 ≤ 1238 + 122 * B; omega⟩ rfl (Nat.le_of_ble_eq_true rfl) dL_act_682 ?_
        refine x_widen (k := (cl + 11)) (n := (sl + 62)) (by show (cl + 1) + 10 ≤ _; omega) (by show (sl + 2) + 60 ≤ _; omega) ?_
        refine x_iconst (v := 3) C dL_act_685 (by decide) ?_
        refine x_icmp_ne (tgt := 715) C dL_act_686 (by decide) (fun h166 => ?_) (fun h166 => ?_)
        · replace hf := bs_neg h166 hf
          refine x_iconst (v := 0) C dL_act_715 (by decide) ?_
          obtain rfl := Option.some.inj hf
          refine xu_drop (T' := [(δ, dCell sc D)]) (sl_keep (List.Sublist.cons _ List.Sublist.slnil)) ?_
          exact x_xret C (bsZ01 (by decide)).1 ⟨rfl, rfl, σ, _, rfl, rfl⟩ (by show _ ≤ 369; omega) (by show _ ≤ 1238 + 122 * B; omega) dL_act_716
        · replace hf := bs_pos h166 hf
          refine x_aload_n C dL_act_689 rfl rfl ?_
          refine x_iload C dL_act_690 rfl ?_
          refine x_iload C dL_act_692 rfl ?_
          obtain ⟨r162, hc163, hf⟩ := bs_bind hf
          obtain ⟨h0164, hf⟩ := bs_if hf
          refine x_callT (y := yX8_spoil) (As := [.int x4, .int x7]) (rest := []) C (cX8_spoil_ok hst hc163) h0164 ml_L_64 wyX8_spoil bsm_X8 bsc_X8 rfl dpX8_spoil ⟨Nat.le_of_ble_eq_true rfl, Nat.le_of_ble_eq_true rfl⟩ ⟨by show (cl + 11) + 4 ≤ 369; omega, by show (sl + 62) + 24 ≤ 1238 + 122 * B; omega⟩ rfl (Nat.le_of_ble_eq_true rfl) dL_act_694 ?_
          refine x_widen (k := (cl + 15)) (n := (sl + 86)) (by show (cl + 11) + 4 ≤ _; omega) (by show (sl + 62) + 24 ≤ _; omega) ?_
          refine x_aload C dL_act_697 rfl ?_
          refine x_iconst (v := 3) C dL_act_699 (by decide) ?_
          refine xl_img C hq6 (by decide) dL_act_700 ?_
          refine x_iconst (v := 2) C dL_act_701 (by decide) ?_
          refine x_aload C dL_act_702 rfl ?_
          refine x_iconst (v := 4) C dL_act_704 (by decide) ?_
          refine xl_img C hq6 (by decide) dL_act_705 ?_
          refine x_imul C dL_act_706 ?_
          refine x_iadd C dL_act_707 ?_
          refine x_icmp_ne (tgt := 715) C dL_act_708 (by decide) (fun h165 => ?_) (fun h165 => ?_)
          · replace hf := bs_neg h165 hf
            refine x_iconst (v := 0) C dL_act_715 (by decide) ?_
            obtain rfl := Option.some.inj hf
            refine xu_drop (T' := [(δ, dCell sc D)]) (sl_keep (List.Sublist.cons _ List.Sublist.slnil)) ?_
            exact x_xret C (bsZ01 (by decide)).1 ⟨rfl, rfl, σ, _, rfl, rfl⟩ (by show _ ≤ 369; omega) (by show _ ≤ 1238 + 122 * B; omega) dL_act_716
          · replace hf := bs_pos h165 hf
            refine x_iconst (v := 1) C dL_act_711 (by decide) ?_
            refine x_goto (tgt := 716) C dL_act_712 (by decide) ?_
            obtain rfl := Option.some.inj hf
            refine xu_drop (T' := [(δ, dCell sc D)]) (sl_keep (List.Sublist.cons _ List.Sublist.slnil)) ?_
            exact x_xret C (bsZ01 (by decide)).1 ⟨rfl, rfl, σ, _, rfl, rfl⟩ (by show _ ≤ 369; omega) (by show _ ≤ 1238 + 122 * B; omega) dL_act_716
      · replace hf := bs_neg h177 hf
        refine x_aload C dL_act_662 rfl ?_
        refine x_iconst (v := 4) C dL_act_664 (by decide) ?_
        refine x_iconst (v := 1) C dL_act_665 (by decide) ?_
        refine xs_img C hq6 (by decide) dL_act_666 ?_
        refine x_aload_n C dL_act_667 rfl rfl ?_
        refine x_bipush (v := 10) C dL_act_668 (by decide) ?_
        refine x_iconst (v := 2) C dL_act_670 (by decide) ?_
        refine xu_newi (c1 := (cl + 1)) (s1 := (sl + 2)) (N := 2) C (by decide) (by decide) (by decide) ⟨by show _ ≤ 369; omega, by show _ ≤ 1238 + 122 * B; omega⟩ (by omega) (by omega) dL_act_671 (fun α168 => ?_)
        show xV p l e (rmL_act B) s m args below meth c (cl + 1) (sl + 2) (MQ below (xQi ρ cA dC dI A (fun r X' R' => r = z.1 ∧ X' = z.2.1 ∧ ∃ σ' θ' : xA2, σ' 0 0 = σ 0 0 ∧ R' = lwWs σ' θ' cA z.2.2.1 ++ (F ++ [(δ, dCell sc z.2.2.2)]))) args s (rmL_act B).cells (rmL_act B).slots A) ρ cA dC dI A (lwWs σ θ cA (wr Z 6 q6 5 (1 : Int32)) ++ (F ++ [(δ, dCell sc D), (α168, .inl (cA 0, 2, .inl (fun _ => (0 : Int32))))])) 10 673 [(8, .ref (θ 6 q6)), (0, .ref (ρ 13 0 0)), (1, .ref (σ 0 0)), (2, .ref δ), (4, .int x4), (6, .ref (σ 5 q6)), (7, .int x7)] [.ref α168, .int (10 : Int32), .ref (ρ 13 0 0)] X
        refine x_dup C dL_act_673 rfl ?_
        refine x_iconst (v := 0) C dL_act_674 (by decide) ?_
        refine x_iload C dL_act_675 rfl ?_
        refine xu_st (T' := [(δ, dCell sc D), (α168, .inl (cA 0, 2, .inl (upd (fun _ => (0 : Int32)) 0 x4)))]) C 1 rfl (by decide) rfl dL_act_677 ?_
        refine x_dup C dL_act_678 rfl ?_
        refine x_iconst (v := 1) C dL_act_679 (by decide) ?_
        refine x_iconst (v := 3) C dL_act_680 (by decide) ?_
        refine xu_st (T' := [(δ, dCell sc D), (α168, .inl (cA 0, 2, .inl (upd (upd (fun _ => (0 : Int32)) 0 x4) 1 (3 : Int32))))]) C 1 rfl (by decide) rfl dL_act_681 ?_
        obtain ⟨r169, hc170, hf⟩ := bs_bind hf
        obtain ⟨hk171, hf⟩ := bs_if hf
        refine xu_thrown C 1 rfl (by decide) hk171 (fun R2 q2 b h9 => cL_calls_10 hst h9 hc170 hk171.1) ⟨Nat.le_of_ble_eq_true rfl, Nat.le_of_ble_eq_true rfl⟩ ⟨by show (cl + 1) + 10 ≤ 369; omega, by show (sl + 2) + 60 ≤ 1238 + 122 * B; omega⟩ rfl (Nat.le_of_ble_eq_true rfl) dL_act_682 ?_
        refine x_widen (k := (cl + 11)) (n := (sl + 62)) (by show (cl + 1) + 10 ≤ _; omega) (by show (sl + 2) + 60 ≤ _; omega) ?_
        refine x_iconst (v := 3) C dL_act_685 (by decide) ?_
        refine x_icmp_ne (tgt := 715) C dL_act_686 (by decide) (fun h176 => ?_) (fun h176 => ?_)
        · replace hf := bs_neg h176 hf
          refine x_iconst (v := 0) C dL_act_715 (by decide) ?_
          obtain rfl := Option.some.inj hf
          refine xu_drop (T' := [(δ, dCell sc D)]) (sl_keep (List.Sublist.cons _ List.Sublist.slnil)) ?_
          exact x_xret C (bsZ01 (by decide)).1 ⟨rfl, rfl, σ, _, rfl, rfl⟩ (by show _ ≤ 369; omega) (by show _ ≤ 1238 + 122 * B; omega) dL_act_716
        · replace hf := bs_pos h176 hf
          refine x_aload_n C dL_act_689 rfl rfl ?_
          refine x_iload C dL_act_690 rfl ?_
          refine x_iload C dL_act_692 rfl ?_
          obtain ⟨r172, hc173, hf⟩ := bs_bind hf
          obtain ⟨h0174, hf⟩ := bs_if hf
          refine x_callT (y := yX8_spoil) (As := [.int x4, .int x7]) (rest := []) C (cX8_spoil_ok hst hc173) h0174 ml_L_64 wyX8_spoil bsm_X8 bsc_X8 rfl dpX8_spoil ⟨Nat.le_of_ble_eq_true rfl, Nat.le_of_ble_eq_true rfl⟩ ⟨by show (cl + 11) + 4 ≤ 369; omega, by show (sl + 62) + 24 ≤ 1238 + 122 * B; omega⟩ rfl (Nat.le_of_ble_eq_true rfl) dL_act_694 ?_
          refine x_widen (k := (cl + 15)) (n := (sl + 86)) (by show (cl + 11) + 4 ≤ _; omega) (by show (sl + 62) + 24 ≤ _; omega) ?_
          refine x_aload C dL_act_697 rfl ?_
          refine x_iconst (v := 3) C dL_act_699 (by decide) ?_
          refine xl_img C (ln_lt hq6 (by omega)) (by decide) dL_act_700 ?_
          refine x_iconst (v := 2) C dL_act_701 (by decide) ?_
          refine x_aload C dL_act_702 rfl ?_
          refine x_iconst (v := 4) C dL_act_704 (by decide) ?_
          refine xl_img C (ln_lt hq6 (by omega)) (by decide) dL_act_705 ?_
          refine x_imul C dL_act_706 ?_
          refine x_iadd C dL_act_707 ?_
          refine x_icmp_ne (tgt := 715) C dL_act_708 (by decide) (fun h175 => ?_) (fun h175 => ?_)
          · replace hf := bs_neg h175 hf
            refine x_iconst (v := 0) C dL_act_715 (by decide) ?_
            obtain rfl := Option.some.inj hf
            refine xu_drop (T' := [(δ, dCell sc D)]) (sl_keep (List.Sublist.cons _ List.Sublist.slnil)) ?_
            exact x_xret C (bsZ01 (by decide)).1 ⟨rfl, rfl, σ, _, rfl, rfl⟩ (by show _ ≤ 369; omega) (by show _ ≤ 1238 + 122 * B; omega) dL_act_716
          · replace hf := bs_pos h175 hf
            refine x_iconst (v := 1) C dL_act_711 (by decide) ?_
            refine x_goto (tgt := 716) C dL_act_712 (by decide) ?_
            obtain rfl := Option.some.inj hf
            refine xu_drop (T' := [(δ, dCell sc D)]) (sl_keep (List.Sublist.cons _ List.Sublist.slnil)) ?_
            exact x_xret C (bsZ01 (by decide)).1 ⟨rfl, rfl, σ, _, rfl, rfl⟩ (by show _ ≤ 369; omega) (by show _ ≤ 1238 + 122 * B; omega) dL_act_716
    · replace hf := bs_neg h199 hf
      refine x_aload C dL_act_652 rfl ?_
      refine x_iconst (v := 3) C dL_act_654 (by decide) ?_
      refine x_iconst (v := 1) C dL_act_655 (by decide) ?_
      refine xs_img C hq6 (by decide) dL_act_656 ?_
      refine x_iload C dL_act_657 rfl ?_
      refine x_if_eq (tgt := 667) C dL_act_659 (by decide) (fun h198 => ?_) (fun h198 => ?_)
      · replace hf := bs_pos h198 hf
        refine x_aload_n C dL_act_667 rfl rfl ?_
        refine x_bipush (v := 10) C dL_act_668 (by decide) ?_
        refine x_iconst (v := 2) C dL_act_670 (by decide) ?_
        refine xu_newi (c1 := (cl + 1)) (s1 := (sl + 2)) (N := 2) C (by decide) (by decide) (by decide) ⟨by show _ ≤ 369; omega, by show _ ≤ 1238 + 122 * B; omega⟩ (by omega) (by omega) dL_act_671 (fun α179 => ?_)
        show xV p l e (rmL_act B) s m args below meth c (cl + 1) (sl + 2) (MQ below (xQi ρ cA dC dI A (fun r X' R' => r = z.1 ∧ X' = z.2.1 ∧ ∃ σ' θ' : xA2, σ' 0 0 = σ 0 0 ∧ R' = lwWs σ' θ' cA z.2.2.1 ++ (F ++ [(δ, dCell sc z.2.2.2)]))) args s (rmL_act B).cells (rmL_act B).slots A) ρ cA dC dI A (lwWs σ θ cA (wr Z 6 q6 4 (1 : Int32)) ++ (F ++ [(δ, dCell sc D), (α179, .inl (cA 0, 2, .inl (fun _ => (0 : Int32))))])) 10 673 [(8, .ref (θ 6 q6)), (0, .ref (ρ 13 0 0)), (1, .ref (σ 0 0)), (2, .ref δ), (4, .int x4), (6, .ref (σ 5 q6)), (7, .int x7)] [.ref α179, .int (10 : Int32), .ref (ρ 13 0 0)] X
        refine x_dup C dL_act_673 rfl ?_
        refine x_iconst (v := 0) C dL_act_674 (by decide) ?_
        refine x_iload C dL_act_675 rfl ?_
        refine xu_st (T' := [(δ, dCell sc D), (α179, .inl (cA 0, 2, .inl (upd (fun _ => (0 : Int32)) 0 x4)))]) C 1 rfl (by decide) rfl dL_act_677 ?_
        refine x_dup C dL_act_678 rfl ?_
        refine x_iconst (v := 1) C dL_act_679 (by decide) ?_
        refine x_iconst (v := 3) C dL_act_680 (by decide) ?_
        refine xu_st (T' := [(δ, dCell sc D), (α179, .inl (cA 0, 2, .inl (upd (upd (fun _ => (0 : Int32)) 0 x4) 1 (3 : Int32))))]) C 1 rfl (by decide) rfl dL_act_681 ?_
        obtain ⟨r180, hc181, hf⟩ := bs_bind hf
        obtain ⟨hk182, hf⟩ := bs_if hf
        refine xu_thrown C 1 rfl (by decide) hk182 (fun R2 q2 b h9 => cL_calls_10 hst h9 hc181 hk182.1) ⟨Nat.le_of_ble_eq_true rfl, Nat.le_of_ble_eq_true rfl⟩ ⟨by show (cl + 1) + 10 ≤ 369; omega, by show (sl + 2) + 60 ≤ 1238 + 122 * B; omega⟩ rfl (Nat.le_of_ble_eq_true rfl) dL_act_682 ?_
        refine x_widen (k := (cl + 11)) (n := (sl + 62)) (by show (cl + 1) + 10 ≤ _; omega) (by show (sl + 2) + 60 ≤ _; omega) ?_
        refine x_iconst (v := 3) C dL_act_685 (by decide) ?_
        refine x_icmp_ne (tgt := 715) C dL_act_686 (by decide) (fun h187 => ?_) (fun h187 => ?_)
        · replace hf := bs_neg h187 hf
          refine x_iconst (v := 0) C dL_act_715 (by decide) ?_
          obtain rfl := Option.some.inj hf
          refine xu_drop (T' := [(δ, dCell sc D)]) (sl_keep (List.Sublist.cons _ List.Sublist.slnil)) ?_
          exact x_xret C (bsZ01 (by decide)).1 ⟨rfl, rfl, σ, _, rfl, rfl⟩ (by show _ ≤ 369; omega) (by show _ ≤ 1238 + 122 * B; omega) dL_act_716
        · replace hf := bs_pos h187 hf
          refine x_aload_n C dL_act_689 rfl rfl ?_
          refine x_iload C dL_act_690 rfl ?_
          refine x_iload C dL_act_692 rfl ?_
          obtain ⟨r183, hc184, hf⟩ := bs_bind hf
          obtain ⟨h0185, hf⟩ := bs_if hf
          refine x_callT (y := yX8_spoil) (As := [.int x4, .int x7]) (rest := []) C (cX8_spoil_ok hst hc184) h0185 ml_L_64 wyX8_spoil bsm_X8 bsc_X8 rfl dpX8_spoil ⟨Nat.le_of_ble_eq_true rfl, Nat.le_of_ble_eq_true rfl⟩ ⟨by show (cl + 11) + 4 ≤ 369; omega, by show (sl + 62) + 24 ≤ 1238 + 122 * B; omega⟩ rfl (Nat.le_of_ble_eq_true rfl) dL_act_694 ?_
          refine x_widen (k := (cl + 15)) (n := (sl + 86)) (by show (cl + 11) + 4 ≤ _; omega) (by show (sl + 62) + 24 ≤ _; omega) ?_
          refine x_aload C dL_act_697 rfl ?_
          refine x_iconst (v := 3) C dL_act_699 (by decide) ?_
          refine xl_img C (ln_lt hq6 (by omega)) (by decide) dL_act_700 ?_
          refine x_iconst (v := 2) C dL_act_701 (by decide) ?_
          refine x_aload C dL_act_702 rfl ?_
          refine x_iconst (v := 4) C dL_act_704 (by decide) ?_
          refine xl_img C (ln_lt hq6 (by omega)) (by decide) dL_act_705 ?_
          refine x_imul C dL_act_706 ?_
          refine x_iadd C dL_act_707 ?_
          refine x_icmp_ne (tgt := 715) C dL_act_708 (by decide) (fun h186 => ?_) (fun h186 => ?_)
          · replace hf := bs_neg h186 hf
            refine x_iconst (v := 0) C dL_act_715 (by decide) ?_
            obtain rfl := Option.some.inj hf
            refine xu_drop (T' := [(δ, dCell sc D)]) (sl_keep (List.Sublist.cons _ List.Sublist.slnil)) ?_
            exact x_xret C (bsZ01 (by decide)).1 ⟨rfl, rfl, σ, _, rfl, rfl⟩ (by show _ ≤ 369; omega) (by show _ ≤ 1238 + 122 * B; omega) dL_act_716
          · replace hf := bs_pos h186 hf
            refine x_iconst (v := 1) C dL_act_711 (by decide) ?_
            refine x_goto (tgt := 716) C dL_act_712 (by decide) ?_
            obtain rfl := Option.some.inj hf
            refine xu_drop (T' := [(δ, dCell sc D)]) (sl_keep (List.Sublist.cons _ List.Sublist.slnil)) ?_
            exact x_xret C (bsZ01 (by decide)).1 ⟨rfl, rfl, σ, _, rfl, rfl⟩ (by show _ ≤ 369; omega) (by show _ ≤ 1238 + 122 * B; omega) dL_act_716
      · replace hf := bs_neg h198 hf
        refine x_aload C dL_act_662 rfl ?_
        refine x_iconst (v := 4) C dL_act_664 (by decide) ?_
        refine x_iconst (v := 1) C dL_act_665 (by decide) ?_
        refine xs_img C (ln_lt hq6 (by omega)) (by decide) dL_act_666 ?_
        refine x_aload_n C dL_act_667 rfl rfl ?_
        refine x_bipush (v := 10) C dL_act_668 (by decide) ?_
        refine x_iconst (v := 2) C dL_act_670 (by decide) ?_
        refine xu_newi (c1 := (cl + 1)) (s1 := (sl + 2)) (N := 2) C (by decide) (by decide) (by decide) ⟨by show _ ≤ 369; omega, by show _ ≤ 1238 + 122 * B; omega⟩ (by omega) (by omega) dL_act_671 (fun α189 => ?_)
        show xV p l e (rmL_act B) s m args below meth c (cl + 1) (sl + 2) (MQ below (xQi ρ cA dC dI A (fun r X' R' => r = z.1 ∧ X' = z.2.1 ∧ ∃ σ' θ' : xA2, σ' 0 0 = σ 0 0 ∧ R' = lwWs σ' θ' cA z.2.2.1 ++ (F ++ [(δ, dCell sc z.2.2.2)]))) args s (rmL_act B).cells (rmL_act B).slots A) ρ cA dC dI A (lwWs σ θ cA (wr (wr Z 6 q6 4 (1 : Int32)) 6 q6 5 (1 : Int32)) ++ (F ++ [(δ, dCell sc D), (α189, .inl (cA 0, 2, .inl (fun _ => (0 : Int32))))])) 10 673 [(8, .ref (θ 6 q6)), (0, .ref (ρ 13 0 0)), (1, .ref (σ 0 0)), (2, .ref δ), (4, .int x4), (6, .ref (σ 5 q6)), (7, .int x7)] [.ref α189, .int (10 : Int32), .ref (ρ 13 0 0)] X
        refine x_dup C dL_act_673 rfl ?_
        refine x_iconst (v := 0) C dL_act_674 (by decide) ?_
        refine x_iload C dL_act_675 rfl ?_
        refine xu_st (T' := [(δ, dCell sc D), (α189, .inl (cA 0, 2, .inl (upd (fun _ => (0 : Int32)) 0 x4)))]) C 1 rfl (by decide) rfl dL_act_677 ?_
        refine x_dup C dL_act_678 rfl ?_
        refine x_iconst (v := 1) C dL_act_679 (by decide) ?_
        refine x_iconst (v := 3) C dL_act_680 (by decide) ?_
        refine xu_st (T' := [(δ, dCell sc D), (α189, .inl (cA 0, 2, .inl (upd (upd (fun _ => (0 : Int32)) 0 x4) 1 (3 : Int32))))]) C 1 rfl (by decide) rfl dL_act_681 ?_
        obtain ⟨r190, hc191, hf⟩ := bs_bind hf
        obtain ⟨hk192, hf⟩ := bs_if hf
        refine xu_thrown C 1 rfl (by decide) hk192 (fun R2 q2 b h9 => cL_calls_10 hst h9 hc191 hk192.1) ⟨Nat.le_of_ble_eq_true rfl, Nat.le_of_ble_eq_true rfl⟩ ⟨by show (cl + 1) + 10 ≤ 369; omega, by show (sl + 2) + 60 ≤ 1238 + 122 * B; omega⟩ rfl (Nat.le_of_ble_eq_true rfl) dL_act_682 ?_
        refine x_widen (k := (cl + 11)) (n := (sl + 62)) (by show (cl + 1) + 10 ≤ _; omega) (by show (sl + 2) + 60 ≤ _; omega) ?_
        refine x_iconst (v := 3) C dL_act_685 (by decide) ?_
        refine x_icmp_ne (tgt := 715) C dL_act_686 (by decide) (fun h197 => ?_) (fun h197 => ?_)
        · replace hf := bs_neg h197 hf
          refine x_iconst (v := 0) C dL_act_715 (by decide) ?_
          obtain rfl := Option.some.inj hf
          refine xu_drop (T' := [(δ, dCell sc D)]) (sl_keep (List.Sublist.cons _ List.Sublist.slnil)) ?_
          exact x_xret C (bsZ01 (by decide)).1 ⟨rfl, rfl, σ, _, rfl, rfl⟩ (by show _ ≤ 369; omega) (by show _ ≤ 1238 + 122 * B; omega) dL_act_716
        · replace hf := bs_pos h197 hf
          refine x_aload_n C dL_act_689 rfl rfl ?_
          refine x_iload C dL_act_690 rfl ?_
          refine x_iload C dL_act_692 rfl ?_
          obtain ⟨r193, hc194, hf⟩ := bs_bind hf
          obtain ⟨h0195, hf⟩ := bs_if hf
          refine x_callT (y := yX8_spoil) (As := [.int x4, .int x7]) (rest := []) C (cX8_spoil_ok hst hc194) h0195 ml_L_64 wyX8_spoil bsm_X8 bsc_X8 rfl dpX8_spoil ⟨Nat.le_of_ble_eq_true rfl, Nat.le_of_ble_eq_true rfl⟩ ⟨by show (cl + 11) + 4 ≤ 369; omega, by show (sl + 62) + 24 ≤ 1238 + 122 * B; omega⟩ rfl (Nat.le_of_ble_eq_true rfl) dL_act_694 ?_
          refine x_widen (k := (cl + 15)) (n := (sl + 86)) (by show (cl + 11) + 4 ≤ _; omega) (by show (sl + 62) + 24 ≤ _; omega) ?_
          refine x_aload C dL_act_697 rfl ?_
          refine x_iconst (v := 3) C dL_act_699 (by decide) ?_
          refine xl_img C (ln_lt (ln_lt hq6 (by omega)) (by omega)) (by decide) dL_act_700 ?_
          refine x_iconst (v := 2) C dL_act_701 (by decide) ?_
          refine x_aload C dL_act_702 rfl ?_
          refine x_iconst (v := 4) C dL_act_704 (by decide) ?_
          refine xl_img C (ln_lt (ln_lt hq6 (by omega)) (by omega)) (by decide) dL_act_705 ?_
          refine x_imul C dL_act_706 ?_
          refine x_iadd C dL_act_707 ?_
          refine x_icmp_ne (tgt := 715) C dL_act_708 (by decide) (fun h196 => ?_) (fun h196 => ?_)
          · replace hf := bs_neg h196 hf
            refine x_iconst (v := 0) C dL_act_715 (by decide) ?_
            obtain rfl := Option.some.inj hf
            refine xu_drop (T' := [(δ, dCell sc D)]) (sl_keep (List.Sublist.cons _ List.Sublist.slnil)) ?_
            exact x_xret C (bsZ01 (by decide)).1 ⟨rfl, rfl, σ, _, rfl, rfl⟩ (by show _ ≤ 369; omega) (by show _ ≤ 1238 + 122 * B; omega) dL_act_716
          · replace hf := bs_pos h196 hf
            refine x_iconst (v := 1) C dL_act_711 (by decide) ?_
            refine x_goto (tgt := 716) C dL_act_712 (by decide) ?_
            obtain rfl := Option.some.inj hf
            refine xu_drop (T' := [(δ, dCell sc D)]) (sl_keep (List.Sublist.cons _ List.Sublist.slnil)) ?_
            exact x_xret C (bsZ01 (by decide)).1 ⟨rfl, rfl, σ, _, rfl, rfl⟩ (by show _ ≤ 369; omega) (by show _ ≤ 1238 + 122 * B; omega) dL_act_716
  · replace hf := bs_pos h242 hf
    refine x_aload_n C dL_act_632 rfl rfl ?_
    refine xg_L_191 C dL_act_633 ?_
    refine x_goto (tgt := 644) C dL_act_636 (by decide) ?_
    refine x_astore (lv' := [(8, .ref (σ 4 0)), (0, .ref (ρ 13 0 0)), (1, .ref (σ 0 0)), (2, .ref δ), (4, .int x4), (6, .ref (σ 5 q6)), (7, .int x7)]) C dL_act_644 (by decide) rfl ?_
    refine x_iload C dL_act_646 rfl ?_
    refine x_iconst (v := 1) C dL_act_648 (by decide) ?_
    refine x_icmp_eq (tgt := 657) C dL_act_649 (by decide) (fun h241 => ?_) (fun h241 => ?_)
    · replace hf := bs_pos h241 hf
      refine x_iload C dL_act_657 rfl ?_
      refine x_if_eq (tgt := 667) C dL_act_659 (by decide) (fun h219 => ?_) (fun h219 => ?_)
      · replace hf := bs_pos h219 hf
        refine x_aload_n C dL_act_667 rfl rfl ?_
        refine x_bipush (v := 10) C dL_act_668 (by decide) ?_
        refine x_iconst (v := 2) C dL_act_670 (by decide) ?_
        refine xu_newi (c1 := (cl + 1)) (s1 := (sl + 2)) (N := 2) C (by decide) (by decide) (by decide) ⟨by show _ ≤ 369; omega, by show _ ≤ 1238 + 122 * B; omega⟩ (by omega) (by omega) dL_act_671 (fun α200 => ?_)
        show xV p l e (rmL_act B) s m args below meth c (cl + 1) (sl + 2) (MQ below (xQi ρ cA dC dI A (fun r X' R' => r = z.1 ∧ X' = z.2.1 ∧ ∃ σ' θ' : xA2, σ' 0 0 = σ 0 0 ∧ R' = lwWs σ' θ' cA z.2.2.1 ++ (F ++ [(δ, dCell sc z.2.2.2)]))) args s (rmL_act B).cells (rmL_act B).slots A) ρ cA dC dI A (lwWs σ θ cA Z ++ (F ++ [(δ, dCell sc D), (α200, .inl (cA 0, 2, .inl (fun _ => (0 : Int32))))])) 10 673 [(8, .ref (σ 4 0)), (0, .ref (ρ 13 0 0)), (1, .ref (σ 0 0)), (2, .ref δ), (4, .int x4), (6, .ref (σ 5 q6)), (7, .int x7)] [.ref α200, .int (10 : Int32), .ref (ρ 13 0 0)] X
        refine x_dup C dL_act_673 rfl ?_
        refine x_iconst (v := 0) C dL_act_674 (by decide) ?_
        refine x_iload C dL_act_675 rfl ?_
        refine xu_st (T' := [(δ, dCell sc D), (α200, .inl (cA 0, 2, .inl (upd (fun _ => (0 : Int32)) 0 x4)))]) C 1 rfl (by decide) rfl dL_act_677 ?_
        refine x_dup C dL_act_678 rfl ?_
        refine x_iconst (v := 1) C dL_act_679 (by decide) ?_
        refine x_iconst (v := 3) C dL_act_680 (by decide) ?_
        refine xu_st (T' := [(δ, dCell sc D), (α200, .inl (cA 0, 2, .inl (upd (upd (fun _ => (0 : Int32)) 0 x4) 1 (3 : Int32))))]) C 1 rfl (by decide) rfl dL_act_681 ?_
        obtain ⟨r201, hc202, hf⟩ := bs_bind hf
        obtain ⟨hk203, hf⟩ := bs_if hf
        refine xu_thrown C 1 rfl (by decide) hk203 (fun R2 q2 b h9 => cL_calls_10 hst h9 hc202 hk203.1) ⟨Nat.le_of_ble_eq_true rfl, Nat.le_of_ble_eq_true rfl⟩ ⟨by show (cl + 1) + 10 ≤ 369; omega, by show (sl + 2) + 60 ≤ 1238 + 122 * B; omega⟩ rfl (Nat.le_of_ble_eq_true rfl) dL_act_682 ?_
        refine x_widen (k := (cl + 11)) (n := (sl + 62)) (by show (cl + 1) + 10 ≤ _; omega) (by show (sl + 2) + 60 ≤ _; omega) ?_
        refine x_iconst (v := 3) C dL_act_685 (by decide) ?_
        refine x_icmp_ne (tgt := 715) C dL_act_686 (by decide) (fun h208 => ?_) (fun h208 => ?_)
        · replace hf := bs_neg h208 hf
          refine x_iconst (v := 0) C dL_act_715 (by decide) ?_
          obtain rfl := Option.some.inj hf
          refine xu_drop (T' := [(δ, dCell sc D)]) (sl_keep (List.Sublist.cons _ List.Sublist.slnil)) ?_
          exact x_xret C (bsZ01 (by decide)).1 ⟨rfl, rfl, σ, _, rfl, rfl⟩ (by show _ ≤ 369; omega) (by show _ ≤ 1238 + 122 * B; omega) dL_act_716
        · replace hf := bs_pos h208 hf
          refine x_aload_n C dL_act_689 rfl rfl ?_
          refine x_iload C dL_act_690 rfl ?_
          refine x_iload C dL_act_692 rfl ?_
          obtain ⟨r204, hc205, hf⟩ := bs_bind hf
          obtain ⟨h0206, hf⟩ := bs_if hf
          refine x_callT (y := yX8_spoil) (As := [.int x4, .int x7]) (rest := []) C (cX8_spoil_ok hst hc205) h0206 ml_L_64 wyX8_spoil bsm_X8 bsc_X8 rfl dpX8_spoil ⟨Nat.le_of_ble_eq_true rfl, Nat.le_of_ble_eq_true rfl⟩ ⟨by show (cl + 11) + 4 ≤ 369; omega, by show (sl + 62) + 24 ≤ 1238 + 122 * B; omega⟩ rfl (Nat.le_of_ble_eq_true rfl) dL_act_694 ?_
          refine x_widen (k := (cl + 15)) (n := (sl + 86)) (by show (cl + 11) + 4 ≤ _; omega) (by show (sl + 62) + 24 ≤ _; omega) ?_
          refine x_aload C dL_act_697 rfl ?_
          refine x_iconst (v := 3) C dL_act_699 (by decide) ?_
          refine xl_com C (by decide) dL_act_700 ?_
          refine x_iconst (v := 2) C dL_act_701 (by decide) ?_
          refine x_aload C dL_act_702 rfl ?_
          refine x_iconst (v := 4) C dL_act_704 (by decide) ?_
          refine xl_com C (by decide) dL_act_705 ?_
          refine x_imul C dL_act_706 ?_
          refine x_iadd C dL_act_707 ?_
          refine x_icmp_ne (tgt := 715) C dL_act_708 (by decide) (fun h207 => ?_) (fun h207 => ?_)
          · replace hf := bs_neg h207 hf
            refine x_iconst (v := 0) C dL_act_715 (by decide) ?_
            obtain rfl := Option.some.inj hf
            refine xu_drop (T' := [(δ, dCell sc D)]) (sl_keep (List.Sublist.cons _ List.Sublist.slnil)) ?_
            exact x_xret C (bsZ01 (by decide)).1 ⟨rfl, rfl, σ, _, rfl, rfl⟩ (by show _ ≤ 369; omega) (by show _ ≤ 1238 + 122 * B; omega) dL_act_716
          · replace hf := bs_pos h207 hf
            refine x_iconst (v := 1) C dL_act_711 (by decide) ?_
            refine x_goto (tgt := 716) C dL_act_712 (by decide) ?_
            obtain rfl := Option.some.inj hf
            refine xu_drop (T' := [(δ, dCell sc D)]) (sl_keep (List.Sublist.cons _ List.Sublist.slnil)) ?_
            exact x_xret C (bsZ01 (by decide)).1 ⟨rfl, rfl, σ, _, rfl, rfl⟩ (by show _ ≤ 369; omega) (by show _ ≤ 1238 + 122 * B; omega) dL_act_716
      · replace hf := bs_neg h219 hf
        refine x_aload C dL_act_662 rfl ?_
        refine x_iconst (v := 4) C dL_act_664 (by decide) ?_
        refine x_iconst (v := 1) C dL_act_665 (by decide) ?_
        refine xs_com C (by decide) dL_act_666 ?_
        refine x_aload_n C dL_act_667 rfl rfl ?_
        refine x_bipush (v := 10) C dL_act_668 (by decide) ?_
        refine x_iconst (v := 2) C dL_act_670 (by decide) ?_
        refine xu_newi (c1 := (cl + 1)) (s1 := (sl + 2)) (N := 2) C (by decide) (by decide) (by decide) ⟨by show _ ≤ 369; omega, by show _ ≤ 1238 + 122 * B; omega⟩ (by omega) (by omega) dL_act_671 (fun α210 => ?_)
        show xV p l e (rmL_act B) s m args below meth c (cl + 1) (sl + 2) (MQ below (xQi ρ cA dC dI A (fun r X' R' => r = z.1 ∧ X' = z.2.1 ∧ ∃ σ' θ' : xA2, σ' 0 0 = σ 0 0 ∧ R' = lwWs σ' θ' cA z.2.2.1 ++ (F ++ [(δ, dCell sc z.2.2.2)]))) args s (rmL_act B).cells (rmL_act B).slots A) ρ cA dC dI A (lwWs σ θ cA (wr Z 13 0 5 (1 : Int32)) ++ (F ++ [(δ, dCell sc D), (α210, .inl (cA 0, 2, .inl (fun _ => (0 : Int32))))])) 10 673 [(8, .ref (σ 4 0)), (0, .ref (ρ 13 0 0)), (1, .ref (σ 0 0)), (2, .ref δ), (4, .int x4), (6, .ref (σ 5 q6)), (7, .int x7)] [.ref α210, .int (10 : Int32), .ref (ρ 13 0 0)] X
        refine x_dup C dL_act_673 rfl ?_
        refine x_iconst (v := 0) C dL_act_674 (by decide) ?_
        refine x_iload C dL_act_675 rfl ?_
        refine xu_st (T' := [(δ, dCell sc D), (α210, .inl (cA 0, 2, .inl (upd (fun _ => (0 : Int32)) 0 x4)))]) C 1 rfl (by decide) rfl dL_act_677 ?_
        refine x_dup C dL_act_678 rfl ?_
        refine x_iconst (v := 1) C dL_act_679 (by decide) ?_
        refine x_iconst (v := 3) C dL_act_680 (by decide) ?_
        refine xu_st (T' := [(δ, dCell sc D), (α210, .inl (cA 0, 2, .inl (upd (upd (fun _ => (0 : Int32)) 0 x4) 1 (3 : Int32))))]) C 1 rfl (by decide) rfl dL_act_681 ?_
        obtain ⟨r211, hc212, hf⟩ := bs_bind hf
        obtain ⟨hk213, hf⟩ := bs_if hf
        refine xu_thrown C 1 rfl (by decide) hk213 (fun R2 q2 b h9 => cL_calls_10 hst h9 hc212 hk213.1) ⟨Nat.le_of_ble_eq_true rfl, Nat.le_of_ble_eq_true rfl⟩ ⟨by show (cl + 1) + 10 ≤ 369; omega, by show (sl + 2) + 60 ≤ 1238 + 122 * B; omega⟩ rfl (Nat.le_of_ble_eq_true rfl) dL_act_682 ?_
        refine x_widen (k := (cl + 11)) (n := (sl + 62)) (by show (cl + 1) + 10 ≤ _; omega) (by show (sl + 2) + 60 ≤ _; omega) ?_
        refine x_iconst (v := 3) C dL_act_685 (by decide) ?_
        refine x_icmp_ne (tgt := 715) C dL_act_686 (by decide) (fun h218 => ?_) (fun h218 => ?_)
        · replace hf := bs_neg h218 hf
          refine x_iconst (v := 0) C dL_act_715 (by decide) ?_
          obtain rfl := Option.some.inj hf
          refine xu_drop (T' := [(δ, dCell sc D)]) (sl_keep (List.Sublist.cons _ List.Sublist.slnil)) ?_
          exact x_xret C (bsZ01 (by decide)).1 ⟨rfl, rfl, σ, _, rfl, rfl⟩ (by show _ ≤ 369; omega) (by show _ ≤ 1238 + 122 * B; omega) dL_act_716
        · replace hf := bs_pos h218 hf
          refine x_aload_n C dL_act_689 rfl rfl ?_
          refine x_iload C dL_act_690 rfl ?_
          refine x_iload C dL_act_692 rfl ?_
          obtain ⟨r214, hc215, hf⟩ := bs_bind hf
          obtain ⟨h0216, hf⟩ := bs_if hf
          refine x_callT (y := yX8_spoil) (As := [.int x4, .int x7]) (rest := []) C (cX8_spoil_ok hst hc215) h0216 ml_L_64 wyX8_spoil bsm_X8 bsc_X8 rfl dpX8_spoil ⟨Nat.le_of_ble_eq_true rfl, Nat.le_of_ble_eq_true rfl⟩ ⟨by show (cl + 11) + 4 ≤ 369; omega, by show (sl + 62) + 24 ≤ 1238 + 122 * B; omega⟩ rfl (Nat.le_of_ble_eq_true rfl) dL_act_694 ?_
          refine x_widen (k := (cl + 15)) (n := (sl + 86)) (by show (cl + 11) + 4 ≤ _; omega) (by show (sl + 62) + 24 ≤ _; omega) ?_
          refine x_aload C dL_act_697 rfl ?_
          refine x_iconst (v := 3) C dL_act_699 (by decide) ?_
          refine xl_com C (by decide) dL_act_700 ?_
          refine x_iconst (v := 2) C dL_act_701 (by decide) ?_
          refine x_aload C dL_act_702 rfl ?_
          refine x_iconst (v := 4) C dL_act_704 (by decide) ?_
          refine xl_com C (by decide) dL_act_705 ?_
          refine x_imul C dL_act_706 ?_
          refine x_iadd C dL_act_707 ?_
          refine x_icmp_ne (tgt := 715) C dL_act_708 (by decide) (fun h217 => ?_) (fun h217 => ?_)
          · replace hf := bs_neg h217 hf
            refine x_iconst (v := 0) C dL_act_715 (by decide) ?_
            obtain rfl := Option.some.inj hf
            refine xu_drop (T' := [(δ, dCell sc D)]) (sl_keep (List.Sublist.cons _ List.Sublist.slnil)) ?_
            exact x_xret C (bsZ01 (by decide)).1 ⟨rfl, rfl, σ, _, rfl, rfl⟩ (by show _ ≤ 369; omega) (by show _ ≤ 1238 + 122 * B; omega) dL_act_716
          · replace hf := bs_pos h217 hf
            refine x_iconst (v := 1) C dL_act_711 (by decide) ?_
            refine x_goto (tgt := 716) C dL_act_712 (by decide) ?_
            obtain rfl := Option.some.inj hf
            refine xu_drop (T' := [(δ, dCell sc D)]) (sl_keep (List.Sublist.cons _ List.Sublist.slnil)) ?_
            exact x_xret C (bsZ01 (by decide)).1 ⟨rfl, rfl, σ, _, rfl, rfl⟩ (by show _ ≤ 369; omega) (by show _ ≤ 1238 + 122 * B; omega) dL_act_716
    · replace hf := bs_neg h241 hf
      refine x_aload C dL_act_652 rfl ?_
      refine x_iconst (v := 3) C dL_act_654 (by decide) ?_
      refine x_iconst (v := 1) C dL_act_655 (by decide) ?_
      refine xs_com C (by decide) dL_act_656 ?_
      refine x_iload C dL_act_657 rfl ?_
      refine x_if_eq (tgt := 667) C dL_act_659 (by decide) (fun h240 => ?_) (fun h240 => ?_)
      · replace hf := bs_pos h240 hf
        refine x_aload_n C dL_act_667 rfl rfl ?_
        refine x_bipush (v := 10) C dL_act_668 (by decide) ?_
        refine x_iconst (v := 2) C dL_act_670 (by decide) ?_
        refine xu_newi (c1 := (cl + 1)) (s1 := (sl + 2)) (N := 2) C (by decide) (by decide) (by decide) ⟨by show _ ≤ 369; omega, by show _ ≤ 1238 + 122 * B; omega⟩ (by omega) (by omega) dL_act_671 (fun α221 => ?_)
        show xV p l e (rmL_act B) s m args below meth c (cl + 1) (sl + 2) (MQ below (xQi ρ cA dC dI A (fun r X' R' => r = z.1 ∧ X' = z.2.1 ∧ ∃ σ' θ' : xA2, σ' 0 0 = σ 0 0 ∧ R' = lwWs σ' θ' cA z.2.2.1 ++ (F ++ [(δ, dCell sc z.2.2.2)]))) args s (rmL_act B).cells (rmL_act B).slots A) ρ cA dC dI A (lwWs σ θ cA (wr Z 13 0 4 (1 : Int32)) ++ (F ++ [(δ, dCell sc D), (α221, .inl (cA 0, 2, .inl (fun _ => (0 : Int32))))])) 10 673 [(8, .ref (σ 4 0)), (0, .ref (ρ 13 0 0)), (1, .ref (σ 0 0)), (2, .ref δ), (4, .int x4), (6, .ref (σ 5 q6)), (7, .int x7)] [.ref α221, .int (10 : Int32), .ref (ρ 13 0 0)] X
        refine x_dup C dL_act_673 rfl ?_
        refine x_iconst (v := 0) C dL_act_674 (by decide) ?_
        refine x_iload C dL_act_675 rfl ?_
        refine xu_st (T' := [(δ, dCell sc D), (α221, .inl (cA 0, 2, .inl (upd (fun _ => (0 : Int32)) 0 x4)))]) C 1 rfl (by decide) rfl dL_act_677 ?_
        refine x_dup C dL_act_678 rfl ?_
        refine x_iconst (v := 1) C dL_act_679 (by decide) ?_
        refine x_iconst (v := 3) C dL_act_680 (by decide) ?_
        refine xu_st (T' := [(δ, dCell sc D), (α221, .inl (cA 0, 2, .inl (upd (upd (fun _ => (0 : Int32)) 0 x4) 1 (3 : Int32))))]) C 1 rfl (by decide) rfl dL_act_681 ?_
        obtain ⟨r222, hc223, hf⟩ := bs_bind hf
        obtain ⟨hk224, hf⟩ := bs_if hf
        refine xu_thrown C 1 rfl (by decide) hk224 (fun R2 q2 b h9 => cL_calls_10 hst h9 hc223 hk224.1) ⟨Nat.le_of_ble_eq_true rfl, Nat.le_of_ble_eq_true rfl⟩ ⟨by show (cl + 1) + 10 ≤ 369; omega, by show (sl + 2) + 60 ≤ 1238 + 122 * B; omega⟩ rfl (Nat.le_of_ble_eq_true rfl) dL_act_682 ?_
        refine x_widen (k := (cl + 11)) (n := (sl + 62)) (by show (cl + 1) + 10 ≤ _; omega) (by show (sl + 2) + 60 ≤ _; omega) ?_
        refine x_iconst (v := 3) C dL_act_685 (by decide) ?_
        refine x_icmp_ne (tgt := 715) C dL_act_686 (by decide) (fun h229 => ?_) (fun h229 => ?_)
        · replace hf := bs_neg h229 hf
          refine x_iconst (v := 0) C dL_act_715 (by decide) ?_
          obtain rfl := Option.some.inj hf
          refine xu_drop (T' := [(δ, dCell sc D)]) (sl_keep (List.Sublist.cons _ List.Sublist.slnil)) ?_
          exact x_xret C (bsZ01 (by decide)).1 ⟨rfl, rfl, σ, _, rfl, rfl⟩ (by show _ ≤ 369; omega) (by show _ ≤ 1238 + 122 * B; omega) dL_act_716
        · replace hf := bs_pos h229 hf
          refine x_aload_n C dL_act_689 rfl rfl ?_
          refine x_iload C dL_act_690 rfl ?_
          refine x_iload C dL_act_692 rfl ?_
          obtain ⟨r225, hc226, hf⟩ := bs_bind hf
          obtain ⟨h0227, hf⟩ := bs_if hf
          refine x_callT (y := yX8_spoil) (As := [.int x4, .int x7]) (rest := []) C (cX8_spoil_ok hst hc226) h0227 ml_L_64 wyX8_spoil bsm_X8 bsc_X8 rfl dpX8_spoil ⟨Nat.le_of_ble_eq_true rfl, Nat.le_of_ble_eq_true rfl⟩ ⟨by show (cl + 11) + 4 ≤ 369; omega, by show (sl + 62) + 24 ≤ 1238 + 122 * B; omega⟩ rfl (Nat.le_of_ble_eq_true rfl) dL_act_694 ?_
          refine x_widen (k := (cl + 15)) (n := (sl + 86)) (by show (cl + 11) + 4 ≤ _; omega) (by show (sl + 62) + 24 ≤ _; omega) ?_
          refine x_aload C dL_act_697 rfl ?_
          refine x_iconst (v := 3) C dL_act_699 (by decide) ?_
          refine xl_com C (by decide) dL_act_700 ?_
          refine x_iconst (v := 2) C dL_act_701 (by decide) ?_
          refine x_aload C dL_act_702 rfl ?_
          refine x_iconst (v := 4) C dL_act_704 (by decide) ?_
          refine xl_com C (by decide) dL_act_705 ?_
          refine x_imul C dL_act_706 ?_
          refine x_iadd C dL_act_707 ?_
          refine x_icmp_ne (tgt := 715) C dL_act_708 (by decide) (fun h228 => ?_) (fun h228 => ?_)
          · replace hf := bs_neg h228 hf
            refine x_iconst (v := 0) C dL_act_715 (by decide) ?_
            obtain rfl := Option.some.inj hf
            refine xu_drop (T' := [(δ, dCell sc D)]) (sl_keep (List.Sublist.cons _ List.Sublist.slnil)) ?_
            exact x_xret C (bsZ01 (by decide)).1 ⟨rfl, rfl, σ, _, rfl, rfl⟩ (by show _ ≤ 369; omega) (by show _ ≤ 1238 + 122 * B; omega) dL_act_716
          · replace hf := bs_pos h228 hf
            refine x_iconst (v := 1) C dL_act_711 (by decide) ?_
            refine x_goto (tgt := 716) C dL_act_712 (by decide) ?_
            obtain rfl := Option.some.inj hf
            refine xu_drop (T' := [(δ, dCell sc D)]) (sl_keep (List.Sublist.cons _ List.Sublist.slnil)) ?_
            exact x_xret C (bsZ01 (by decide)).1 ⟨rfl, rfl, σ, _, rfl, rfl⟩ (by show _ ≤ 369; omega) (by show _ ≤ 1238 + 122 * B; omega) dL_act_716
      · replace hf := bs_neg h240 hf
        refine x_aload C dL_act_662 rfl ?_
        refine x_iconst (v := 4) C dL_act_664 (by decide) ?_
        refine x_iconst (v := 1) C dL_act_665 (by decide) ?_
        refine xs_com C (by decide) dL_act_666 ?_
        refine x_aload_n C dL_act_667 rfl rfl ?_
        refine x_bipush (v := 10) C dL_act_668 (by decide) ?_
        refine x_iconst (v := 2) C dL_act_670 (by decide) ?_
        refine xu_newi (c1 := (cl + 1)) (s1 := (sl + 2)) (N := 2) C (by decide) (by decide) (by decide) ⟨by show _ ≤ 369; omega, by show _ ≤ 1238 + 122 * B; omega⟩ (by omega) (by omega) dL_act_671 (fun α231 => ?_)
        show xV p l e (rmL_act B) s m args below meth c (cl + 1) (sl + 2) (MQ below (xQi ρ cA dC dI A (fun r X' R' => r = z.1 ∧ X' = z.2.1 ∧ ∃ σ' θ' : xA2, σ' 0 0 = σ 0 0 ∧ R' = lwWs σ' θ' cA z.2.2.1 ++ (F ++ [(δ, dCell sc z.2.2.2)]))) args s (rmL_act B).cells (rmL_act B).slots A) ρ cA dC dI A (lwWs σ θ cA (wr (wr Z 13 0 4 (1 : Int32)) 13 0 5 (1 : Int32)) ++ (F ++ [(δ, dCell sc D), (α231, .inl (cA 0, 2, .inl (fun _ => (0 : Int32))))])) 10 673 [(8, .ref (σ 4 0)), (0, .ref (ρ 13 0 0)), (1, .ref (σ 0 0)), (2, .ref δ), (4, .int x4), (6, .ref (σ 5 q6)), (7, .int x7)] [.ref α231, .int (10 : Int32), .ref (ρ 13 0 0)] X
        refine x_dup C dL_act_673 rfl ?_
        refine x_iconst (v := 0) C dL_act_674 (by decide) ?_
        refine x_iload C dL_act_675 rfl ?_
        refine xu_st (T' := [(δ, dCell sc D), (α231, .inl (cA 0, 2, .inl (upd (fun _ => (0 : Int32)) 0 x4)))]) C 1 rfl (by decide) rfl dL_act_677 ?_
        refine x_dup C dL_act_678 rfl ?_
        refine x_iconst (v := 1) C dL_act_679 (by decide) ?_
        refine x_iconst (v := 3) C dL_act_680 (by decide) ?_
        refine xu_st (T' := [(δ, dCell sc D), (α231, .inl (cA 0, 2, .inl (upd (upd (fun _ => (0 : Int32)) 0 x4) 1 (3 : Int32))))]) C 1 rfl (by decide) rfl dL_act_681 ?_
        obtain ⟨r232, hc233, hf⟩ := bs_bind hf
        obtain ⟨hk234, hf⟩ := bs_if hf
        refine xu_thrown C 1 rfl (by decide) hk234 (fun R2 q2 b h9 => cL_calls_10 hst h9 hc233 hk234.1) ⟨Nat.le_of_ble_eq_true rfl, Nat.le_of_ble_eq_true rfl⟩ ⟨by show (cl + 1) + 10 ≤ 369; omega, by show (sl + 2) + 60 ≤ 1238 + 122 * B; omega⟩ rfl (Nat.le_of_ble_eq_true rfl) dL_act_682 ?_
        refine x_widen (k := (cl + 11)) (n := (sl + 62)) (by show (cl + 1) + 10 ≤ _; omega) (by show (sl + 2) + 60 ≤ _; omega) ?_
        refine x_iconst (v := 3) C dL_act_685 (by decide) ?_
        refine x_icmp_ne (tgt := 715) C dL_act_686 (by decide) (fun h239 => ?_) (fun h239 => ?_)
        · replace hf := bs_neg h239 hf
          refine x_iconst (v := 0) C dL_act_715 (by decide) ?_
          obtain rfl := Option.some.inj hf
          refine xu_drop (T' := [(δ, dCell sc D)]) (sl_keep (List.Sublist.cons _ List.Sublist.slnil)) ?_
          exact x_xret C (bsZ01 (by decide)).1 ⟨rfl, rfl, σ, _, rfl, rfl⟩ (by show _ ≤ 369; omega) (by show _ ≤ 1238 + 122 * B; omega) dL_act_716
        · replace hf := bs_pos h239 hf
          refine x_aload_n C dL_act_689 rfl rfl ?_
          refine x_iload C dL_act_690 rfl ?_
          refine x_iload C dL_act_692 rfl ?_
          obtain ⟨r235, hc236, hf⟩ := bs_bind hf
          obtain ⟨h0237, hf⟩ := bs_if hf
          refine x_callT (y := yX8_spoil) (As := [.int x4, .int x7]) (rest := []) C (cX8_spoil_ok hst hc236) h0237 ml_L_64 wyX8_spoil bsm_X8 bsc_X8 rfl dpX8_spoil ⟨Nat.le_of_ble_eq_true rfl, Nat.le_of_ble_eq_true rfl⟩ ⟨by show (cl + 11) + 4 ≤ 369; omega, by show (sl + 62) + 24 ≤ 1238 + 122 * B; omega⟩ rfl (Nat.le_of_ble_eq_true rfl) dL_act_694 ?_
          refine x_widen (k := (cl + 15)) (n := (sl + 86)) (by show (cl + 11) + 4 ≤ _; omega) (by show (sl + 62) + 24 ≤ _; omega) ?_
          refine x_aload C dL_act_697 rfl ?_
          refine x_iconst (v := 3) C dL_act_699 (by decide) ?_
          refine xl_com C (by decide) dL_act_700 ?_
          refine x_iconst (v := 2) C dL_act_701 (by decide) ?_
          refine x_aload C dL_act_702 rfl ?_
          refine x_iconst (v := 4) C dL_act_704 (by decide) ?_
          refine xl_com C (by decide) dL_act_705 ?_
          refine x_imul C dL_act_706 ?_
          refine x_iadd C dL_act_707 ?_
          refine x_icmp_ne (tgt := 715) C dL_act_708 (by decide) (fun h238 => ?_) (fun h238 => ?_)
          · replace hf := bs_neg h238 hf
            refine x_iconst (v := 0) C dL_act_715 (by decide) ?_
            obtain rfl := Option.some.inj hf
            refine xu_drop (T' := [(δ, dCell sc D)]) (sl_keep (List.Sublist.cons _ List.Sublist.slnil)) ?_
            exact x_xret C (bsZ01 (by decide)).1 ⟨rfl, rfl, σ, _, rfl, rfl⟩ (by show _ ≤ 369; omega) (by show _ ≤ 1238 + 122 * B; omega) dL_act_716
          · replace hf := bs_pos h238 hf
            refine x_iconst (v := 1) C dL_act_711 (by decide) ?_
            refine x_goto (tgt := 716) C dL_act_712 (by decide) ?_
            obtain rfl := Option.some.inj hf
            refine xu_drop (T' := [(δ, dCell sc D)]) (sl_keep (List.Sublist.cons _ List.Sublist.slnil)) ?_
            exact x_xret C (bsZ01 (by decide)).1 ⟨rfl, rfl, σ, _, rfl, rfl⟩ (by show _ ≤ 369; omega) (by show _ ≤ 1238 + 122 * B; omega) dL_act_716
set_option maxHeartbeats 4000000 in
set_option maxRecDepth 100000 in
theorem qL_act_1019 {p : Program} {l : Launch} {e : Env} {s : State} {m : MethodId} {args : Array Value} {below : List Frame} {meth : Method} {c : Code} {ρ : bsR} {sc L : Nat} {xs : Nat → Int32} {cA : Nat → ClassId} {dC : Nat → ClassId} {dI : Nat → Nat → Nat} {A : Nat → Prop} {Ts : List Cond} {σ : xA2} {F : va_W} {B : Nat} {δ : Nat} {z : (Int32 × bsX × pY × Nat)} (C : xCx p m c cL_act 10 s args Ts RL ρ sc L xs cA dC dI A meth (some .boolean)) (hst : l.stackTraces = false)  : ∀ (x7 : Int32) (x8 : Int32) (x9 : Int32) (X : bsX) (Z : pY) (D : Nat) (θ : xA2) (cl sl : Nat), cl + ((24)) ≤ 369 → sl + ((136)) ≤ 1238 + 122 * B → hL_act_1019 xs L B x7 x8 x9 X Z D = some z → xV p l e (rmL_act B) s m args below meth c cl sl (MQ below (xQi ρ cA dC dI A (fun r X' R' => r = z.1 ∧ X' = z.2.1 ∧ ∃ σ' θ' : xA2, σ' 0 0 = σ 0 0 ∧ R' = lwWs σ' θ' cA z.2.2.1 ++ (F ++ [(δ, dCell sc z.2.2.2)]))) args s (rmL_act B).cells (rmL_act B).slots A) ρ cA dC dI A (lwWs σ θ cA Z ++ (F ++ [(δ, dCell sc D)])) 10 1019 [(0, .ref (ρ 13 0 0)), (7, .int x7), (8, .int x8), (9, .int x9)] [] X := by
  intro x7 x8 x9 X Z D θ cl sl hcl hsl hf
  rw [hL_act_1019] at hf
  refine x_aload_n C dL_act_1019 rfl rfl ?_
  refine x_bipush (v := 13) C dL_act_1020 (by decide) ?_
  refine x_iconst (v := 2) C dL_act_1022 (by decide) ?_
  refine xu_newi (c1 := (cl + 1)) (s1 := (sl + 2)) (N := 2) C (by decide) (by decide) (by decide) ⟨by show _ ≤ 369; omega, by show _ ≤ 1238 + 122 * B; omega⟩ (by omega) (by omega) dL_act_1023 (fun α258 => ?_)
  show xV p l e (rmL_act B) s m args below meth c (cl + 1) (sl + 2) (MQ below (xQi ρ cA dC dI A (fun r X' R' => r = z.1 ∧ X' = z.2.1 ∧ ∃ σ' θ' : xA2, σ' 0 0 = σ 0 0 ∧ R' = lwWs σ' θ' cA z.2.2.1 ++ (F ++ [(δ, dCell sc z.2.2.2)]))) args s (rmL_act B).cells (rmL_act B).slots A) ρ cA dC dI A (lwWs σ θ cA Z ++ (F ++ [(δ, dCell sc D), (α258, .inl (cA 0, 2, .inl (fun _ => (0 : Int32))))])) 10 1025 [(0, .ref (ρ 13 0 0)), (7, .int x7), (8, .int x8), (9, .int x9)] [.ref α258, .int (13 : Int32), .ref (ρ 13 0 0)] X
  refine x_dup C dL_act_1025 rfl ?_
  refine x_iconst (v := 0) C dL_act_1026 (by decide) ?_
  refine x_bipush (v := 6) C dL_act_1027 (by decide) ?_
  refine xu_st (T' := [(δ, dCell sc D), (α258, .inl (cA 0, 2, .inl (upd (fun _ => (0 : Int32)) 0 (6 : Int32))))]) C 1 rfl (by decide) rfl dL_act_1029 ?_
  refine x_dup C dL_act_1030 rfl ?_
  refine x_iconst (v := 1) C dL_act_1031 (by decide) ?_
  refine x_iconst (v := 1) C dL_act_1032 (by decide) ?_
  refine xu_st (T' := [(δ, dCell sc D), (α258, .inl (cA 0, 2, .inl (upd (upd (fun _ => (0 : Int32)) 0 (6 : Int32)) 1 (1 : Int32))))]) C 1 rfl (by decide) rfl dL_act_1033 ?_
  obtain ⟨r259, hc260, hf⟩ := bs_bind hf
  obtain ⟨hk261, hf⟩ := bs_if hf
  refine xu_thrown C 1 rfl (by decide) hk261 (fun R2 q2 b h9 => cL_calls_13 hst h9 hc260 hk261.1) ⟨Nat.le_of_ble_eq_true rfl, Nat.le_of_ble_eq_true rfl⟩ ⟨by show (cl + 1) + 10 ≤ 369; omega, by show (sl + 2) + 60 ≤ 1238 + 122 * B; omega⟩ rfl (Nat.le_of_ble_eq_true rfl) dL_act_1034 ?_
  refine x_widen (k := (cl + 11)) (n := (sl + 62)) (by show (cl + 1) + 10 ≤ _; omega) (by show (sl + 2) + 60 ≤ _; omega) ?_
  refine x_iconst (v := 3) C dL_act_1037 (by decide) ?_
  refine x_icmp_ne (tgt := 1080) C dL_act_1038 (by decide) (fun h271 => ?_) (fun h271 => ?_)
  · replace hf := bs_neg h271 hf
    refine x_iconst (v := 0) C dL_act_1080 (by decide) ?_
    obtain rfl := Option.some.inj hf
    refine xu_drop (T' := [(δ, dCell sc D)]) (sl_keep (List.Sublist.cons _ List.Sublist.slnil)) ?_
    exact x_xret C (bsZ01 (by decide)).1 ⟨rfl, rfl, σ, _, rfl, rfl⟩ (by show _ ≤ 369; omega) (by show _ ≤ 1238 + 122 * B; omega) dL_act_1081
  · replace hf := bs_pos h271 hf
    refine x_aload_n C dL_act_1041 rfl rfl ?_
    refine x_bipush (v := 13) C dL_act_1042 (by decide) ?_
    refine x_iconst (v := 2) C dL_act_1044 (by decide) ?_
    refine xu_newi (c1 := (cl + 12)) (s1 := (sl + 64)) (N := 2) C (by decide) (by decide) (by decide) ⟨by show _ ≤ 369; omega, by show _ ≤ 1238 + 122 * B; omega⟩ (by omega) (by omega) dL_act_1045 (fun α262 => ?_)
    show xV p l e (rmL_act B) s m args below meth c (cl + 12) (sl + 64) (MQ below (xQi ρ cA dC dI A (fun r X' R' => r = z.1 ∧ X' = z.2.1 ∧ ∃ σ' θ' : xA2, σ' 0 0 = σ 0 0 ∧ R' = lwWs σ' θ' cA z.2.2.1 ++ (F ++ [(δ, dCell sc z.2.2.2)]))) args s (rmL_act B).cells (rmL_act B).slots A) ρ cA dC dI A (lwWs σ θ cA Z ++ (F ++ [(δ, dCell sc D), (α258, .inl (cA 0, 2, .inl (upd (upd (fun _ => (0 : Int32)) 0 (6 : Int32)) 1 (1 : Int32)))), (α262, .inl (cA 0, 2, .inl (fun _ => (0 : Int32))))])) 10 1047 [(0, .ref (ρ 13 0 0)), (7, .int x7), (8, .int x8), (9, .int x9)] [.ref α262, .int (13 : Int32), .ref (ρ 13 0 0)] r259.2.2
    refine x_dup C dL_act_1047 rfl ?_
    refine x_iconst (v := 0) C dL_act_1048 (by decide) ?_
    refine x_iload C dL_act_1049 rfl ?_
    refine xu_st (T' := [(δ, dCell sc D), (α258, .inl (cA 0, 2, .inl (upd (upd (fun _ => (0 : Int32)) 0 (6 : Int32)) 1 (1 : Int32)))), (α262, .inl (cA 0, 2, .inl (upd (fun _ => (0 : Int32)) 0 x7)))]) C 2 rfl (by decide) rfl dL_act_1051 ?_
    refine x_dup C dL_act_1052 rfl ?_
    refine x_iconst (v := 1) C dL_act_1053 (by decide) ?_
    refine x_iconst (v := -1) C dL_act_1054 (by decide) ?_
    refine xu_st (T' := [(δ, dCell sc D), (α258, .inl (cA 0, 2, .inl (upd (upd (fun _ => (0 : Int32)) 0 (6 : Int32)) 1 (1 : Int32)))), (α262, .inl (cA 0, 2, .inl (upd (upd (fun _ => (0 : Int32)) 0 x7) 1 (-1 : Int32))))]) C 2 rfl (by decide) rfl dL_act_1055 ?_
    obtain ⟨r263, hc264, hf⟩ := bs_bind hf
    obtain ⟨hk265, hf⟩ := bs_if hf
    refine xu_thrown C 2 rfl (by decide) hk265 (fun R2 q2 b h9 => cL_calls_13 hst h9 hc264 hk265.1) ⟨Nat.le_of_ble_eq_true rfl, Nat.le_of_ble_eq_true rfl⟩ ⟨by show (cl + 12) + 10 ≤ 369; omega, by show (sl + 64) + 60 ≤ 1238 + 122 * B; omega⟩ rfl (Nat.le_of_ble_eq_true rfl) dL_act_1056 ?_
    refine x_widen (k := (cl + 22)) (n := (sl + 124)) (by show (cl + 12) + 10 ≤ _; omega) (by show (sl + 64) + 60 ≤ _; omega) ?_
    refine x_iconst (v := 3) C dL_act_1059 (by decide) ?_
    refine x_icmp_ne (tgt := 1080) C dL_act_1060 (by decide) (fun h270 => ?_) (fun h270 => ?_)
    · replace hf := bs_neg h270 hf
      refine x_iconst (v := 0) C dL_act_1080 (by decide) ?_
      obtain rfl := Option.some.inj hf
      refine xu_drop (T' := [(δ, dCell sc D)]) (sl_keep (List.Sublist.cons _ (List.Sublist.cons _ List.Sublist.slnil))) ?_
      exact x_xret C (bsZ01 (by decide)).1 ⟨rfl, rfl, σ, _, rfl, rfl⟩ (by show _ ≤ 369; omega) (by show _ ≤ 1238 + 122 * B; omega) dL_act_1081
    · replace hf := bs_pos h270 hf
      refine x_aload_n C dL_act_1063 rfl rfl ?_
      refine x_iload C dL_act_1064 rfl ?_
      refine x_iload C dL_act_1066 rfl ?_
      obtain ⟨r266, hc267, hf⟩ := bs_bind hf
      obtain ⟨h0268, hf⟩ := bs_if hf
      refine x_callT (y := yX8_setNumber) (As := [.int x7, .int x9]) (rest := []) C (cX8_setNumber_ok hst hc267) h0268 ml_L_74 wyX8_setNumber bsm_X8 bsc_X8 rfl dpX8_setNumber ⟨Nat.le_of_ble_eq_true rfl, Nat.le_of_ble_eq_true rfl⟩ ⟨by show (cl + 22) + 2 ≤ 369; omega, by show (sl + 124) + 12 ≤ 1238 + 122 * B; omega⟩ rfl (Nat.le_of_ble_eq_true rfl) dL_act_1068 ?_
      refine x_widen (k := (cl + 24)) (n := (sl + 136)) (by show (cl + 22) + 2 ≤ _; omega) (by show (sl + 124) + 12 ≤ _; omega) ?_
      refine x_iload C dL_act_1071 rfl ?_
      refine x_icmp_ne (tgt := 1080) C dL_act_1073 (by decide) (fun h269 => ?_) (fun h269 => ?_)
      · replace hf := bs_neg h269 hf
        refine x_iconst (v := 0) C dL_act_1080 (by decide) ?_
        obtain rfl := Option.some.inj hf
        refine xu_drop (T' := [(δ, dCell sc D)]) (sl_keep (List.Sublist.cons _ (List.Sublist.cons _ List.Sublist.slnil))) ?_
        exact x_xret C (bsZ01 (by decide)).1 ⟨rfl, rfl, σ, _, rfl, rfl⟩ (by show _ ≤ 369; omega) (by show _ ≤ 1238 + 122 * B; omega) dL_act_1081
      · replace hf := bs_pos h269 hf
        refine x_iconst (v := 1) C dL_act_1076 (by decide) ?_
        refine x_goto (tgt := 1081) C dL_act_1077 (by decide) ?_
        obtain rfl := Option.some.inj hf
        refine xu_drop (T' := [(δ, dCell sc D)]) (sl_keep (List.Sublist.cons _ (List.Sublist.cons _ List.Sublist.slnil))) ?_
        exact x_xret C (bsZ01 (by decide)).1 ⟨rfl, rfl, σ, _, rfl, rfl⟩ (by show _ ≤ 369; omega) (by show _ ≤ 1238 + 122 * B; omega) dL_act_1081
