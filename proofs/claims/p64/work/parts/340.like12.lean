set_option maxHeartbeats 4000000 in
set_option maxRecDepth 100000 in
theorem qL_isLike_413 {p : Program} {l : Launch} {e : Env} {s : State} {m : MethodId} {args : Array Value} {below : List Frame} {meth : Method} {c : Code} {ρ : bsR} {sc L : Nat} {xs : Nat → Int32} {cA : Nat → ClassId} {dC : Nat → ClassId} {dI : Nat → Nat → Nat} {A : Nat → Prop} {Ts : List Cond} {σ : xA2} {F : va_W} {z : (Int32 × bsX × pY)} (C : xCx p m c cL_isLike 7 s args Ts RL ρ sc L xs cA dC dI A meth (some .boolean)) (hst : l.stackTraces = false)  : ∀ (n : Nat), ∀ (x4 : Int32) (X : bsX) (Z : pY) (θ : xA2) (cl sl : Nat), cl + (n * 10 + (24)) ≤ 610 → sl + (n * 60 + (136)) ≤ 3677 → hL_isLike_413  n x4 X Z = some z → xV p l e rmL_isLike s m args below meth c cl sl (MQ below (xQi ρ cA dC dI A (fun r X' R' => r = z.1 ∧ X' = z.2.1 ∧ ∃ θ' : xA2, R' = lwWs σ θ' cA z.2.2 ++ F)) args s rmL_isLike.cells rmL_isLike.slots A) ρ cA dC dI A (lwWs σ θ cA Z ++ (F ++ [])) 7 413 [(0, .ref (ρ 13 0 0)), (1, .ref (σ 0 0)), (4, .int x4)] [] X := by
  intro n
  induction n with
  | zero => intro x4 X Z θ cl sl hcl hsl hf; exact (nomatch hf)
  | succ n ih =>
    intro x4 X Z θ cl sl hcl hsl hf
    rw [hL_isLike_413] at hf
    refine x_iload C dL_isLike_413 rfl ?_
    refine x_bipush (v := 13) C dL_isLike_415 (by decide) ?_
    refine x_icmp_ge (tgt := 494) C dL_isLike_417 (by decide) (fun h45 => ?_) (fun h45 => ?_)
    · replace hf := bs_pos h45 hf
      refine x_aload_n C dL_isLike_494 rfl rfl ?_
      refine x_iconst (v := -1) C dL_isLike_495 (by decide) ?_
      refine x_iconst (v := 0) C dL_isLike_496 (by decide) ?_
      obtain ⟨r31, hc32, hf⟩ := bs_bind hf
      obtain ⟨h033, hf⟩ := bs_if hf
      refine x_callT (y := yX8_boot) (As := [.int (-1 : Int32), .int (0 : Int32)]) (rest := []) C (cX8_boot_ok hst hc32) h033 ml_L_46 wyX8_boot bsm_X8 bsc_X8 rfl dpX8_boot ⟨Nat.le_of_ble_eq_true rfl, Nat.le_of_ble_eq_true rfl⟩ ⟨by show (cl) + 2 ≤ 610; omega, by show (sl) + 12 ≤ 3677; omega⟩ rfl (Nat.le_of_ble_eq_true rfl) dL_isLike_497 ?_
      refine x_widen (k := (cl + 2)) (n := (sl + 12)) (by show (cl) + 2 ≤ _; omega) (by show (sl) + 12 ≤ _; omega) ?_
      refine x_bipush (v := -2) C dL_isLike_500 (by decide) ?_
      refine x_icmp_ne (tgt := 553) C dL_isLike_502 (by decide) (fun h44 => ?_) (fun h44 => ?_)
      · replace hf := bs_neg h44 hf
        refine x_iconst (v := 0) C dL_isLike_553 (by decide) ?_
        obtain rfl := Option.some.inj hf
        refine xu_dropall ?_
        exact x_xret C (bsZ01 (by decide)).1 ⟨rfl, rfl, _, rfl⟩ (by show _ ≤ 610; omega) (by show _ ≤ 3677; omega) dL_isLike_554
      · replace hf := bs_pos h44 hf
        refine x_aload_n C dL_isLike_505 rfl rfl ?_
        refine x_iconst (v := 1) C dL_isLike_506 (by decide) ?_
        refine x_iconst (v := 2) C dL_isLike_507 (by decide) ?_
        refine xu_newi (c1 := (cl + 3)) (s1 := (sl + 14)) (N := 2) C (by decide) (by decide) (by decide) ⟨by show _ ≤ 610; omega, by show _ ≤ 3677; omega⟩ (by omega) (by omega) dL_isLike_508 (fun α34 => ?_)
        show xV p l e rmL_isLike s m args below meth c (cl + 3) (sl + 14) (MQ below (xQi ρ cA dC dI A (fun r X' R' => r = z.1 ∧ X' = z.2.1 ∧ ∃ θ' : xA2, R' = lwWs σ θ' cA z.2.2 ++ F)) args s rmL_isLike.cells rmL_isLike.slots A) ρ cA dC dI A (lwWs σ θ cA Z ++ (F ++ [(α34, .inl (cA 0, 2, .inl (fun _ => (0 : Int32))))])) 7 510 [(0, .ref (ρ 13 0 0)), (1, .ref (σ 0 0)), (4, .int x4)] [.ref α34, .int (1 : Int32), .ref (ρ 13 0 0)] r31.2.2
        refine x_dup C dL_isLike_510 rfl ?_
        refine x_iconst (v := 0) C dL_isLike_511 (by decide) ?_
        refine x_aload_n C dL_isLike_512 rfl rfl ?_
        refine xg_L_114 C dL_isLike_513 ?_
        refine xn_plc C dL_isLike_516 ?_
        refine xu_st (T' := [(α34, .inl (cA 0, 2, .inl (upd (fun _ => (0 : Int32)) 0 (nI (ln Z)))))]) C 0 rfl (by decide) rfl dL_isLike_517 ?_
        refine x_dup C dL_isLike_518 rfl ?_
        refine x_iconst (v := 1) C dL_isLike_519 (by decide) ?_
        refine x_iconst (v := 0) C dL_isLike_520 (by decide) ?_
        refine xu_st (T' := [(α34, .inl (cA 0, 2, .inl (upd (upd (fun _ => (0 : Int32)) 0 (nI (ln Z))) 1 (0 : Int32))))]) C 0 rfl (by decide) rfl dL_isLike_521 ?_
        obtain ⟨r35, hc36, hf⟩ := bs_bind hf
        obtain ⟨hk37, hf⟩ := bs_if hf
        refine xu_thrown C 0 rfl (by decide) hk37 (fun R2 q2 b h9 => cL_calls_1 hst h9 hc36 hk37.1) ⟨Nat.le_of_ble_eq_true rfl, Nat.le_of_ble_eq_true rfl⟩ ⟨by show (cl + 3) + 10 ≤ 610; omega, by show (sl + 14) + 60 ≤ 3677; omega⟩ rfl (Nat.le_of_ble_eq_true rfl) dL_isLike_522 ?_
        refine x_widen (k := (cl + 13)) (n := (sl + 74)) (by show (cl + 3) + 10 ≤ _; omega) (by show (sl + 14) + 60 ≤ _; omega) ?_
        refine x_iconst (v := 2) C dL_isLike_525 (by decide) ?_
        refine x_icmp_ne (tgt := 553) C dL_isLike_526 (by decide) (fun h43 => ?_) (fun h43 => ?_)
        · replace hf := bs_neg h43 hf
          refine x_iconst (v := 0) C dL_isLike_553 (by decide) ?_
          obtain rfl := Option.some.inj hf
          refine xu_dropall ?_
          exact x_xret C (bsZ01 (by decide)).1 ⟨rfl, rfl, _, rfl⟩ (by show _ ≤ 610; omega) (by show _ ≤ 3677; omega) dL_isLike_554
        · replace hf := bs_pos h43 hf
          refine x_aload_n C dL_isLike_529 rfl rfl ?_
          refine x_iconst (v := 2) C dL_isLike_530 (by decide) ?_
          refine x_iconst (v := 2) C dL_isLike_531 (by decide) ?_
          refine xu_newi (c1 := (cl + 14)) (s1 := (sl + 76)) (N := 2) C (by decide) (by decide) (by decide) ⟨by show _ ≤ 610; omega, by show _ ≤ 3677; omega⟩ (by omega) (by omega) dL_isLike_532 (fun α38 => ?_)
          show xV p l e rmL_isLike s m args below meth c (cl + 14) (sl + 76) (MQ below (xQi ρ cA dC dI A (fun r X' R' => r = z.1 ∧ X' = z.2.1 ∧ ∃ θ' : xA2, R' = lwWs σ θ' cA z.2.2 ++ F)) args s rmL_isLike.cells rmL_isLike.slots A) ρ cA dC dI A (lwWs σ θ cA Z ++ (F ++ [(α34, .inl (cA 0, 2, .inl (upd (upd (fun _ => (0 : Int32)) 0 (nI (ln Z))) 1 (0 : Int32)))), (α38, .inl (cA 0, 2, .inl (fun _ => (0 : Int32))))])) 7 534 [(0, .ref (ρ 13 0 0)), (1, .ref (σ 0 0)), (4, .int x4)] [.ref α38, .int (2 : Int32), .ref (ρ 13 0 0)] r35.2.2
          refine x_dup C dL_isLike_534 rfl ?_
          refine x_iconst (v := 0) C dL_isLike_535 (by decide) ?_
          refine x_iconst (v := -1) C dL_isLike_536 (by decide) ?_
          refine xu_st (T' := [(α34, .inl (cA 0, 2, .inl (upd (upd (fun _ => (0 : Int32)) 0 (nI (ln Z))) 1 (0 : Int32)))), (α38, .inl (cA 0, 2, .inl (upd (fun _ => (0 : Int32)) 0 (-1 : Int32))))]) C 1 rfl (by decide) rfl dL_isLike_537 ?_
          refine x_dup C dL_isLike_538 rfl ?_
          refine x_iconst (v := 1) C dL_isLike_539 (by decide) ?_
          refine x_iconst (v := 0) C dL_isLike_540 (by decide) ?_
          refine xu_st (T' := [(α34, .inl (cA 0, 2, .inl (upd (upd (fun _ => (0 : Int32)) 0 (nI (ln Z))) 1 (0 : Int32)))), (α38, .inl (cA 0, 2, .inl (upd (upd (fun _ => (0 : Int32)) 0 (-1 : Int32)) 1 (0 : Int32))))]) C 1 rfl (by decide) rfl dL_isLike_541 ?_
          obtain ⟨r39, hc40, hf⟩ := bs_bind hf
          obtain ⟨hk41, hf⟩ := bs_if hf
          refine xu_thrown C 1 rfl (by decide) hk41 (fun R2 q2 b h9 => cL_calls_2 hst h9 hc40 hk41.1) ⟨Nat.le_of_ble_eq_true rfl, Nat.le_of_ble_eq_true rfl⟩ ⟨by show (cl + 14) + 10 ≤ 610; omega, by show (sl + 76) + 60 ≤ 3677; omega⟩ rfl (Nat.le_of_ble_eq_true rfl) dL_isLike_542 ?_
          refine x_widen (k := (cl + 24)) (n := (sl + 136)) (by show (cl + 14) + 10 ≤ _; omega) (by show (sl + 76) + 60 ≤ _; omega) ?_
          refine x_iconst (v := 2) C dL_isLike_545 (by decide) ?_
          refine x_icmp_ne (tgt := 553) C dL_isLike_546 (by decide) (fun h42 => ?_) (fun h42 => ?_)
          · replace hf := bs_neg h42 hf
            refine x_iconst (v := 0) C dL_isLike_553 (by decide) ?_
            obtain rfl := Option.some.inj hf
            refine xu_dropall ?_
            exact x_xret C (bsZ01 (by decide)).1 ⟨rfl, rfl, _, rfl⟩ (by show _ ≤ 610; omega) (by show _ ≤ 3677; omega) dL_isLike_554
          · replace hf := bs_pos h42 hf
            refine x_iconst (v := 1) C dL_isLike_549 (by decide) ?_
            refine x_goto (tgt := 554) C dL_isLike_550 (by decide) ?_
            obtain rfl := Option.some.inj hf
            refine xu_dropall ?_
            exact x_xret C (bsZ01 (by decide)).1 ⟨rfl, rfl, _, rfl⟩ (by show _ ≤ 610; omega) (by show _ ≤ 3677; omega) dL_isLike_554
    · replace hf := bs_neg h45 hf
      refine x_iconst (v := 0) C dL_isLike_420 (by decide) ?_
      refine x_istore (lv' := [(5, .int (0 : Int32)), (0, .ref (ρ 13 0 0)), (1, .ref (σ 0 0)), (4, .int x4)]) C dL_isLike_421 (by decide) rfl ?_
      refine x_sub [1, 2, 3, 0] rfl ?_
      exact qL_isLike_423 (hL_isLike_413   n) C hst ih ⟨by omega, by omega⟩ 5 _ _ _ _ _  _ _  (by show _ + (10 + _) ≤ _; omega) (by show _ + (60 + _) ≤ _; omega) hf
