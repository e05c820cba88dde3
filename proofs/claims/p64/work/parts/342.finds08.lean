set_option maxHeartbeats 4000000 in
set_option maxRecDepth 100000 in
theorem qL_finds_631 {p : Program} {l : Launch} {e : Env} {s : State} {m : MethodId} {args : Array Value} {below : List Frame} {meth : Method} {c : Code} {ρ : bsR} {sc L : Nat} {xs : Nat → Int32} {cA : Nat → ClassId} {dC : Nat → ClassId} {dI : Nat → Nat → Nat} {A : Nat → Prop} {Ts : List Cond} {σ : xA2} {F : va_W} {z : (Int32 × bsX × pY)} (C : xCx p m c cL_finds 13 s args Ts RL ρ sc L xs cA dC dI A meth (some .boolean)) (hst : l.stackTraces = false)  : ∀ (y0 : Int32) (y1 : Int32) (X : bsX) (Z : pY) (θ : xA2) (cl sl : Nat), cl + ((1)) ≤ 104 → sl + ((6)) ≤ 624 → hL_finds_631  y0 y1 X Z = some z → xV p l e rmL_finds s m args below meth c cl sl (MQ below (xQi ρ cA dC dI A (fun r X' R' => r = z.1 ∧ X' = z.2.1 ∧ ∃ θ' : xA2, R' = lwWs σ θ' cA z.2.2 ++ F)) args s rmL_finds.cells rmL_finds.slots A) ρ cA dC dI A (lwWs σ θ cA Z ++ (F ++ [])) 13 631 [(0, .ref (ρ 13 0 0)), (1, .ref (σ 0 0))] [.int y1, .int y0] X := by
  intro y0 y1 X Z θ cl sl hcl hsl hf
  rw [hL_finds_631] at hf
  refine x_icmp_ne (tgt := 649) C dL_finds_631 (by decide) (fun h160 => ?_) (fun h160 => ?_)
  · replace hf := bs_neg h160 hf
    refine x_iconst (v := 0) C dL_finds_649 (by decide) ?_
    obtain rfl := Option.some.inj hf
    refine xu_dropall ?_
    exact x_xret C (bsZ01 (by decide)).1 ⟨rfl, rfl, _, rfl⟩ (by show _ ≤ 104; omega) (by show _ ≤ 624; omega) dL_finds_650
  · replace hf := bs_pos h160 hf
    refine x_aload_n C dL_finds_634 rfl rfl ?_
    obtain ⟨r153, hc154, hf⟩ := bs_bind hf
    obtain ⟨h0155, hf⟩ := bs_if hf
    refine x_callT (y := yX8_spare) (As := []) (rest := []) C (cX8_spare_ok hst hc154) h0155 ml_L_266 wyX8_spare bsm_X8 bsc_X8 rfl dpX8_spare ⟨Nat.le_of_ble_eq_true rfl, Nat.le_of_ble_eq_true rfl⟩ ⟨by show (cl) + 1 ≤ 104; omega, by show (sl) + 6 ≤ 624; omega⟩ rfl (Nat.le_of_ble_eq_true rfl) dL_finds_635 ?_
    refine x_widen (k := (cl + 1)) (n := (sl + 6)) (by show (cl) + 1 ≤ _; omega) (by show (sl) + 6 ≤ _; omega) ?_
    refine x_aload_n C dL_finds_638 rfl rfl ?_
    obtain ⟨r156, hc157, hf⟩ := bs_bind hf
    refine x_callSi (y := yL_spare) (As := [.ref (σ 0 0)]) (rest := [.int r153.2.1]) C (cL_spare_ok  hc157) ml_L_269 wzL_spare dpL_spare ⟨Nat.le_of_ble_eq_true rfl, Nat.le_of_ble_eq_true rfl⟩ ⟨by show (cl + 1) + 0 ≤ 104; omega, by show (sl + 6) + (0) ≤ 624; omega⟩ rfl (Nat.le_of_ble_eq_true rfl) dL_finds_639 (fun r' X' R' hp => ?_)
    obtain ⟨rfl, rfl, θ, rfl⟩ := hp
    refine x_widen (k := (cl + 1)) (n := (sl + 6)) (by show (cl + 1) + 0 ≤ _; omega) (by show (sl + 6) + (0) ≤ _; omega) ?_
    refine x_icmp_ne (tgt := 649) C dL_finds_642 (by decide) (fun h159 => ?_) (fun h159 => ?_)
    · replace hf := bs_neg h159 hf
      refine x_iconst (v := 0) C dL_finds_649 (by decide) ?_
      obtain rfl := Option.some.inj hf
      refine xu_dropall ?_
      exact x_xret C (bsZ01 (by decide)).1 ⟨rfl, rfl, _, rfl⟩ (by show _ ≤ 104; omega) (by show _ ≤ 624; omega) dL_finds_650
    · replace hf := bs_pos h159 hf
      refine x_iconst (v := 1) C dL_finds_645 (by decide) ?_
      refine x_goto (tgt := 650) C dL_finds_646 (by decide) ?_
      obtain rfl := Option.some.inj hf
      refine xu_dropall ?_
      exact x_xret C (bsZ01 (by decide)).1 ⟨rfl, rfl, _, rfl⟩ (by show _ ≤ 104; omega) (by show _ ≤ 624; omega) dL_finds_650
set_option maxHeartbeats 4000000 in
set_option maxRecDepth 100000 in
theorem qL_finds_16 {p : Program} {l : Launch} {e : Env} {s : State} {m : MethodId} {args : Array Value} {below : List Frame} {meth : Method} {c : Code} {ρ : bsR} {sc L : Nat} {xs : Nat → Int32} {cA : Nat → ClassId} {dC : Nat → ClassId} {dI : Nat → Nat → Nat} {A : Nat → Prop} {Ts : List Cond} {σ : xA2} {F : va_W} {z : (Int32 × bsX × pY)} (C : xCx p m c cL_finds 13 s args Ts RL ρ sc L xs cA dC dI A meth (some .boolean)) (hst : l.stackTraces = false)  : ∀ (n : Nat), ∀ (x2 : Int32) (x3 : Int32) (x4 : Int32) (x5 : Int32) (x6 : Int32) (x7 : Int32) (X : bsX) (Z : pY) (θ : xA2) (cl sl : Nat), cl + (n * 12 + (8)) ≤ 104 → sl + (n * 72 + (48)) ≤ 624 → hL_finds_16  n x2 x3 x4 x5 x6 x7 X Z = some z → xV p l e rmL_finds s m args below meth c cl sl (MQ below (xQi ρ cA dC dI A (fun r X' R' => r = z.1 ∧ X' = z.2.1 ∧ ∃ θ' : xA2, R' = lwWs σ θ' cA z.2.2 ++ F)) args s rmL_finds.cells rmL_finds.slots A) ρ cA dC dI A (lwWs σ θ cA Z ++ (F ++ [])) 13 16 [(0, .ref (ρ 13 0 0)), (1, .ref (σ 0 0)), (2, .int x2), (3, .int x3), (4, .int x4), (5, .int x5), (6, .int x6), (7, .int x7)] [] X := by
  intro n
  induction n with
  | zero => intro x2 x3 x4 x5 x6 x7 X Z θ cl sl hcl hsl hf; exact (nomatch hf)
  | succ n ih =>
    intro x2 x3 x4 x5 x6 x7 X Z θ cl sl hcl hsl hf
    rw [hL_finds_16] at hf
    refine x_iload C dL_finds_16 rfl ?_
    refine x_aload_n C dL_finds_18 rfl rfl ?_
    refine xg_L_114 C dL_finds_19 ?_
    refine xn_plc C dL_finds_22 ?_
    refine x_icmp_ge (tgt := 552) C dL_finds_23 (by decide) (fun h59 => ?_) (fun h59 => ?_)
    · replace hf := bs_pos h59 hf
      refine x_aload_n C dL_finds_552 rfl rfl ?_
      obtain ⟨r24, hc25, hf⟩ := bs_bind hf
      obtain ⟨h026, hf⟩ := bs_if hf
      refine x_callT (y := yX8_newest) (As := []) (rest := []) C (cX8_newest_ok hst hc25) h026 ml_L_243 wyX8_newest bsm_X8 bsc_X8 rfl dpX8_newest ⟨Nat.le_of_ble_eq_true rfl, Nat.le_of_ble_eq_true rfl⟩ ⟨by show (cl) + 1 ≤ 104; omega, by show (sl) + 6 ≤ 624; omega⟩ rfl (Nat.le_of_ble_eq_true rfl) dL_finds_553 ?_
      refine x_widen (k := (cl + 1)) (n := (sl + 6)) (by show (cl) + 1 ≤ _; omega) (by show (sl) + 6 ≤ _; omega) ?_
      refine x_iload_n C dL_finds_556 rfl rfl ?_
      refine x_icmp_ne (tgt := 649) C dL_finds_557 (by decide) (fun h57 => ?_) (fun h57 => ?_)
      · replace hf := bs_neg h57 hf
        refine x_iconst (v := 0) C dL_finds_649 (by decide) ?_
        obtain rfl := Option.some.inj hf
        refine xu_dropall ?_
        exact x_xret C (bsZ01 (by decide)).1 ⟨rfl, rfl, _, rfl⟩ (by show _ ≤ 104; omega) (by show _ ≤ 624; omega) dL_finds_650
      · replace hf := bs_pos h57 hf
        refine x_aload_n C dL_finds_560 rfl rfl ?_
        obtain ⟨r27, hc28, hf⟩ := bs_bind hf
        obtain ⟨h029, hf⟩ := bs_if hf
        refine x_callT (y := yX8_sinking) (As := []) (rest := []) C (cX8_sinking_ok hst hc28) h029 ml_L_246 wyX8_sinking bsm_X8 bsc_X8 rfl dpX8_sinking ⟨Nat.le_of_ble_eq_true rfl, Nat.le_of_ble_eq_true rfl⟩ ⟨by show (cl + 1) + 1 ≤ 104; omega, by show (sl + 6) + 6 ≤ 624; omega⟩ rfl (Nat.le_of_ble_eq_true rfl) dL_finds_561 ?_
        refine x_widen (k := (cl + 2)) (n := (sl + 12)) (by show (cl + 1) + 1 ≤ _; omega) (by show (sl + 6) + 6 ≤ _; omega) ?_
        refine x_iload_n C dL_finds_564 rfl rfl ?_
        refine x_icmp_ne (tgt := 649) C dL_finds_565 (by decide) (fun h56 => ?_) (fun h56 => ?_)
        · replace hf := bs_neg h56 hf
          refine x_iconst (v := 0) C dL_finds_649 (by decide) ?_
          obtain rfl := Option.some.inj hf
          refine xu_dropall ?_
          exact x_xret C (bsZ01 (by decide)).1 ⟨rfl, rfl, _, rfl⟩ (by show _ ≤ 104; omega) (by show _ ≤ 624; omega) dL_finds_650
        · replace hf := bs_pos h56 hf
          refine x_aload_n C dL_finds_568 rfl rfl ?_
          obtain ⟨r30, hc31, hf⟩ := bs_bind hf
          obtain ⟨h032, hf⟩ := bs_if hf
          refine x_callT (y := yX8_mostBoots) (As := []) (rest := []) C (cX8_mostBoots_ok hst hc31) h032 ml_L_249 wyX8_mostBoots bsm_X8 bsc_X8 rfl dpX8_mostBoots ⟨Nat.le_of_ble_eq_true rfl, Nat.le_of_ble_eq_true rfl⟩ ⟨by show (cl + 2) + 1 ≤ 104; omega, by show (sl + 12) + 6 ≤ 624; omega⟩ rfl (Nat.le_of_ble_eq_true rfl) dL_finds_569 ?_
          refine x_widen (k := (cl + 3)) (n := (sl + 18)) (by show (cl + 2) + 1 ≤ _; omega) (by show (sl + 12) + 6 ≤ _; omega) ?_
          refine x_iload C dL_finds_572 rfl ?_
          refine x_icmp_ne (tgt := 649) C dL_finds_574 (by decide) (fun h55 => ?_) (fun h55 => ?_)
          · replace hf := bs_neg h55 hf
            refine x_iconst (v := 0) C dL_finds_649 (by decide) ?_
            obtain rfl := Option.some.inj hf
            refine xu_dropall ?_
            exact x_xret C (bsZ01 (by decide)).1 ⟨rfl, rfl, _, rfl⟩ (by show _ ≤ 104; omega) (by show _ ≤ 624; omega) dL_finds_650
          · replace hf := bs_pos h55 hf
            refine x_aload_n C dL_finds_577 rfl rfl ?_
            obtain ⟨r33, hc34, hf⟩ := bs_bind hf
            obtain ⟨h035, hf⟩ := bs_if hf
            refine x_callT (y := yX8_weakest) (As := []) (rest := []) C (cX8_weakest_ok hst hc34) h035 ml_L_252 wyX8_weakest bsm_X8 bsc_X8 rfl dpX8_weakest ⟨Nat.le_of_ble_eq_true rfl, Nat.le_of_ble_eq_true rfl⟩ ⟨by show (cl + 3) + 1 ≤ 104; omega, by show (sl + 18) + 6 ≤ 624; omega⟩ rfl (Nat.le_of_ble_eq_true rfl) dL_finds_578 ?_
            refine x_widen (k := (cl + 4)) (n := (sl + 24)) (by show (cl + 3) + 1 ≤ _; omega) (by show (sl + 18) + 6 ≤ _; omega) ?_
            refine x_iload C dL_finds_581 rfl ?_
            refine x_icmp_ne (tgt := 649) C dL_finds_583 (by decide) (fun h54 => ?_) (fun h54 => ?_)
            · replace hf := bs_neg h54 hf
              refine x_iconst (v := 0) C dL_finds_649 (by decide) ?_
              obtain rfl := Option.some.inj hf
              refine xu_dropall ?_
              exact x_xret C (bsZ01 (by decide)).1 ⟨rfl, rfl, _, rfl⟩ (by show _ ≤ 104; omega) (by show _ ≤ 624; omega) dL_finds_650
            · replace hf := bs_pos h54 hf
              refine x_aload_n C dL_finds_586 rfl rfl ?_
              obtain ⟨r36, hc37, hf⟩ := bs_bind hf
              obtain ⟨h038, hf⟩ := bs_if hf
              refine x_callT (y := yX8_highestFloor) (As := []) (rest := []) C (cX8_highestFloor_ok hst hc37) h038 ml_L_255 wyX8_highestFloor bsm_X8 bsc_X8 rfl dpX8_highestFloor ⟨Nat.le_of_ble_eq_true rfl, Nat.le_of_ble_eq_true rfl⟩ ⟨by show (cl + 4) + 1 ≤ 104; omega, by show (sl + 24) + 6 ≤ 624; omega⟩ rfl (Nat.le_of_ble_eq_true rfl) dL_finds_587 ?_
              refine x_widen (k := (cl + 5)) (n := (sl + 30)) (by show (cl + 4) + 1 ≤ _; omega) (by show (sl + 24) + 6 ≤ _; omega) ?_
              refine x_iload C dL_finds_590 rfl ?_
              refine x_icmp_ne (tgt := 649) C dL_finds_592 (by decide) (fun h53 => ?_) (fun h53 => ?_)
              · replace hf := bs_neg h53 hf
                refine x_iconst (v := 0) C dL_finds_649 (by decide) ?_
                obtain rfl := Option.some.inj hf
                refine xu_dropall ?_
                exact x_xret C (bsZ01 (by decide)).1 ⟨rfl, rfl, _, rfl⟩ (by show _ ≤ 104; omega) (by show _ ≤ 624; omega) dL_finds_650
              · replace hf := bs_pos h53 hf
                refine x_aload_n C dL_finds_595 rfl rfl ?_
                obtain ⟨r39, hc40, hf⟩ := bs_bind hf
                obtain ⟨h041, hf⟩ := bs_if hf
                refine x_callT (y := yX8_choice) (As := []) (rest := []) C (cX8_choice_ok hst hc40) h041 ml_L_258 wyX8_choice bsm_X8 bsc_X8 rfl dpX8_choice ⟨Nat.le_of_ble_eq_true rfl, Nat.le_of_ble_eq_true rfl⟩ ⟨by show (cl + 5) + 1 ≤ 104; omega, by show (sl + 30) + 6 ≤ 624; omega⟩ rfl (Nat.le_of_ble_eq_true rfl) dL_finds_596 ?_
                refine x_widen (k := (cl + 6)) (n := (sl + 36)) (by show (cl + 5) + 1 ≤ _; omega) (by show (sl + 30) + 6 ≤ _; omega) ?_
                refine x_aload_n C dL_finds_599 rfl rfl ?_
                refine x_iconst (v := -1) C dL_finds_600 (by decide) ?_
                obtain ⟨r42, hc43, hf⟩ := bs_bind hf
                obtain ⟨q0, he⟩ := xr_wor σ θ cA Z (F ++ [])
                refine x_callVi (y := yX11_choice) (As := [.int (-1 : Int32)]) (rest := [.int r39.2.1]) C (cX11_choice_ok  hc43) ml_L_261 wyX11_choice he rfl dpX11_choice ⟨Nat.le_of_ble_eq_true rfl, Nat.le_of_ble_eq_true rfl⟩ ⟨by show (cl + 6) + 0 ≤ 104; omega, by show (sl + 36) + (0) ≤ 624; omega⟩ rfl (Nat.le_of_ble_eq_true rfl) dL_finds_601 (fun r' X' R' hp => ?_)
                obtain ⟨rfl, rfl, θ, rfl⟩ := hp
                refine x_widen (k := (cl + 6)) (n := (sl + 36)) (by show (cl + 6) + 0 ≤ _; omega) (by show (sl + 36) + (0) ≤ _; omega) ?_
                refine x_icmp_ne (tgt := 649) C dL_finds_604 (by decide) (fun h52 => ?_) (fun h52 => ?_)
                · replace hf := bs_neg h52 hf
                  refine x_iconst (v := 0) C dL_finds_649 (by decide) ?_
                  obtain rfl := Option.some.inj hf
                  refine xu_dropall ?_
                  exact x_xret C (bsZ01 (by decide)).1 ⟨rfl, rfl, _, rfl⟩ (by show _ ≤ 104; omega) (by show _ ≤ 624; omega) dL_finds_650
                · replace hf := bs_pos h52 hf
                  refine x_aload_n C dL_finds_607 rfl rfl ?_
                  obtain ⟨r45, hc46, hf⟩ := bs_bind hf
                  obtain ⟨h047, hf⟩ := bs_if hf
                  refine x_callT (y := yX8_fallback) (As := []) (rest := []) C (cX8_fallback_ok hst hc46) h047 ml_L_263 wyX8_fallback bsm_X8 bsc_X8 rfl dpX8_fallback ⟨Nat.le_of_ble_eq_true rfl, Nat.le_of_ble_eq_true rfl⟩ ⟨by show (cl + 6) + 1 ≤ 104; omega, by show (sl + 36) + 6 ≤ 624; omega⟩ rfl (Nat.le_of_ble_eq_true rfl) dL_finds_608 ?_
                  refine x_widen (k := (cl + 7)) (n := (sl + 42)) (by show (cl + 6) + 1 ≤ _; omega) (by show (sl + 36) + 6 ≤ _; omega) ?_
                  refine x_aload_n C dL_finds_611 rfl rfl ?_
                  refine xg_L_148 C dL_finds_612 ?_
                  refine x_iconst (v := 1) C dL_finds_615 (by decide) ?_
                  refine x_icmp_ne (tgt := 630) C dL_finds_616 (by decide) (fun h51 => ?_) (fun h51 => ?_)
                  · replace hf := bs_neg h51 hf
                    refine x_iconst (v := -1) C dL_finds_630 (by decide) ?_
                    refine x_sub [0, 1] rfl ?_
                    exact qL_finds_631  C hst  _ _ _ _ _  _ _  (by omega) (by omega) hf
                  · replace hf := bs_pos h51 hf
                    refine x_aload_n C dL_finds_619 rfl rfl ?_
                    refine x_aload_n C dL_finds_620 rfl rfl ?_
                    refine xg_L_151 C dL_finds_621 ?_
                    obtain ⟨r48, hc49, hf⟩ := bs_bind hf
                    obtain ⟨q0, he⟩ := xr_wor σ θ cA r42.2.2 (F ++ [])
                    refine x_callVi (y := yX11_choice) (As := [.int (r42.2.2 0 0 11)]) (rest := [.int r45.2.1]) C (cX11_choice_ok  hc49) ml_L_261 wyX11_choice he rfl dpX11_choice ⟨Nat.le_of_ble_eq_true rfl, Nat.le_of_ble_eq_true rfl⟩ ⟨by show (cl + 7) + 0 ≤ 104; omega, by show (sl + 42) + (0) ≤ 624; omega⟩ rfl (Nat.le_of_ble_eq_true rfl) dL_finds_624 (fun r' X' R' hp => ?_)
                    obtain ⟨rfl, rfl, θ, rfl⟩ := hp
                    refine x_widen (k := (cl + 7)) (n := (sl + 42)) (by show (cl + 7) + 0 ≤ _; omega) (by show (sl + 42) + (0) ≤ _; omega) ?_
                    refine x_goto (tgt := 631) C dL_finds_627 (by decide) ?_
                    refine x_sub [0, 1] rfl ?_
                    exact qL_finds_631  C hst  _ _ _ _ _  _ _  (by omega) (by omega) hf
    · replace hf := bs_neg h59 hf
      refine x_aload_n C dL_finds_26 rfl rfl ?_
      refine xg_L_114 C dL_finds_27 ?_
      refine x_iload C dL_finds_30 rfl ?_
      obtain ⟨hg58, hf⟩ := bs_if hf
      refine xa_plc C hg58 dL_finds_32 ?_
      refine x_astore (lv' := [(8, .ref (σ 5 (bsIx x7))), (0, .ref (ρ 13 0 0)), (1, .ref (σ 0 0)), (2, .int x2), (3, .int x3), (4, .int x4), (5, .int x5), (6, .int x6), (7, .int x7)]) C dL_finds_33 (by decide) rfl ?_
      refine x_iconst (v := 0) C dL_finds_35 (by decide) ?_
      refine x_istore (lv' := [(9, .int (0 : Int32)), (8, .ref (σ 5 (bsIx x7))), (0, .ref (ρ 13 0 0)), (1, .ref (σ 0 0)), (2, .int x2), (3, .int x3), (4, .int x4), (5, .int x5), (6, .int x6), (7, .int x7)]) C dL_finds_36 (by decide) rfl ?_
      refine x_iconst (v := 0) C dL_finds_38 (by decide) ?_
      refine x_istore (lv' := [(10, .int (0 : Int32)), (9, .int (0 : Int32)), (8, .ref (σ 5 (bsIx x7))), (0, .ref (ρ 13 0 0)), (1, .ref (σ 0 0)), (2, .int x2), (3, .int x3), (4, .int x4), (5, .int x5), (6, .int x6), (7, .int x7)]) C dL_finds_39 (by decide) rfl ?_
      refine x_iconst (v := 0) C dL_finds_41 (by decide) ?_
      refine x_istore (lv' := [(11, .int (0 : Int32)), (10, .int (0 : Int32)), (9, .int (0 : Int32)), (8, .ref (σ 5 (bsIx x7))), (0, .ref (ρ 13 0 0)), (1, .ref (σ 0 0)), (2, .int x2), (3, .int x3), (4, .int x4), (5, .int x5), (6, .int x6), (7, .int x7)]) C dL_finds_42 (by decide) rfl ?_
      refine x_iconst (v := 0) C dL_finds_44 (by decide) ?_
      refine x_istore (lv' := [(12, .int (0 : Int32)), (11, .int (0 : Int32)), (10, .int (0 : Int32)), (9, .int (0 : Int32)), (8, .ref (σ 5 (bsIx x7))), (0, .ref (ρ 13 0 0)), (1, .ref (σ 0 0)), (2, .int x2), (3, .int x3), (4, .int x4), (5, .int x5), (6, .int x6), (7, .int x7)]) C dL_finds_45 (by decide) rfl ?_
      refine x_sub [5, 6, 7, 8, 9, 10, 11, 12, 4, 3, 2, 1, 0] rfl ?_
      exact qL_finds_47 (hL_finds_16   n) C hst ih ⟨by omega, by omega⟩ 8 _ _ _ _ _ _ _ _ _ _ _ _ _ _  _ _ (bsIx_lt hg58) (by show _ + (0 + _) ≤ _; omega) (by show _ + (0 + _) ≤ _; omega) hf
set_option maxHeartbeats 4000000 in
set_option maxRecDepth 100000 in
theorem cL_finds_ok {l : Launch} {ρ : bsR} {sc L : Nat} {xs : Nat → Int32} {cA : Nat → ClassId} {dC : Nat → ClassId} {dI : Nat → Nat → Nat} {σ θ : xA2} {F : va_W} (hst : l.stackTraces = false) {X : bsX} {Z : pY} {z : (Int32 × bsX × pY)} (hf : hL_finds  X Z = some z) : xMi l yL_finds cL_finds 13 (some .boolean) rmL_finds ρ sc L xs cA dC dI [.ref (ρ 13 0 0), .ref (σ 0 0)] X (lwWs σ θ cA Z ++ F) (fun r X' R' => r = z.1 ∧ X' = z.2.1 ∧ ∃ θ' : xA2, R' = lwWs σ θ' cA z.2.2 ++ F) := by
  refine xMi_of (by decide) (Nat.le_of_ble_eq_true rfl) (fun p e s m args below meth c C => ?_)
  have C : xCx p m c cL_finds 13 s args (Cond.code yL_finds cL_finds 13 (some .boolean) :: bsG) RL ρ sc L xs cA dC dI (bsA ρ cA (lwWs σ θ cA Z ++ F) s.heap.size) meth (some .boolean) := C
  rw [hL_finds] at hf
  generalize (bsA ρ cA (lwWs σ θ cA Z ++ F) s.heap.size) = A at C ⊢
  refine x_sub [0, 1] rfl ?_
  refine xu_none ?_
  refine x_iconst (v := -1) C dL_finds_0 (by decide) ?_
  refine x_istore_n (lv' := [(2, .int (-1 : Int32)), (0, .ref (ρ 13 0 0)), (1, .ref (σ 0 0))]) C dL_finds_1 rfl (by decide) rfl ?_
  refine x_iconst (v := 0) C dL_finds_2 (by decide) ?_
  refine x_istore_n (lv' := [(3, .int (0 : Int32)), (2, .int (-1 : Int32)), (0, .ref (ρ 13 0 0)), (1, .ref (σ 0 0))]) C dL_finds_3 rfl (by decide) rfl ?_
  refine x_iconst (v := 0) C dL_finds_4 (by decide) ?_
  refine x_istore (lv' := [(4, .int (0 : Int32)), (3, .int (0 : Int32)), (2, .int (-1 : Int32)), (0, .ref (ρ 13 0 0)), (1, .ref (σ 0 0))]) C dL_finds_5 (by decide) rfl ?_
  refine x_iconst (v := -1) C dL_finds_7 (by decide) ?_
  refine x_istore (lv' := [(5, .int (-1 : Int32)), (4, .int (0 : Int32)), (3, .int (0 : Int32)), (2, .int (-1 : Int32)), (0, .ref (ρ 13 0 0)), (1, .ref (σ 0 0))]) C dL_finds_8 (by decide) rfl ?_
  refine x_iconst (v := -1) C dL_finds_10 (by decide) ?_
  refine x_istore (lv' := [(6, .int (-1 : Int32)), (5, .int (-1 : Int32)), (4, .int (0 : Int32)), (3, .int (0 : Int32)), (2, .int (-1 : Int32)), (0, .ref (ρ 13 0 0)), (1, .ref (σ 0 0))]) C dL_finds_11 (by decide) rfl ?_
  refine x_iconst (v := 0) C dL_finds_13 (by decide) ?_
  refine x_istore (lv' := [(7, .int (0 : Int32)), (6, .int (-1 : Int32)), (5, .int (-1 : Int32)), (4, .int (0 : Int32)), (3, .int (0 : Int32)), (2, .int (-1 : Int32)), (0, .ref (ρ 13 0 0)), (1, .ref (σ 0 0))]) C dL_finds_14 (by decide) rfl ?_
  refine x_sub [6, 7, 5, 4, 3, 2, 1, 0] rfl ?_
  exact qL_finds_16  C hst  8 _ _ _ _ _ _ _ _ _  _ _  (by show _ + (96 + _) ≤ _; omega) (by show _ + (576 + _) ≤ _; omega) hf
