set_option maxHeartbeats 4000000 in
set_option maxRecDepth 100000 in
theorem qL_texts_422 {p : Program} {l : Launch} {e : Env} {s : State} {m : MethodId} {args : Array Value} {below : List Frame} {meth : Method} {c : Code} {ρ : bsR} {sc L : Nat} {xs : Nat → Int32} {cA : Nat → ClassId} {dC : Nat → ClassId} {dI : Nat → Nat → Nat} {A : Nat → Prop} {Ts : List Cond} {σ : xA2} {F : va_W} {z : (Int32 × bsX × pY)} (C : xCx p m c cL_texts 7 s args Ts RL ρ sc L xs cA dC dI A meth (some .boolean)) (hst : l.stackTraces = false)  : ∀ (n : Nat), ∀ (tt0 : (Nat → Nat)) (nn0 : Nat) (tt8 : (Nat → Nat)) (nn8 : Nat) (tt16 : (Nat → Nat)) (nn16 : Nat) (x5 : Int32) (X : bsX) (Z : pY) (θ : xA2) (sb0 : Nat) (sv0 : Nat) (sk0 : Nat) (sa0 : (Nat → Int32)) (sm0 : Int32) (sb8 : Nat) (sv8 : Nat) (sk8 : Nat) (sa8 : (Nat → Int32)) (sm8 : Int32) (sb16 : Nat) (sv16 : Nat) (sk16 : Nat) (sa16 : (Nat → Int32)) (sm16 : Int32) (cl sl : Nat), sb_Lat tt0 nn0 sa0 → sb_Fit sa0 → nn0 ≤ sk0 → sk0 ≤ 1026 → sb_Lat tt8 nn8 sa8 → sb_Fit sa8 → nn8 ≤ sk8 → sk8 ≤ 1026 → sb_Lat tt16 nn16 sa16 → sb_Fit sa16 → nn16 ≤ sk16 → sk16 ≤ 1026 → cl + (n * 4 + (1599)) ≤ 1877 → sl + (n * 4104 + (12708)) ≤ 291880 → hL_texts_422  n tt0 nn0 tt8 nn8 tt16 nn16 x5 X Z = some z → xV p l e rmL_texts s m args below meth c cl sl (MQ below (xQi ρ cA dC dI A (fun r X' R' => r = z.1 ∧ X' = z.2.1 ∧ ∃ θ' : xA2, R' = lwWs σ θ' cA z.2.2 ++ F)) args s rmL_texts.cells rmL_texts.slots A) ρ cA dC dI A (lwWs σ θ cA Z ++ (F ++ [(sb0, sbC sv0 sm0 (nI nn0)), (sv0, byC cA sk0 sa0), (sb8, sbC sv8 sm8 (nI nn8)), (sv8, byC cA sk8 sa8), (sb16, sbC sv16 sm16 (nI nn16)), (sv16, byC cA sk16 sa16)])) 7 422 [(0, .ref (ρ 13 0 0)), (1, .ref (σ 0 0)), (2, .ref sb0), (3, .ref sb8), (4, .ref sb16), (5, .int x5)] [] X := by
  intro n
  induction n with
  | zero => intro tt0 nn0 tt8 nn8 tt16 nn16 x5 X Z θ sb0 sv0 sk0 sa0 sm0 sb8 sv8 sk8 sa8 sm8 sb16 sv16 sk16 sa16 sm16 cl sl hL0 hF0 hN0 hK0 hL8 hF8 hN8 hK8 hL16 hF16 hN16 hK16 hcl hsl hf; exact (nomatch hf)
  | succ n ih =>
    intro tt0 nn0 tt8 nn8 tt16 nn16 x5 X Z θ sb0 sv0 sk0 sa0 sm0 sb8 sv8 sk8 sa8 sm8 sb16 sv16 sk16 sa16 sm16 cl sl hL0 hF0 hN0 hK0 hL8 hF8 hN8 hK8 hL16 hF16 hN16 hK16 hcl hsl hf
    rw [hL_texts_422] at hf
    rw [Nat.succ_mul] at hsl
    generalize n * 4104 = nK at *
    refine x_iload C dL_texts_422 rfl ?_
    refine x_aload_n C dL_texts_424 rfl rfl ?_
    refine xg_L_194 C dL_texts_425 ?_
    refine xn_bts C dL_texts_428 ?_
    refine x_icmp_ge (tgt := 514) C dL_texts_429 (by decide) (fun h41 => ?_) (fun h41 => ?_)
    · replace hf := bs_pos h41 hf
      refine x_aload_n C dL_texts_514 rfl rfl ?_
      refine x_aload_n C dL_texts_515 rfl rfl ?_
      obtain ⟨r1, hc2, hf⟩ := bs_bind hf
      obtain ⟨h03, hf⟩ := bs_if hf
      refine x_callT (y := yX8_writeSlots) (As := []) (rest := [.ref (ρ 13 0 0)]) C (cX8_writeSlots_ok hst hc2) h03 ml_L_312 wyX8_writeSlots bsm_X8 bsc_X8 rfl dpX8_writeSlots ⟨Nat.le_of_ble_eq_true rfl, Nat.le_of_ble_eq_true rfl⟩ ⟨by show (cl) + 1 ≤ 1877; omega, by show (sl) + 6 ≤ 291880; omega⟩ rfl (Nat.le_of_ble_eq_true rfl) dL_texts_516 ?_
      refine x_widen (k := (cl + 1)) (n := (sl + 6)) (by show (cl) + 1 ≤ _; omega) (by show (sl) + 6 ≤ _; omega) ?_
      refine x_aload_n C dL_texts_519 rfl rfl ?_
      refine x_out [] [(sb0, sbC sv0 sm0 (nI nn0)), (sv0, byC cA sk0 sa0)] [(sb8, sbC sv8 sm8 (nI nn8)), (sv8, byC cA sk8 sa8), (sb16, sbC sv16 sm16 (nI nn16)), (sv16, byC cA sk16 sa16)] rfl ?_
      refine x_callVr (y := yJ4_toString_0e30d) (As := []) (rest := [.int r1.2.1, .ref (ρ 13 0 0)]) C (cJ4_toString_0e30d_ok hL0 hF0 hN0 hK0) (bsG_in 1500 (by decide +kernel) rfl) wyJ4_toString_0e30d ((jd_at _ [(sb0, sbC sv0 sm0 (nI nn0)), (sv0, byC cA sk0 sa0)] 0).trans rfl) rfl dpJ4_toString_0e30d ⟨Nat.le_of_ble_eq_true rfl, Nat.le_of_ble_eq_true rfl⟩ ⟨by show (cl + 1) + 2 ≤ 1877; omega, by show (sl + 6) + 1030 ≤ 291880; omega⟩ rfl (Nat.le_of_ble_eq_true rfl) dL_texts_520 (fun sg4 X' R' hp => ?_)
      obtain ⟨eX, gv4, ga4, eW, hG4⟩ := hp
      rw [eX, eW]
      clear eX eW X' R'
      refine x_widen (k := (cl + 3)) (n := (sl + 1036)) (by show (cl + 1) + 2 ≤ _; omega) (by show (sl + 6) + 1030 ≤ _; omega) ?_
      refine x_in [] [(sg4, stC gv4), (gv4, byC cA nn0 ga4)] [(sb8, sbC sv8 sm8 (nI nn8)), (sv8, byC cA sk8 sa8), (sb16, sbC sv16 sm16 (nI nn16)), (sv16, byC cA sk16 sa16)] (W := [(sg4, stC gv4), (gv4, byC cA nn0 ga4), (sb8, sbC sv8 sm8 (nI nn8)), (sv8, byC cA sk8 sa8), (sb16, sbC sv16 sm16 (nI nn16)), (sv16, byC cA sk16 sa16)]) rfl ?_
      obtain ⟨hg7, hf⟩ := bs_if hf
      obtain ⟨r5, hc6, hf⟩ := bs_bind hf
      refine x_callSi (y := yL_isText) (As := [.ref (ρ 13 0 0), .int r1.2.1, .ref sg4]) (rest := []) C (cL_isText_ok hst ((xu_at _ F [(sg4, stC gv4), (gv4, byC cA nn0 ga4), (sb8, sbC sv8 sm8 (nI nn8)), (sv8, byC cA sk8 sa8), (sb16, sbC sv16 sm16 (nI nn16)), (sv16, byC cA sk16 sa16)] 0).trans rfl) ((xu_at _ F [(sg4, stC gv4), (gv4, byC cA nn0 ga4), (sb8, sbC sv8 sm8 (nI nn8)), (sv8, byC cA sk8 sa8), (sb16, sbC sv16 sm16 (nI nn16)), (sv16, byC cA sk16 sa16)] 1).trans rfl) hG4 hg7 hc6) ((bsG_in 1569 (by decide +kernel) rfl)) wzL_isText dpL_isText ⟨Nat.le_of_ble_eq_true rfl, Nat.le_of_ble_eq_true rfl⟩ ⟨by show (cl + 3) + 530 ≤ 1877; omega, by show (sl + 1036) + 3200 ≤ 291880; omega⟩ rfl (Nat.le_of_ble_eq_true rfl) dL_texts_523 (fun r' X' R' hp => ?_)
      obtain ⟨e1, e2, e3⟩ := hp
      rw [e1, e2, e3]
      clear e1 e2 e3 r' X' R'
      refine x_widen (k := (cl + 533)) (n := (sl + 4236)) (by show (cl + 3) + 530 ≤ _; omega) (by show (sl + 1036) + 3200 ≤ _; omega) ?_
      refine x_if_eq (tgt := 577) C dL_texts_526 (by decide) (fun h37 => ?_) (fun h37 => ?_)
      · replace hf := bs_pos h37 hf
        refine x_iconst (v := 0) C dL_texts_577 (by decide) ?_
        obtain rfl := Option.some.inj hf
        refine xu_dropall ?_
        exact x_xret C (bsZ01 (by decide)).1 ⟨rfl, rfl, _, rfl⟩ (by show _ ≤ 1877; omega) (by show _ ≤ 291880; omega) dL_texts_578
      · replace hf := bs_neg h37 hf
        refine x_aload_n C dL_texts_529 rfl rfl ?_
        refine x_aload_n C dL_texts_530 rfl rfl ?_
        obtain ⟨r8, hc9, hf⟩ := bs_bind hf
        obtain ⟨h010, hf⟩ := bs_if hf
        refine x_callT (y := yX8_writeBoots) (As := []) (rest := [.ref (ρ 13 0 0)]) C (cX8_writeBoots_ok hst hc9) h010 ml_L_323 wyX8_writeBoots bsm_X8 bsc_X8 rfl dpX8_writeBoots ⟨Nat.le_of_ble_eq_true rfl, Nat.le_of_ble_eq_true rfl⟩ ⟨by show (cl + 533) + 1 ≤ 1877; omega, by show (sl + 4236) + 6 ≤ 291880; omega⟩ rfl (Nat.le_of_ble_eq_true rfl) dL_texts_531 ?_
        refine x_widen (k := (cl + 534)) (n := (sl + 4242)) (by show (cl + 533) + 1 ≤ _; omega) (by show (sl + 4236) + 6 ≤ _; omega) ?_
        refine x_aload_n C dL_texts_534 rfl rfl ?_
        refine x_callVi (y := yJ4_length_8abf5) (As := []) (rest := [.int r8.2.1, .ref (ρ 13 0 0)]) C (cJ4_length_8abf5_ok (v := sv8) (ml := sm8) (n := nI nn8) ((xu_at _ F [(sg4, stC gv4), (gv4, byC cA nn0 ga4), (sb8, sbC sv8 sm8 (nI nn8)), (sv8, byC cA sk8 sa8), (sb16, sbC sv16 sm16 (nI nn16)), (sv16, byC cA sk16 sa16)] 2).trans rfl)) (bsG_in 1471 (by decide +kernel) rfl) wyJ4_length_8abf5 ((xu_at _ F [(sg4, stC gv4), (gv4, byC cA nn0 ga4), (sb8, sbC sv8 sm8 (nI nn8)), (sv8, byC cA sk8 sa8), (sb16, sbC sv16 sm16 (nI nn16)), (sv16, byC cA sk16 sa16)] 2).trans rfl) rfl dpJ4_length_8abf5 ⟨Nat.le_of_ble_eq_true rfl, Nat.le_of_ble_eq_true rfl⟩ ⟨by show (cl + 534) + 0 ≤ 1877; omega, by show (sl + 4242) + 0 ≤ 291880; omega⟩ rfl (Nat.le_of_ble_eq_true rfl) dL_texts_535 (fun r' X' R' hp => ?_)
        obtain ⟨e1, e2, e3⟩ := hp
        rw [e1, e2, e3]
        clear e1 e2 e3 r' X' R'
        refine x_widen (k := (cl + 534)) (n := (sl + 4242)) (by show (cl + 534) + 0 ≤ _; omega) (by show (sl + 4242) + 0 ≤ _; omega) ?_
        refine x_if_ne (tgt := 547) C dL_texts_538 (by decide) (fun h36 => ?_) (fun h36 => ?_)
        · replace hf := bs_neg h36 hf
          refine x_aload_n C dL_texts_547 rfl rfl ?_
          refine x_out [(sg4, stC gv4), (gv4, byC cA nn0 ga4)] [(sb8, sbC sv8 sm8 (nI nn8)), (sv8, byC cA sk8 sa8)] [(sb16, sbC sv16 sm16 (nI nn16)), (sv16, byC cA sk16 sa16)] rfl ?_
          refine x_callVr (y := yJ4_toString_0e30d) (As := []) (rest := [.int r8.2.1, .ref (ρ 13 0 0)]) C (cJ4_toString_0e30d_ok hL8 hF8 hN8 hK8) (bsG_in 1500 (by decide +kernel) rfl) wyJ4_toString_0e30d ((jd_at _ [(sb8, sbC sv8 sm8 (nI nn8)), (sv8, byC cA sk8 sa8)] 0).trans rfl) rfl dpJ4_toString_0e30d ⟨Nat.le_of_ble_eq_true rfl, Nat.le_of_ble_eq_true rfl⟩ ⟨by show (cl + 534) + 2 ≤ 1877; omega, by show (sl + 4242) + 1030 ≤ 291880; omega⟩ rfl (Nat.le_of_ble_eq_true rfl) dL_texts_548 (fun sg12 X' R' hp => ?_)
          obtain ⟨eX, gv12, ga12, eW, hG12⟩ := hp
          rw [eX, eW]
          clear eX eW X' R'
          refine x_widen (k := (cl + 536)) (n := (sl + 5272)) (by show (cl + 534) + 2 ≤ _; omega) (by show (sl + 4242) + 1030 ≤ _; omega) ?_
          refine x_in [(sg4, stC gv4), (gv4, byC cA nn0 ga4)] [(sg12, stC gv12), (gv12, byC cA nn8 ga12)] [(sb16, sbC sv16 sm16 (nI nn16)), (sv16, byC cA sk16 sa16)] (W := [(sg4, stC gv4), (gv4, byC cA nn0 ga4), (sg12, stC gv12), (gv12, byC cA nn8 ga12), (sb16, sbC sv16 sm16 (nI nn16)), (sv16, byC cA sk16 sa16)]) rfl ?_
          obtain ⟨hg15, hf⟩ := bs_if hf
          obtain ⟨r13, hc14, hf⟩ := bs_bind hf
          refine x_callSi (y := yL_isText) (As := [.ref (ρ 13 0 0), .int r8.2.1, .ref sg12]) (rest := []) C (cL_isText_ok hst ((xu_at _ F [(sg4, stC gv4), (gv4, byC cA nn0 ga4), (sg12, stC gv12), (gv12, byC cA nn8 ga12), (sb16, sbC sv16 sm16 (nI nn16)), (sv16, byC cA sk16 sa16)] 2).trans rfl) ((xu_at _ F [(sg4, stC gv4), (gv4, byC cA nn0 ga4), (sg12, stC gv12), (gv12, byC cA nn8 ga12), (sb16, sbC sv16 sm16 (nI nn16)), (sv16, byC cA sk16 sa16)] 3).trans rfl) hG12 hg15 hc14) ((bsG_in 1569 (by decide +kernel) rfl)) wzL_isText dpL_isText ⟨Nat.le_of_ble_eq_true rfl, Nat.le_of_ble_eq_true rfl⟩ ⟨by show (cl + 536) + 530 ≤ 1877; omega, by show (sl + 5272) + 3200 ≤ 291880; omega⟩ rfl (Nat.le_of_ble_eq_true rfl) dL_texts_551 (fun r' X' R' hp => ?_)
          obtain ⟨e1, e2, e3⟩ := hp
          rw [e1, e2, e3]
          clear e1 e2 e3 r' X' R'
          refine x_widen (k := (cl + 1066)) (n := (sl + 8472)) (by show (cl + 536) + 530 ≤ _; omega) (by show (sl + 5272) + 3200 ≤ _; omega) ?_
          refine x_if_eq (tgt := 577) C dL_texts_554 (by decide) (fun h24 => ?_) (fun h24 => ?_)
          · replace hf := bs_pos h24 hf
            refine x_iconst (v := 0) C dL_texts_577 (by decide) ?_
            obtain rfl := Option.some.inj hf
            refine xu_dropall ?_
            exact x_xret C (bsZ01 (by decide)).1 ⟨rfl, rfl, _, rfl⟩ (by show _ ≤ 1877; omega) (by show _ ≤ 291880; omega) dL_texts_578
          · replace hf := bs_neg h24 hf
            refine x_aload_n C dL_texts_557 rfl rfl ?_
            refine x_aload_n C dL_texts_558 rfl rfl ?_
            obtain ⟨r16, hc17, hf⟩ := bs_bind hf
            obtain ⟨h018, hf⟩ := bs_if hf
            refine x_callT (y := yX8_writeMachine) (As := []) (rest := [.ref (ρ 13 0 0)]) C (cX8_writeMachine_ok hst hc17) h018 ml_L_328 wyX8_writeMachine bsm_X8 bsc_X8 rfl dpX8_writeMachine ⟨Nat.le_of_ble_eq_true rfl, Nat.le_of_ble_eq_true rfl⟩ ⟨by show (cl + 1066) + 1 ≤ 1877; omega, by show (sl + 8472) + 6 ≤ 291880; omega⟩ rfl (Nat.le_of_ble_eq_true rfl) dL_texts_559 ?_
            refine x_widen (k := (cl + 1067)) (n := (sl + 8478)) (by show (cl + 1066) + 1 ≤ _; omega) (by show (sl + 8472) + 6 ≤ _; omega) ?_
            refine x_aload C dL_texts_562 rfl ?_
            refine x_out [(sg4, stC gv4), (gv4, byC cA nn0 ga4), (sg12, stC gv12), (gv12, byC cA nn8 ga12)] [(sb16, sbC sv16 sm16 (nI nn16)), (sv16, byC cA sk16 sa16)] [] rfl ?_
            refine x_callVr (y := yJ4_toString_0e30d) (As := []) (rest := [.int r16.2.1, .ref (ρ 13 0 0)]) C (cJ4_toString_0e30d_ok hL16 hF16 hN16 hK16) (bsG_in 1500 (by decide +kernel) rfl) wyJ4_toString_0e30d ((jd_at _ [(sb16, sbC sv16 sm16 (nI nn16)), (sv16, byC cA sk16 sa16)] 0).trans rfl) rfl dpJ4_toString_0e30d ⟨Nat.le_of_ble_eq_true rfl, Nat.le_of_ble_eq_true rfl⟩ ⟨by show (cl + 1067) + 2 ≤ 1877; omega, by show (sl + 8478) + 1030 ≤ 291880; omega⟩ rfl (Nat.le_of_ble_eq_true rfl) dL_texts_564 (fun sg19 X' R' hp => ?_)
            obtain ⟨eX, gv19, ga19, eW, hG19⟩ := hp
            rw [eX, eW]
            clear eX eW X' R'
            refine x_widen (k := (cl + 1069)) (n := (sl + 9508)) (by show (cl + 1067) + 2 ≤ _; omega) (by show (sl + 8478) + 1030 ≤ _; omega) ?_
            refine x_in [(sg4, stC gv4), (gv4, byC cA nn0 ga4), (sg12, stC gv12), (gv12, byC cA nn8 ga12)] [(sg19, stC gv19), (gv19, byC cA nn16 ga19)] [] (W := [(sg4, stC gv4), (gv4, byC cA nn0 ga4), (sg12, stC gv12), (gv12, byC cA nn8 ga12), (sg19, stC gv19), (gv19, byC cA nn16 ga19)]) rfl ?_
            obtain ⟨hg22, hf⟩ := bs_if hf
            obtain ⟨r20, hc21, hf⟩ := bs_bind hf
            refine x_callSi (y := yL_isText) (As := [.ref (ρ 13 0 0), .int r16.2.1, .ref sg19]) (rest := []) C (cL_isText_ok hst ((xu_at _ F [(sg4, stC gv4), (gv4, byC cA nn0 ga4), (sg12, stC gv12), (gv12, byC cA nn8 ga12), (sg19, stC gv19), (gv19, byC cA nn16 ga19)] 4).trans rfl) ((xu_at _ F [(sg4, stC gv4), (gv4, byC cA nn0 ga4), (sg12, stC gv12), (gv12, byC cA nn8 ga12), (sg19, stC gv19), (gv19, byC cA nn16 ga19)] 5).trans rfl) hG19 hg22 hc21) ((bsG_in 1569 (by decide +kernel) rfl)) wzL_isText dpL_isText ⟨Nat.le_of_ble_eq_true rfl, Nat.le_of_ble_eq_true rfl⟩ ⟨by show (cl + 1069) + 530 ≤ 1877; omega, by show (sl + 9508) + 3200 ≤ 291880; omega⟩ rfl (Nat.le_of_ble_eq_true rfl) dL_texts_567 (fun r' X' R' hp => ?_)
            obtain ⟨e1, e2, e3⟩ := hp
            rw [e1, e2, e3]
            clear e1 e2 e3 r' X' R'
            refine x_widen (k := (cl + 1599)) (n := (sl + 12708)) (by show (cl + 1069) + 530 ≤ _; omega) (by show (sl + 9508) + 3200 ≤ _; omega) ?_
            refine x_if_eq (tgt := 577) C dL_texts_570 (by decide) (fun h23 => ?_) (fun h23 => ?_)
            · replace hf := bs_pos h23 hf
              refine x_iconst (v := 0) C dL_texts_577 (by decide) ?_
              obtain rfl := Option.some.inj hf
              refine xu_dropall ?_
              exact x_xret C (bsZ01 (by decide)).1 ⟨rfl, rfl, _, rfl⟩ (by show _ ≤ 1877; omega) (by show _ ≤ 291880; omega) dL_texts_578
            · replace hf := bs_neg h23 hf
              refine x_iconst (v := 1) C dL_texts_573 (by decide) ?_
              refine x_goto (tgt := 578) C dL_texts_574 (by decide) ?_
              obtain rfl := Option.some.inj hf
              refine xu_dropall ?_
              exact x_xret C (bsZ01 (by decide)).1 ⟨rfl, rfl, _, rfl⟩ (by show _ ≤ 1877; omega) (by show _ ≤ 291880; omega) dL_texts_578
        · replace hf := bs_pos h36 hf
          refine x_ldcSw (tx := "-") (t := 21) C (by decide +kernel) dL_texts_541 ?_
          refine x_goto (tgt := 551) C dL_texts_544 (by decide) ?_
          obtain ⟨r25, hc26, hf⟩ := bs_bind hf
          refine x_callSi (y := yL_isText) (As := [.ref (ρ 13 0 0), .int r8.2.1, .ref (ρ 16 0 21)]) (rest := []) C (cL_isTextC_ok hst (by decide) hc26) ((bsG_in 1569 (by decide +kernel) rfl)) wzL_isText dpL_isText ⟨Nat.le_of_ble_eq_true rfl, Nat.le_of_ble_eq_true rfl⟩ ⟨by show (cl + 534) + 530 ≤ 1877; omega, by show (sl + 4242) + 3200 ≤ 291880; omega⟩ rfl (Nat.le_of_ble_eq_true rfl) dL_texts_551 (fun r' X' R' hp => ?_)
          obtain ⟨e1, e2, e3⟩ := hp
          rw [e1, e2, e3]
          clear e1 e2 e3 r' X' R'
          refine x_widen (k := (cl + 1064)) (n := (sl + 7442)) (by show (cl + 534) + 530 ≤ _; omega) (by show (sl + 4242) + 3200 ≤ _; omega) ?_
          refine x_if_eq (tgt := 577) C dL_texts_554 (by decide) (fun h35 => ?_) (fun h35 => ?_)
          · replace hf := bs_pos h35 hf
            refine x_iconst (v := 0) C dL_texts_577 (by decide) ?_
            obtain rfl := Option.some.inj hf
            refine xu_dropall ?_
            exact x_xret C (bsZ01 (by decide)).1 ⟨rfl, rfl, _, rfl⟩ (by show _ ≤ 1877; omega) (by show _ ≤ 291880; omega) dL_texts_578
          · replace hf := bs_neg h35 hf
            refine x_aload_n C dL_texts_557 rfl rfl ?_
            refine x_aload_n C dL_texts_558 rfl rfl ?_
            obtain ⟨r27, hc28, hf⟩ := bs_bind hf
            obtain ⟨h029, hf⟩ := bs_if hf
            refine x_callT (y := yX8_writeMachine) (As := []) (rest := [.ref (ρ 13 0 0)]) C (cX8_writeMachine_ok hst hc28) h029 ml_L_328 wyX8_writeMachine bsm_X8 bsc_X8 rfl dpX8_writeMachine ⟨Nat.le_of_ble_eq_true rfl, Nat.le_of_ble_eq_true rfl⟩ ⟨by show (cl + 1064) + 1 ≤ 1877; omega, by show (sl + 7442) + 6 ≤ 291880; omega⟩ rfl (Nat.le_of_ble_eq_true rfl) dL_texts_559 ?_
            refine x_widen (k := (cl + 1065)) (n := (sl + 7448)) (by show (cl + 1064) + 1 ≤ _; omega) (by show (sl + 7442) + 6 ≤ _; omega) ?_
            refine x_aload C dL_texts_562 rfl ?_
            refine x_out [(sg4, stC gv4), (gv4, byC cA nn0 ga4), (sb8, sbC sv8 sm8 (nI nn8)), (sv8, byC cA sk8 sa8)] [(sb16, sbC sv16 sm16 (nI nn16)), (sv16, byC cA sk16 sa16)] [] rfl ?_
            refine x_callVr (y := yJ4_toString_0e30d) (As := []) (rest := [.int r27.2.1, .ref (ρ 13 0 0)]) C (cJ4_toString_0e30d_ok hL16 hF16 hN16 hK16) (bsG_in 1500 (by decide +kernel) rfl) wyJ4_toString_0e30d ((jd_at _ [(sb16, sbC sv16 sm16 (nI nn16)), (sv16, byC cA sk16 sa16)] 0).trans rfl) rfl dpJ4_toString_0e30d ⟨Nat.le_of_ble_eq_true rfl, Nat.le_of_ble_eq_true rfl⟩ ⟨by show (cl + 1065) + 2 ≤ 1877; omega, by show (sl + 7448) + 1030 ≤ 291880; omega⟩ rfl (Nat.le_of_ble_eq_true rfl) dL_texts_564 (fun sg30 X' R' hp => ?_)
            obtain ⟨eX, gv30, ga30, eW, hG30⟩ := hp
            rw [eX, eW]
            clear eX eW X' R'
            refine x_widen (k := (cl + 1067)) (n := (sl + 8478)) (by show (cl + 1065) + 2 ≤ _; omega) (by show (sl + 7448) + 1030 ≤ _; omega) ?_
            refine x_in [(sg4, stC gv4), (gv4, byC cA nn0 ga4), (sb8, sbC sv8 sm8 (nI nn8)), (sv8, byC cA sk8 sa8)] [(sg30, stC gv30), (gv30, byC cA nn16 ga30)] [] (W := [(sg4, stC gv4), (gv4, byC cA nn0 ga4), (sb8, sbC sv8 sm8 (nI nn8)), (sv8, byC cA sk8 sa8), (sg30, stC gv30), (gv30, byC cA nn16 ga30)]) rfl ?_
            obtain ⟨hg33, hf⟩ := bs_if hf
            obtain ⟨r31, hc32, hf⟩ := bs_bind hf
            refine x_callSi (y := yL_isText) (As := [.ref (ρ 13 0 0), .int r27.2.1, .ref sg30]) (rest := []) C (cL_isText_ok hst ((xu_at _ F [(sg4, stC gv4), (gv4, byC cA nn0 ga4), (sb8, sbC sv8 sm8 (nI nn8)), (sv8, byC cA sk8 sa8), (sg30, stC gv30), (gv30, byC cA nn16 ga30)] 4).trans rfl) ((xu_at _ F [(sg4, stC gv4), (gv4, byC cA nn0 ga4), (sb8, sbC sv8 sm8 (nI nn8)), (sv8, byC cA sk8 sa8), (sg30, stC gv30), (gv30, byC cA nn16 ga30)] 5).trans rfl) hG30 hg33 hc32) ((bsG_in 1569 (by decide +kernel) rfl)) wzL_isText dpL_isText ⟨Nat.le_of_ble_eq_true rfl, Nat.le_of_ble_eq_true rfl⟩ ⟨by show (cl + 1067) + 530 ≤ 1877; omega, by show (sl + 8478) + 3200 ≤ 291880; omega⟩ rfl (Nat.le_of_ble_eq_true rfl) dL_texts_567 (fun r' X' R' hp => ?_)
            obtain ⟨e1, e2, e3⟩ := hp
            rw [e1, e2, e3]
            clear e1 e2 e3 r' X' R'
            refine x_widen (k := (cl + 1597)) (n := (sl + 11678)) (by show (cl + 1067) + 530 ≤ _; omega) (by show (sl + 8478) + 3200 ≤ _; omega) ?_
            refine x_if_eq (tgt := 577) C dL_texts_570 (by decide) (fun h34 => ?_) (fun h34 => ?_)
            · replace hf := bs_pos h34 hf
              refine x_iconst (v := 0) C dL_texts_577 (by decide) ?_
              obtain rfl := Option.some.inj hf
              refine xu_dropall ?_
              exact x_xret C (bsZ01 (by decide)).1 ⟨rfl, rfl, _, rfl⟩ (by show _ ≤ 1877; omega) (by show _ ≤ 291880; omega) dL_texts_578
            · replace hf := bs_neg h34 hf
              refine x_iconst (v := 1) C dL_texts_573 (by decide) ?_
              refine x_goto (tgt := 578) C dL_texts_574 (by decide) ?_
              obtain rfl := Option.some.inj hf
              refine xu_dropall ?_
              exact x_xret C (bsZ01 (by decide)).1 ⟨rfl, rfl, _, rfl⟩ (by show _ ≤ 1877; omega) (by show _ ≤ 291880; omega) dL_texts_578
    · replace hf := bs_neg h41 hf
      refine x_aload_n C dL_texts_432 rfl rfl ?_
      refine xg_L_194 C dL_texts_433 ?_
      refine x_iload C dL_texts_436 rfl ?_
      obtain ⟨hg38, hf⟩ := bs_if hf
      refine xa_bts C hg38 dL_texts_438 ?_
      refine x_astore (lv' := [(6, .ref (θ 7 (bsIx x5))), (0, .ref (ρ 13 0 0)), (1, .ref (σ 0 0)), (2, .ref sb0), (3, .ref sb8), (4, .ref sb16), (5, .int x5)]) C dL_texts_439 (by decide) rfl ?_
      refine x_aload_n C dL_texts_441 rfl rfl ?_
      refine x_aload_n C dL_texts_442 rfl rfl ?_
      refine x_callVi (y := yJ4_length_8abf5) (As := []) (rest := [.ref sb8]) C (cJ4_length_8abf5_ok (v := sv8) (ml := sm8) (n := nI nn8) ((xu_at _ F [(sb0, sbC sv0 sm0 (nI nn0)), (sv0, byC cA sk0 sa0), (sb8, sbC sv8 sm8 (nI nn8)), (sv8, byC cA sk8 sa8), (sb16, sbC sv16 sm16 (nI nn16)), (sv16, byC cA sk16 sa16)] 2).trans rfl)) (bsG_in 1471 (by decide +kernel) rfl) wyJ4_length_8abf5 ((xu_at _ F [(sb0, sbC sv0 sm0 (nI nn0)), (sv0, byC cA sk0 sa0), (sb8, sbC sv8 sm8 (nI nn8)), (sv8, byC cA sk8 sa8), (sb16, sbC sv16 sm16 (nI nn16)), (sv16, byC cA sk16 sa16)] 2).trans rfl) rfl dpJ4_length_8abf5 ⟨Nat.le_of_ble_eq_true rfl, Nat.le_of_ble_eq_true rfl⟩ ⟨by show (cl) + 0 ≤ 1877; omega, by show (sl) + 0 ≤ 291880; omega⟩ rfl (Nat.le_of_ble_eq_true rfl) dL_texts_443 (fun r' X' R' hp => ?_)
      obtain ⟨e1, e2, e3⟩ := hp
      rw [e1, e2, e3]
      clear e1 e2 e3 r' X' R'
      refine x_widen (k := (cl)) (n := (sl)) (by show (cl) + 0 ≤ _; omega) (by show (sl) + 0 ≤ _; omega) ?_
      refine x_if_le (tgt := 455) C dL_texts_446 (by decide) (fun h40 => ?_) (fun h40 => ?_)
      · replace hf := bs_pos h40 hf
        refine x_ldcSw (tx := "") (t := 16) C (by decide +kernel) dL_texts_455 ?_
        refine x_sub [1, 2, 3, 4, 5, 6, 0] rfl ?_
        exact qL_texts_458 (hL_texts_422   n) C hst ih ⟨by omega, Nat.le_add_left _ _⟩ _ _ _ _ _ _ _ _ _ _ _ _ _ _ _ _ _ _ _ _ _ _ _ _ _ _ _ _ _ hL0 hF0 hN0 hK0 hL8 hF8 hN8 hK8 hL16 hF16 hN16 hK16 (bsIx_lt hg38) (by decide) (by omega) (by omega) hf
      · replace hf := bs_neg h40 hf
        refine x_ldcSw (tx := " ") (t := 18) C (by decide +kernel) dL_texts_449 ?_
        refine x_goto (tgt := 458) C dL_texts_452 (by decide) ?_
        refine x_sub [1, 2, 3, 4, 5, 6, 0] rfl ?_
        exact qL_texts_458 (hL_texts_422   n) C hst ih ⟨by omega, Nat.le_add_left _ _⟩ _ _ _ _ _ _ _ _ _ _ _ _ _ _ _ _ _ _ _ _ _ _ _ _ _ _ _ _ _ hL0 hF0 hN0 hK0 hL8 hF8 hN8 hK8 hL16 hF16 hN16 hK16 (bsIx_lt hg38) (by decide) (by omega) (by omega) hf
