theorem ml_L_120 : Cond.methodLink RL 120 yX11_why ∈ bsG := bsG_in 1303 (by decide +kernel) rfl
theorem ml_L_164 : Cond.methodLink RL 164 yX10_isEmpty ∈ bsG := bsG_in 1311 (by decide +kernel) rfl
theorem ml_L_217 : Cond.methodLink RL 217 yX11_worth ∈ bsG := bsG_in 1365 (by decide +kernel) rfl
theorem ml_X11_122 : Cond.methodLink RX11 122 yX10_isEmpty ∈ bsG := bsG_in 1307 (by decide +kernel) rfl
theorem ml_X11_126 : Cond.methodLink RX11 126 yX11_why ∈ bsG := bsG_in 1323 (by decide +kernel) rfl
theorem ml_X11_130 : Cond.methodLink RX11 130 yX11_worth ∈ bsG := bsG_in 1324 (by decide +kernel) rfl
theorem dpX10_isEmpty : (parseMethodDescriptor yX10_isEmpty.desc).map (fun d => d.parameters.length) = some 0 := by decide +kernel
theorem wyX10_isEmpty : bsWy yX10_isEmpty cX10_isEmpty 1 (some .boolean) := ⟨bsG_in 1308 (by decide +kernel) rfl, bsG_in 1309 (by decide +kernel) rfl, bsG_in 51 (by decide +kernel) rfl, bsG_in 1310 (by decide +kernel) rfl, by decide +kernel, by decide +kernel⟩
theorem dpX11_why : (parseMethodDescriptor yX11_why.desc).map (fun d => d.parameters.length) = some 1 := by decide +kernel
theorem wyX11_why : bsWy yX11_why cX11_why 3 (some .int) := ⟨bsG_in 1304 (by decide +kernel) rfl, bsG_in 1305 (by decide +kernel) rfl, bsG_in 39 (by decide +kernel) rfl, bsG_in 1306 (by decide +kernel) rfl, by decide +kernel, by decide +kernel⟩
theorem dpX11_worth : (parseMethodDescriptor yX11_worth.desc).map (fun d => d.parameters.length) = some 1 := by decide +kernel
theorem wyX11_worth : bsWy yX11_worth cX11_worth 3 (some .int) := ⟨bsG_in 1325 (by decide +kernel) rfl, bsG_in 1326 (by decide +kernel) rfl, bsG_in 39 (by decide +kernel) rfl, bsG_in 1327 (by decide +kernel) rfl, by decide +kernel, by decide +kernel⟩
theorem mm_X11_148 : Cond.methodLink RX11 148 Lib.Math.min.name ∈ bsG := bsG_in 1346 (by decide +kernel) rfl
theorem mm_X11_153 : Cond.methodLink RX11 153 Lib.Math.max.name ∈ bsG := bsG_in 1347 (by decide +kernel) rfl
/-! BootSlotsLaw$Place.isEmpty()Z -/
def hX10_isEmpty (j : Nat) (X : bsX) (Z : pY) : Option (Int32 × bsX × pY) := if 0 ≤ (Z 6 j 1) then (some ((0 : Int32), X, Z)) else (some ((1 : Int32), X, Z))
abbrev rmX10_isEmpty : Room := { frames := 0, cells := 0, slots := 0, locals := 0 }
set_option maxHeartbeats 4000000 in
set_option maxRecDepth 100000 in
theorem cX10_isEmpty_ok {l : Launch} {ρ : bsR} {sc L : Nat} {xs : Nat → Int32} {cA : Nat → ClassId} {dC : Nat → ClassId} {dI : Nat → Nat → Nat} {σ θ : xA2} {F : va_W} {j : Nat} {X : bsX} {Z : pY} (hj : j < ln Z) {z : (Int32 × bsX × pY)} (hf : hX10_isEmpty j X Z = some z) : xMi l yX10_isEmpty cX10_isEmpty 1 (some .boolean) rmX10_isEmpty ρ sc L xs cA dC dI [.ref (σ 5 j)] X (lwWs σ θ cA Z ++ F) (fun r X' R' => r = z.1 ∧ X' = z.2.1 ∧ ∃ θ' : xA2, R' = lwWs σ θ' cA z.2.2 ++ F) := by
  refine xMi_of (by decide) (Nat.le_of_ble_eq_true rfl) (fun p e s m args below meth c C => ?_)
  have C : xCx p m c cX10_isEmpty 1 s args (Cond.code yX10_isEmpty cX10_isEmpty 1 (some .boolean) :: bsG) RX10 ρ sc L xs cA dC dI (bsA ρ cA (lwWs σ θ cA Z ++ F) s.heap.size) meth (some .boolean) := C
  rw [hX10_isEmpty] at hf
  generalize (bsA ρ cA (lwWs σ θ cA Z ++ F) s.heap.size) = A at C ⊢
  refine x_sub [0] rfl ?_
  refine xu_none ?_
  refine x_aload_n C dX10_isEmpty_0 rfl rfl ?_
  refine xg_X10_7 C hj dX10_isEmpty_1 ?_
  refine x_iconst (v := 0) C dX10_isEmpty_4 (by decide) ?_
  refine xl_img C hj (by decide) dX10_isEmpty_5 ?_
  refine x_if_ge (tgt := 13) C dX10_isEmpty_6 (by decide) (fun h1 => ?_) (fun h1 => ?_)
  · replace hf := bs_pos h1 hf
    refine x_iconst (v := 0) C dX10_isEmpty_13 (by decide) ?_
    obtain rfl := Option.some.inj hf
    refine xu_dropall ?_
    exact x_xret C (bsZ01 (by decide)).1 ⟨rfl, rfl, _, rfl⟩ (by show _ ≤ 0; omega) (by show _ ≤ 0; omega) dX10_isEmpty_14
  · replace hf := bs_neg h1 hf
    refine x_iconst (v := 1) C dX10_isEmpty_9 (by decide) ?_
    refine x_goto (tgt := 14) C dX10_isEmpty_10 (by decide) ?_
    obtain rfl := Option.some.inj hf
    refine xu_dropall ?_
    exact x_xret C (bsZ01 (by decide)).1 ⟨rfl, rfl, _, rfl⟩ (by show _ ≤ 0; omega) (by show _ ≤ 0; omega) dX10_isEmpty_14
/-! BootSlotsLaw$World.why(I)I -/
def hX11_why_68 (X : bsX) (Z : pY) : Option (Int32 × bsX × pY) := some ((0 : Int32), X, Z)
def hX11_why (a1 : Int32) (X : bsX) (Z : pY) : Option (Int32 × bsX × pY) := if bsIn a1 (ln Z) then ((hX10_isEmpty (bsIx a1)  X Z).bind fun r2 => if r2.1 = 0 then (if (bsIx a1) < ln r2.2.2 then (if (r2.2.2 6 (bsIx a1) 4) = (1 : Int32) then (some ((2 : Int32), r2.2.1, r2.2.2)) else (if (r2.2.2 0 0 8) ≤ (r2.2.2 6 (bsIx a1) 1) then (if (r2.2.2 5 (bsIx a1) 2) = 0 then (some ((4 : Int32), r2.2.1, r2.2.2)) else (if (r2.2.2 5 (bsIx a1) 4) = 0 then (if (r2.2.2 5 (bsIx a1) 3) ≤ 0 then (some ((5 : Int32), r2.2.1, r2.2.2)) else (hX11_why_68    r2.2.1 r2.2.2)) else (hX11_why_68    r2.2.1 r2.2.2))) else (some ((3 : Int32), r2.2.1, r2.2.2)))) else none) else (some ((1 : Int32), r2.2.1, r2.2.2))) else none
abbrev rmX11_why : Room := { frames := 1, cells := 0, slots := 0, locals := 20 }
set_option maxHeartbeats 4000000 in
set_option maxRecDepth 100000 in
theorem qX11_why_68 {p : Program} {l : Launch} {e : Env} {s : State} {m : MethodId} {args : Array Value} {below : List Frame} {meth : Method} {c : Code} {ρ : bsR} {sc L : Nat} {xs : Nat → Int32} {cA : Nat → ClassId} {dC : Nat → ClassId} {dI : Nat → Nat → Nat} {A : Nat → Prop} {Ts : List Cond} {σ : xA2} {F : va_W} {z : (Int32 × bsX × pY)} (C : xCx p m c cX11_why 3 s args Ts RX11 ρ sc L xs cA dC dI A meth (some .int))  : ∀ (X : bsX) (Z : pY) (θ : xA2) (cl sl : Nat), cl + ((0)) ≤ 0 → sl + ((0)) ≤ 0 → hX11_why_68  X Z = some z → xV p l e rmX11_why s m args below meth c cl sl (MQ below (xQi ρ cA dC dI A (fun r X' R' => r = z.1 ∧ X' = z.2.1 ∧ ∃ θ' : xA2, R' = lwWs σ θ' cA z.2.2 ++ F)) args s rmX11_why.cells rmX11_why.slots A) ρ cA dC dI A (lwWs σ θ cA Z ++ (F ++ [])) 3 68 [] [] X := by
  intro X Z θ cl sl hcl hsl hf
  rw [hX11_why_68] at hf
  refine x_iconst (v := 0) C dX11_why_68 (by decide) ?_
  refine x_goto (tgt := 73) C dX11_why_69 (by decide) ?_
  obtain rfl := Option.some.inj hf
  refine xu_dropall ?_
  exact x_iret C ⟨rfl, rfl, _, rfl⟩ (by show _ ≤ 0; omega) (by show _ ≤ 0; omega) dX11_why_73
set_option maxHeartbeats 4000000 in
set_option maxRecDepth 100000 in
theorem cX11_why_ok {l : Launch} {ρ : bsR} {sc L : Nat} {xs : Nat → Int32} {cA : Nat → ClassId} {dC : Nat → ClassId} {dI : Nat → Nat → Nat} {σ θ : xA2} {F : va_W} {a1 : Int32} {X : bsX} {Z : pY} {z : (Int32 × bsX × pY)} (hf : hX11_why a1 X Z = some z) : xMi l yX11_why cX11_why 3 (some .int) rmX11_why ρ sc L xs cA dC dI [.ref (σ 0 0), .int a1] X (lwWs σ θ cA Z ++ F) (fun r X' R' => r = z.1 ∧ X' = z.2.1 ∧ ∃ θ' : xA2, R' = lwWs σ θ' cA z.2.2 ++ F) := by
  refine xMi_of (by decide) (Nat.le_of_ble_eq_true rfl) (fun p e s m args below meth c C => ?_)
  have C : xCx p m c cX11_why 3 s args (Cond.code yX11_why cX11_why 3 (some .int) :: bsG) RX11 ρ sc L xs cA dC dI (bsA ρ cA (lwWs σ θ cA Z ++ F) s.heap.size) meth (some .int) := C
  rw [hX11_why] at hf
  generalize (bsA ρ cA (lwWs σ θ cA Z ++ F) s.heap.size) = A at C ⊢
  refine x_sub [0, 1] rfl ?_
  refine xu_none ?_
  refine x_aload_n C dX11_why_0 rfl rfl ?_
  refine xg_X11_66 C dX11_why_1 ?_
  refine x_iload_n C dX11_why_4 rfl rfl ?_
  obtain ⟨hg1, hf⟩ := bs_if hf
  refine xa_plc C hg1 dX11_why_5 ?_
  refine x_astore_n (lv' := [(2, .ref (σ 5 (bsIx a1))), (0, .ref (σ 0 0)), (1, .int a1)]) C dX11_why_6 rfl (by decide) rfl ?_
  refine x_aload_n C dX11_why_7 rfl rfl ?_
  obtain ⟨r2, hc3, hf⟩ := bs_bind hf
  obtain ⟨q0, he⟩ := xr_plc (Z := Z) σ θ cA (F ++ []) (bsIx_lt hg1)
  refine x_callVi (y := yX10_isEmpty) (As := []) (rest := []) C (cX10_isEmpty_ok (bsIx_lt hg1) hc3) ml_X11_122 wyX10_isEmpty he rfl dpX10_isEmpty ⟨Nat.le_of_ble_eq_true rfl, Nat.le_of_ble_eq_true rfl⟩ ⟨by show (0) + 0 ≤ 0; omega, by show (0) + (0) ≤ 0; omega⟩ rfl (Nat.le_of_ble_eq_true rfl) dX11_why_8 (fun r' X' R' hp => ?_)
  obtain ⟨rfl, rfl, θ, rfl⟩ := hp
  refine x_widen (k := (0)) (n := (0)) (by show (0) + 0 ≤ _; omega) (by show (0) + (0) ≤ _; omega) ?_
  refine x_if_eq (tgt := 16) C dX11_why_11 (by decide) (fun h11 => ?_) (fun h11 => ?_)
  · replace hf := bs_pos h11 hf
    refine x_aload_n C dX11_why_16 rfl rfl ?_
    obtain ⟨hg5, hf⟩ := bs_if hf
    refine xg_X11_76 C hg5 dX11_why_17 ?_
    refine x_iconst (v := 3) C dX11_why_20 (by decide) ?_
    refine xl_img C hg5 (by decide) dX11_why_21 ?_
    refine x_iconst (v := 1) C dX11_why_22 (by decide) ?_
    refine x_icmp_ne (tgt := 28) C dX11_why_23 (by decide) (fun h10 => ?_) (fun h10 => ?_)
    · replace hf := bs_neg h10 hf
      refine x_aload_n C dX11_why_28 rfl rfl ?_
      refine xg_X11_76 C hg5 dX11_why_29 ?_
      refine x_iconst (v := 0) C dX11_why_32 (by decide) ?_
      refine xl_img C hg5 (by decide) dX11_why_33 ?_
      refine x_aload_n C dX11_why_34 rfl rfl ?_
      refine xg_X11_43 C dX11_why_35 ?_
      refine x_icmp_ge (tgt := 43) C dX11_why_38 (by decide) (fun h9 => ?_) (fun h9 => ?_)
      · replace hf := bs_pos h9 hf
        refine x_aload_n C dX11_why_43 rfl rfl ?_
        refine xg_X11_79 C hg5 dX11_why_44 ?_
        refine x_if_ne (tgt := 54) C dX11_why_47 (by decide) (fun h8 => ?_) (fun h8 => ?_)
        · replace hf := bs_neg h8 hf
          refine x_aload_n C dX11_why_54 rfl rfl ?_
          refine xg_X11_93 C hg5 dX11_why_55 ?_
          refine x_if_ne (tgt := 68) C dX11_why_58 (by decide) (fun h7 => ?_) (fun h7 => ?_)
          · replace hf := bs_neg h7 hf
            refine x_sub [] rfl ?_
            exact qX11_why_68  C   _ _ _  _ _  (by omega) (by omega) hf
          · replace hf := bs_pos h7 hf
            refine x_aload_n C dX11_why_61 rfl rfl ?_
            refine xg_X11_82 C hg5 dX11_why_62 ?_
            refine x_if_le (tgt := 72) C dX11_why_65 (by decide) (fun h6 => ?_) (fun h6 => ?_)
            · replace hf := bs_pos h6 hf
              refine x_iconst (v := 5) C dX11_why_72 (by decide) ?_
              obtain rfl := Option.some.inj hf
              refine xu_dropall ?_
              exact x_iret C ⟨rfl, rfl, _, rfl⟩ (by show _ ≤ 0; omega) (by show _ ≤ 0; omega) dX11_why_73
            · replace hf := bs_neg h6 hf
              refine x_sub [] rfl ?_
              exact qX11_why_68  C   _ _ _  _ _  (by omega) (by omega) hf
        · replace hf := bs_pos h8 hf
          refine x_iconst (v := 4) C dX11_why_50 (by decide) ?_
          refine x_goto (tgt := 73) C dX11_why_51 (by decide) ?_
          obtain rfl := Option.some.inj hf
          refine xu_dropall ?_
          exact x_iret C ⟨rfl, rfl, _, rfl⟩ (by show _ ≤ 0; omega) (by show _ ≤ 0; omega) dX11_why_73
      · replace hf := bs_neg h9 hf
        refine x_iconst (v := 3) C dX11_why_41 (by decide) ?_
        obtain rfl := Option.some.inj hf
        refine xu_dropall ?_
        exact x_iret C ⟨rfl, rfl, _, rfl⟩ (by show _ ≤ 0; omega) (by show _ ≤ 0; omega) dX11_why_42
    · replace hf := bs_pos h10 hf
      refine x_iconst (v := 2) C dX11_why_26 (by decide) ?_
      obtain rfl := Option.some.inj hf
      refine xu_dropall ?_
      exact x_iret C ⟨rfl, rfl, _, rfl⟩ (by show _ ≤ 0; omega) (by show _ ≤ 0; omega) dX11_why_27
  · replace hf := bs_neg h11 hf
    refine x_iconst (v := 1) C dX11_why_14 (by decide) ?_
    obtain rfl := Option.some.inj hf
    refine xu_dropall ?_
    exact x_iret C ⟨rfl, rfl, _, rfl⟩ (by show _ ≤ 0; omega) (by show _ ≤ 0; omega) dX11_why_15
/-! BootSlotsLaw$World.worth(I)I -/
def hX11_worth_25 (x1 : Int32) (q2 : Nat) (y0 : Int32) (y1 : Int32) (X : bsX) (Z : pY) : Option (Int32 × bsX × pY) := some (((((((y0 + y1) * (100 : Int32)) + (Z 6 q2 1)) * (10 : Int32)) + (9 : Int32)) - x1), X, Z)
def hX11_worth (a1 : Int32) (X : bsX) (Z : pY) : Option (Int32 × bsX × pY) := if bsIn a1 (ln Z) then (if (Z 5 (bsIx a1) 4) = 0 then (hX11_worth_25   a1 (bsIx a1) ((2 : Int32) * (Z 5 (bsIx a1) 2)) (0 : Int32) X Z) else (hX11_worth_25   a1 (bsIx a1) ((2 : Int32) * (Z 5 (bsIx a1) 2)) (1 : Int32) X Z)) else none
abbrev rmX11_worth : Room := { frames := 0, cells := 0, slots := 0, locals := 0 }
set_option maxHeartbeats 4000000 in
set_option maxRecDepth 100000 in
theorem qX11_worth_25 {p : Program} {l : Launch} {e : Env} {s : State} {m : MethodId} {args : Array Value} {below : List Frame} {meth : Method} {c : Code} {ρ : bsR} {sc L : Nat} {xs : Nat → Int32} {cA : Nat → ClassId} {dC : Nat → ClassId} {dI : Nat → Nat → Nat} {A : Nat → Prop} {Ts : List Cond} {σ : xA2} {F : va_W} {z : (Int32 × bsX × pY)} (C : xCx p m c cX11_worth 3 s args Ts RX11 ρ sc L xs cA dC dI A meth (some .int))  : ∀ (x1 : Int32) (q2 : Nat) (y0 : Int32) (y1 : Int32) (X : bsX) (Z : pY) (θ : xA2) (cl sl : Nat), q2 < ln Z → cl + ((0)) ≤ 0 → sl + ((0)) ≤ 0 → hX11_worth_25  x1 q2 y0 y1 X Z = some z → xV p l e rmX11_worth s m args below meth c cl sl (MQ below (xQi ρ cA dC dI A (fun r X' R' => r = z.1 ∧ X' = z.2.1 ∧ ∃ θ' : xA2, R' = lwWs σ θ' cA z.2.2 ++ F)) args s rmX11_worth.cells rmX11_worth.slots A) ρ cA dC dI A (lwWs σ θ cA Z ++ (F ++ [])) 3 25 [(1, .int x1), (2, .ref (σ 5 q2))] [.int y1, .int y0] X := by
  intro x1 q2 y0 y1 X Z θ cl sl hq2 hcl hsl hf
  rw [hX11_worth_25] at hf
  refine x_iadd C dX11_worth_25 ?_
  refine x_bipush (v := 100) C dX11_worth_26 (by decide) ?_
  refine x_imul C dX11_worth_28 ?_
  refine x_aload_n C dX11_worth_29 rfl rfl ?_
  refine xg_X11_76 C hq2 dX11_worth_30 ?_
  refine x_iconst (v := 0) C dX11_worth_33 (by decide) ?_
  refine xl_img C hq2 (by decide) dX11_worth_34 ?_
  refine x_iadd C dX11_worth_35 ?_
  refine x_bipush (v := 10) C dX11_worth_36 (by decide) ?_
  refine x_imul C dX11_worth_38 ?_
  refine x_bipush (v := 9) C dX11_worth_39 (by decide) ?_
  refine x_iadd C dX11_worth_41 ?_
  refine x_iload_n C dX11_worth_42 rfl rfl ?_
  refine x_isub C dX11_worth_43 ?_
  obtain rfl := Option.some.inj hf
  refine xu_dropall ?_
  exact x_iret C ⟨rfl, rfl, _, rfl⟩ (by show _ ≤ 0; omega) (by show _ ≤ 0; omega) dX11_worth_44
set_option maxHeartbeats 4000000 in
set_option maxRecDepth 100000 in
theorem cX11_worth_ok {l : Launch} {ρ : bsR} {sc L : Nat} {xs : Nat → Int32} {cA : Nat → ClassId} {dC : Nat → ClassId} {dI : Nat → Nat → Nat} {σ θ : xA2} {F : va_W} {a1 : Int32} {X : bsX} {Z : pY} {z : (Int32 × bsX × pY)} (hf : hX11_worth a1 X Z = some z) : xMi l yX11_worth cX11_worth 3 (some .int) rmX11_worth ρ sc L xs cA dC dI [.ref (σ 0 0), .int a1] X (lwWs σ θ cA Z ++ F) (fun r X' R' => r = z.1 ∧ X' = z.2.1 ∧ ∃ θ' : xA2, R' = lwWs σ θ' cA z.2.2 ++ F) := by
  refine xMi_of (by decide) (Nat.le_of_ble_eq_true rfl) (fun p e s m args below meth c C => ?_)
  have C : xCx p m c cX11_worth 3 s args (Cond.code yX11_worth cX11_worth 3 (some .int) :: bsG) RX11 ρ sc L xs cA dC dI (bsA ρ cA (lwWs σ θ cA Z ++ F) s.heap.size) meth (some .int) := C
  rw [hX11_worth] at hf
  generalize (bsA ρ cA (lwWs σ θ cA Z ++ F) s.heap.size) = A at C ⊢
  refine x_sub [0, 1] rfl ?_
  refine xu_none ?_
  refine x_aload_n C dX11_worth_0 rfl rfl ?_
  refine xg_X11_66 C dX11_worth_1 ?_
  refine x_iload_n C dX11_worth_4 rfl rfl ?_
  obtain ⟨hg1, hf⟩ := bs_if hf
  refine xa_plc C hg1 dX11_worth_5 ?_
  refine x_astore_n (lv' := [(2, .ref (σ 5 (bsIx a1))), (0, .ref (σ 0 0)), (1, .int a1)]) C dX11_worth_6 rfl (by decide) rfl ?_
  refine x_iconst (v := 2) C dX11_worth_7 (by decide) ?_
  refine x_aload_n C dX11_worth_8 rfl rfl ?_
  refine xg_X11_79 C (bsIx_lt hg1) dX11_worth_9 ?_
  refine x_imul C dX11_worth_12 ?_
  refine x_aload_n C dX11_worth_13 rfl rfl ?_
  refine xg_X11_93 C (bsIx_lt hg1) dX11_worth_14 ?_
  refine x_if_eq (tgt := 24) C dX11_worth_17 (by decide) (fun h2 => ?_) (fun h2 => ?_)
  · replace hf := bs_pos h2 hf
    refine x_iconst (v := 0) C dX11_worth_24 (by decide) ?_
    refine x_sub [2, 0] rfl ?_
    exact qX11_worth_25  C  _ _ _ _ _ _ _  _ _ (bsIx_lt hg1) (by omega) (by omega) hf
  · replace hf := bs_neg h2 hf
    refine x_iconst (v := 1) C dX11_worth_20 (by decide) ?_
    refine x_goto (tgt := 25) C dX11_worth_21 (by decide) ?_
    refine x_sub [2, 0] rfl ?_
    exact qX11_worth_25  C  _ _ _ _ _ _ _  _ _ (bsIx_lt hg1) (by omega) (by omega) hf
/-! BootSlotsLaw$World.choice(I)I -/
def hX11_choice_45 (k4 : Int32 → Int32 → Int32 → bsX → pY → Option (Int32 × bsX × pY)) (x1 : Int32) (x2 : Int32) (x3 : Int32) (X : bsX) (Z : pY) : Option (Int32 × bsX × pY) := k4 x1 x2 (x3 + (1 : Int32)) X Z
def hX11_choice_43 (k4 : Int32 → Int32 → Int32 → bsX → pY → Option (Int32 × bsX × pY)) (x1 : Int32) (x3 : Int32) (X : bsX) (Z : pY) : Option (Int32 × bsX × pY) := hX11_choice_45  k4 x1 x3 x3 X Z
def hX11_choice_4 : Nat → Int32 → Int32 → Int32 → bsX → pY → Option (Int32 × bsX × pY)
  | 0, _, _, _, _, _ => none
  | n + 1, x1, x2, x3, X, Z => if (nI (ln Z)) ≤ x3 then (some (x2, X, Z)) else (if x3 = x1 then (hX11_choice_45  (hX11_choice_4   n) x1 x2 x3 X Z) else ((hX11_why  x3 X Z).bind fun r1 => if r1.1 = 0 then (if x2 < 0 then (hX11_choice_43  (hX11_choice_4   n) x1 x3 r1.2.1 r1.2.2) else ((hX11_worth  x3 r1.2.1 r1.2.2).bind fun r4 => (hX11_worth  x2 r4.2.1 r4.2.2).bind fun r7 => if r4.1 ≤ r7.1 then (hX11_choice_45  (hX11_choice_4   n) x1 x2 x3 r7.2.1 r7.2.2) else (hX11_choice_43  (hX11_choice_4   n) x1 x3 r7.2.1 r7.2.2))) else (hX11_choice_45  (hX11_choice_4   n) x1 x2 x3 r1.2.1 r1.2.2)))
def hX11_choice (a1 : Int32) (X : bsX) (Z : pY) : Option (Int32 × bsX × pY) := hX11_choice_4   8 a1 (-1 : Int32) (0 : Int32) X Z
abbrev rmX11_choice : Room := { frames := 2, cells := 0, slots := 0, locals := 42 }
set_option maxHeartbeats 4000000 in
set_option maxRecDepth 100000 in
theorem qX11_choice_45 {p : Program} {l : Launch} {e : Env} {s : State} {m : MethodId} {args : Array Value} {below : List Frame} {meth : Method} {c : Code} {ρ : bsR} {sc L : Nat} {xs : Nat → Int32} {cA : Nat → ClassId} {dC : Nat → ClassId} {dI : Nat → Nat → Nat} {A : Nat → Prop} {Ts : List Cond} {σ : xA2} {F : va_W} (k4 : Int32 → Int32 → Int32 → bsX → pY → Option (Int32 × bsX × pY)) {z : (Int32 × bsX × pY)} (C : xCx p m c cX11_choice 4 s args Ts RX11 ρ sc L xs cA dC dI A meth (some .int)) {NC4 NS4 : Nat} (hk4 : ∀ (x1 : Int32) (x2 : Int32) (x3 : Int32) (X : bsX) (Z : pY) (θ : xA2) (cl sl : Nat), cl + NC4 ≤ 0 → sl + NS4 ≤ 0 → k4 x1 x2 x3 X Z = some z → xV p l e rmX11_choice s m args below meth c cl sl (MQ below (xQi ρ cA dC dI A (fun r X' R' => r = z.1 ∧ X' = z.2.1 ∧ ∃ θ' : xA2, R' = lwWs σ θ' cA z.2.2 ++ F)) args s rmX11_choice.cells rmX11_choice.slots A) ρ cA dC dI A (lwWs σ θ cA Z ++ (F ++ [])) 4 4 [(0, .ref (σ 0 0)), (1, .int x1), (2, .int x2), (3, .int x3)] [] X) (hn4 : 0 ≤ NC4 ∧ 0 ≤ NS4)  : ∀ (x1 : Int32) (x2 : Int32) (x3 : Int32) (X : bsX) (Z : pY) (θ : xA2) (cl sl : Nat), cl + ((0 + NC4)) ≤ 0 → sl + ((0 + NS4)) ≤ 0 → hX11_choice_45 k4 x1 x2 x3 X Z = some z → xV p l e rmX11_choice s m args below meth c cl sl (MQ below (xQi ρ cA dC dI A (fun r X' R' => r = z.1 ∧ X' = z.2.1 ∧ ∃ θ' : xA2, R' = lwWs σ θ' cA z.2.2 ++ F)) args s rmX11_choice.cells rmX11_choice.slots A) ρ cA dC dI A (lwWs σ θ cA Z ++ (F ++ [])) 4 45 [(0, .ref (σ 0 0)), (1, .int x1), (2, .int x2), (3, .int x3)] [] X := by
  intro x1 x2 x3 X Z θ cl sl hcl hsl hf
  rw [hX11_choice_45] at hf
  refine x_iinc (k0 := 3) (v := (x3 + (1 : Int32))) (lv' := [(3, .int (x3 + (1 : Int32))), (0, .ref (σ 0 0)), (1, .int x1), (2, .int x2)]) C dX11_choice_45 rfl rfl (by decide) rfl ?_
  refine x_goto (tgt := 4) C dX11_choice_48 (by decide) ?_
  refine x_sub [1, 2, 3, 0] rfl ?_
  exact hk4 _ _ _ _ _ _  _ _  (by omega) (by omega) hf
set_option maxHeartbeats 4000000 in
set_option maxRecDepth 100000 in
theorem qX11_choice_43 {p : Program} {l : Launch} {e : Env} {s : State} {m : MethodId} {args : Array Value} {below : List Frame} {meth : Method} {c : Code} {ρ : bsR} {sc L : Nat} {xs : Nat → Int32} {cA : Nat → ClassId} {dC : Nat → ClassId} {dI : Nat → Nat → Nat} {A : Nat → Prop} {Ts : List Cond} {σ : xA2} {F : va_W} (k4 : Int32 → Int32 → Int32 → bsX → pY → Option (Int32 × bsX × pY)) {z : (Int32 × bsX × pY)} (C : xCx p m c cX11_choice 4 s args Ts RX11 ρ sc L xs cA dC dI A meth (some .int)) {NC4 NS4 : Nat} (hk4 : ∀ (x1 : Int32) (x2 : Int32) (x3 : Int32) (X : bsX) (Z : pY) (θ : xA2) (cl sl : Nat), cl + NC4 ≤ 0 → sl + NS4 ≤ 0 → k4 x1 x2 x3 X Z = some z → xV p l e rmX11_choice s m args below meth c cl sl (MQ below (xQi ρ cA dC dI A (fun r X' R' => r = z.1 ∧ X' = z.2.1 ∧ ∃ θ' : xA2, R' = lwWs σ θ' cA z.2.2 ++ F)) args s rmX11_choice.cells rmX11_choice.slots A) ρ cA dC dI A (lwWs σ θ cA Z ++ (F ++ [])) 4 4 [(0, .ref (σ 0 0)), (1, .int x1), (2, .int x2), (3, .int x3)] [] X) (hn4 : 0 ≤ NC4 ∧ 0 ≤ NS4)  : ∀ (x1 : Int32) (x3 : Int32) (X : bsX) (Z : pY) (θ : xA2) (cl sl : Nat), cl + ((0 + NC4)) ≤ 0 → sl + ((0 + NS4)) ≤ 0 → hX11_choice_43 k4 x1 x3 X Z = some z → xV p l e rmX11_choice s m args below meth c cl sl (MQ below (xQi ρ cA dC dI A (fun r X' R' => r = z.1 ∧ X' = z.2.1 ∧ ∃ θ' : xA2, R' = lwWs σ θ' cA z.2.2 ++ F)) args s rmX11_choice.cells rmX11_choice.slots A) ρ cA dC dI A (lwWs σ θ cA Z ++ (F ++ [])) 4 43 [(0, .ref (σ 0 0)), (1, .int x1), (3, .int x3)] [] X := by
  intro x1 x3 X Z θ cl sl hcl hsl hf
  rw [hX11_choice_43] at hf
  refine x_iload_n C dX11_choice_43 rfl rfl ?_
  refine x_istore_n (lv' := [(2, .int x3), (0, .ref (σ 0 0)), (1, .int x1), (3, .int x3)]) C dX11_choice_44 rfl (by decide) rfl ?_
  refine x_sub [1, 2, 0, 3] rfl ?_
  exact qX11_choice_45 k4 C hk4 hn4 _ _ _ _ _ _  _ _  (by omega) (by omega) hf
set_option maxHeartbeats 4000000 in
set_option maxRecDepth 100000 in
theorem qX11_choice_4 {p : Program} {l : Launch} {e : Env} {s : State} {m : MethodId} {args : Array Value} {below : List Frame} {meth : Method} {c : Code} {ρ : bsR} {sc L : Nat} {xs : Nat → Int32} {cA : Nat → ClassId} {dC : Nat → ClassId} {dI : Nat → Nat → Nat} {A : Nat → Prop} {Ts : List Cond} {σ : xA2} {F : va_W} {z : (Int32 × bsX × pY)} (C : xCx p m c cX11_choice 4 s args Ts RX11 ρ sc L xs cA dC dI A meth (some .int))  : ∀ (n : Nat), ∀ (x1 : Int32) (x2 : Int32) (x3 : Int32) (X : bsX) (Z : pY) (θ : xA2) (cl sl : Nat), cl + (n * 0 + (0)) ≤ 0 → sl + (n * 0 + (0)) ≤ 0 → hX11_choice_4  n x1 x2 x3 X Z = some z → xV p l e rmX11_choice s m args below meth c cl sl (MQ below (xQi ρ cA dC dI A (fun r X' R' => r = z.1 ∧ X' = z.2.1 ∧ ∃ θ' : xA2, R' = lwWs σ θ' cA z.2.2 ++ F)) args s rmX11_choice.cells rmX11_choice.slots A) ρ cA dC dI A (lwWs σ θ cA Z ++ (F ++ [])) 4 4 [(0, .ref (σ 0 0)), (1, .int x1), (2, .int x2), (3, .int x3)] [] X := by
  intro n
  induction n with
  | zero => intro x1 x2 x3 X Z θ cl sl hcl hsl hf; exact (nomatch hf)
  | succ n ih =>
    intro x1 x2 x3 X Z θ cl sl hcl hsl hf
    rw [hX11_choice_4] at hf
    refine x_iload_n C dX11_choice_4 rfl rfl ?_
    refine x_aload_n C dX11_choice_5 rfl rfl ?_
    refine xg_X11_66 C dX11_choice_6 ?_
    refine xn_plc C dX11_choice_9 ?_
    refine x_icmp_ge (tgt := 51) C dX11_choice_10 (by decide) (fun h14 => ?_) (fun h14 => ?_)
    · replace hf := bs_pos h14 hf
      refine x_iload_n C dX11_choice_51 rfl rfl ?_
      obtain rfl := Option.some.inj hf
      refine xu_dropall ?_
      exact x_iret C ⟨rfl, rfl, _, rfl⟩ (by show _ ≤ 0; omega) (by show _ ≤ 0; omega) dX11_choice_52
    · replace hf := bs_neg h14 hf
      refine x_iload_n C dX11_choice_13 rfl rfl ?_
      refine x_iload_n C dX11_choice_14 rfl rfl ?_
      refine x_icmp_eq (tgt := 45) C dX11_choice_15 (by decide) (fun h13 => ?_) (fun h13 => ?_)
      · replace hf := bs_pos h13 hf
        refine x_sub [0, 1, 2, 3] rfl ?_
        exact qX11_choice_45 (hX11_choice_4   n) C ih ⟨by omega, by omega⟩ _ _ _ _ _ _  _ _  (by omega) (by omega) hf
      · replace hf := bs_neg h13 hf
        refine x_aload_n C dX11_choice_18 rfl rfl ?_
        refine x_iload_n C dX11_choice_19 rfl rfl ?_
        obtain ⟨r1, hc2, hf⟩ := bs_bind hf
        obtain ⟨q0, he⟩ := xr_wor σ θ cA Z (F ++ [])
        refine x_callVi (y := yX11_why) (As := [.int x3]) (rest := []) C (cX11_why_ok  hc2) ml_X11_126 wyX11_why he rfl dpX11_why ⟨Nat.le_of_ble_eq_true rfl, Nat.le_of_ble_eq_true rfl⟩ ⟨by show (cl) + 0 ≤ 0; omega, by show (sl) + (0) ≤ 0; omega⟩ rfl (Nat.le_of_ble_eq_true rfl) dX11_choice_20 (fun r' X' R' hp => ?_)
        obtain ⟨rfl, rfl, θ, rfl⟩ := hp
        refine x_widen (k := (cl)) (n := (sl)) (by show (cl) + 0 ≤ _; omega) (by show (sl) + (0) ≤ _; omega) ?_
        refine x_if_ne (tgt := 45) C dX11_choice_23 (by decide) (fun h12 => ?_) (fun h12 => ?_)
        · replace hf := bs_neg h12 hf
          refine x_sub [0, 1, 2, 3] rfl ?_
          exact qX11_choice_45 (hX11_choice_4   n) C ih ⟨by omega, by omega⟩ _ _ _ _ _ _  _ _  (by omega) (by omega) hf
        · replace hf := bs_pos h12 hf
          refine x_iload_n C dX11_choice_26 rfl rfl ?_
          refine x_if_lt (tgt := 43) C dX11_choice_27 (by decide) (fun h11 => ?_) (fun h11 => ?_)
          · replace hf := bs_pos h11 hf
            refine x_sub [0, 1, 3] rfl ?_
            exact qX11_choice_43 (hX11_choice_4   n) C ih ⟨by omega, by omega⟩ _ _ _ _ _  _ _  (by omega) (by omega) hf
          · replace hf := bs_neg h11 hf
            refine x_aload_n C dX11_choice_30 rfl rfl ?_
            refine x_iload_n C dX11_choice_31 rfl rfl ?_
            obtain ⟨r4, hc5, hf⟩ := bs_bind hf
            obtain ⟨q0, he⟩ := xr_wor σ θ cA r1.2.2 (F ++ [])
            refine x_callVi (y := yX11_worth) (As := [.int x3]) (rest := []) C (cX11_worth_ok  hc5) ml_X11_130 wyX11_worth he rfl dpX11_worth ⟨Nat.le_of_ble_eq_true rfl, Nat.le_of_ble_eq_true rfl⟩ ⟨by show (cl) + 0 ≤ 0; omega, by show (sl) + (0) ≤ 0; omega⟩ rfl (Nat.le_of_ble_eq_true rfl) dX11_choice_32 (fun r' X' R' hp => ?_)
            obtain ⟨rfl, rfl, θ, rfl⟩ := hp
            refine x_widen (k := (cl)) (n := (sl)) (by show (cl) + 0 ≤ _; omega) (by show (sl) + (0) ≤ _; omega) ?_
            refine x_aload_n C dX11_choice_35 rfl rfl ?_
            refine x_iload_n C dX11_choice_36 rfl rfl ?_
            obtain ⟨r7, hc8, hf⟩ := bs_bind hf
            obtain ⟨q0, he⟩ := xr_wor σ θ cA r4.2.2 (F ++ [])
            refine x_callVi (y := yX11_worth) (As := [.int x2]) (rest := [.int r4.1]) C (cX11_worth_ok  hc8) ml_X11_130 wyX11_worth he rfl dpX11_worth ⟨Nat.le_of_ble_eq_true rfl, Nat.le_of_ble_eq_true rfl⟩ ⟨by show (cl) + 0 ≤ 0; omega, by show (sl) + (0) ≤ 0; omega⟩ rfl (Nat.le_of_ble_eq_true rfl) dX11_choice_37 (fun r' X' R' hp => ?_)
            obtain ⟨rfl, rfl, θ, rfl⟩ := hp
            refine x_widen (k := (cl)) (n := (sl)) (by show (cl) + 0 ≤ _; omega) (by show (sl) + (0) ≤ _; omega) ?_
            refine x_icmp_le (tgt := 45) C dX11_choice_40 (by decide) (fun h10 => ?_) (fun h10 => ?_)
            · replace hf := bs_pos h10 hf
              refine x_sub [0, 1, 2, 3] rfl ?_
              exact qX11_choice_45 (hX11_choice_4   n) C ih ⟨by omega, by omega⟩ _ _ _ _ _ _  _ _  (by omega) (by omega) hf
            · replace hf := bs_neg h10 hf
              refine x_sub [0, 1, 3] rfl ?_
              exact qX11_choice_43 (hX11_choice_4   n) C ih ⟨by omega, by omega⟩ _ _ _ _ _  _ _  (by omega) (by omega) hf
set_option maxHeartbeats 4000000 in
set_option maxRecDepth 100000 in
theorem cX11_choice_ok {l : Launch} {ρ : bsR} {sc L : Nat} {xs : Nat → Int32} {cA : Nat → ClassId} {dC : Nat → ClassId} {dI : Nat → Nat → Nat} {σ θ : xA2} {F : va_W} {a1 : Int32} {X : bsX} {Z : pY} {z : (Int32 × bsX × pY)} (hf : hX11_choice a1 X Z = some z) : xMi l yX11_choice cX11_choice 4 (some .int) rmX11_choice ρ sc L xs cA dC dI [.ref (σ 0 0), .int a1] X (lwWs σ θ cA Z ++ F) (fun r X' R' => r = z.1 ∧ X' = z.2.1 ∧ ∃ θ' : xA2, R' = lwWs σ θ' cA z.2.2 ++ F) := by
  refine xMi_of (by decide) (Nat.le_of_ble_eq_true rfl) (fun p e s m args below meth c C => ?_)
  have C : xCx p m c cX11_choice 4 s args (Cond.code yX11_choice cX11_choice 4 (some .int) :: bsG) RX11 ρ sc L xs cA dC dI (bsA ρ cA (lwWs σ θ cA Z ++ F) s.heap.size) meth (some .int) := C
  rw [hX11_choice] at hf
  generalize (bsA ρ cA (lwWs σ θ cA Z ++ F) s.heap.size) = A at C ⊢
  refine x_sub [0, 1] rfl ?_
  refine xu_none ?_
  refine x_iconst (v := -1) C dX11_choice_0 (by decide) ?_
  refine x_istore_n (lv' := [(2, .int (-1 : Int32)), (0, .ref (σ 0 0)), (1, .int a1)]) C dX11_choice_1 rfl (by decide) rfl ?_
  refine x_iconst (v := 0) C dX11_choice_2 (by decide) ?_
  refine x_istore_n (lv' := [(3, .int (0 : Int32)), (2, .int (-1 : Int32)), (0, .ref (σ 0 0)), (1, .int a1)]) C dX11_choice_3 rfl (by decide) rfl ?_
  refine x_sub [2, 3, 1, 0] rfl ?_
  exact qX11_choice_4  C  8 _ _ _ _ _ _  _ _  (by show _ + (0 + _) ≤ _; omega) (by show _ + (0 + _) ≤ _; omega) hf
/-! BootSlotsLaw$World.floorWith(I)I -/
def hX11_floorWith_47 (k5 : Int32 → Int32 → Int32 → bsX → pY → Option (Int32 × bsX × pY)) (x1 : Int32) (x2 : Int32) (x3 : Int32) (X : bsX) (Z : pY) : Option (Int32 × bsX × pY) := k5 x1 x2 (x3 + (1 : Int32)) X Z
def hX11_floorWith_31 (k5 : Int32 → Int32 → Int32 → bsX → pY → Option (Int32 × bsX × pY)) (x1 : Int32) (x2 : Int32) (x3 : Int32) (X : bsX) (Z : pY) : Option (Int32 × bsX × pY) := if bsIn x3 (ln Z) then (hX11_floorWith_47  k5 x1 (bsMin x2 (Z 6 (bsIx x3) 1)) x3 X Z) else none
def hX11_floorWith_5 : Nat → Int32 → Int32 → Int32 → bsX → pY → Option (Int32 × bsX × pY)
  | 0, _, _, _, _, _ => none
  | n + 1, x1, x2, x3, X, Z => if (nI (ln Z)) ≤ x3 then (if bsIn x1 (ln Z) then ((hX10_isEmpty (bsIx x1)  X Z).bind fun r2 => if r2.1 = 0 then (some ((bsMax (r2.2.2 0 0 8) x2), r2.2.1, r2.2.2)) else (some ((r2.2.2 0 0 8), r2.2.1, r2.2.2))) else none) else (if bsIn x3 (ln Z) then (if (Z 5 (bsIx x3) 4) = 0 then (if x3 = x1 then (hX11_floorWith_31  (hX11_floorWith_5   n) x1 x2 x3 X Z) else (hX11_floorWith_47  (hX11_floorWith_5   n) x1 x2 x3 X Z)) else (hX11_floorWith_31  (hX11_floorWith_5   n) x1 x2 x3 X Z)) else none)
def hX11_floorWith (a1 : Int32) (X : bsX) (Z : pY) : Option (Int32 × bsX × pY) := hX11_floorWith_5   8 a1 (100 : Int32) (0 : Int32) X Z
abbrev rmX11_floorWith : Room := { frames := 1, cells := 0, slots := 0, locals := 30 }
set_option maxHeartbeats 4000000 in
set_option maxRecDepth 100000 in
theorem qX11_floorWith_47 {p : Program} {l : Launch} {e : Env} {s : State} {m : MethodId} {args : Array Value} {below : List Frame} {meth : Method} {c : Code} {ρ : bsR} {sc L : Nat} {xs : Nat → Int32} {cA : Nat → ClassId} {dC : Nat → ClassId} {dI : Nat → Nat → Nat} {A : Nat → Prop} {Ts : List Cond} {σ : xA2} {F : va_W} (k5 : Int32 → Int32 → Int32 → bsX → pY → Option (Int32 × bsX × pY)) {z : (Int32 × bsX × pY)} (C : xCx p m c cX11_floorWith 4 s args Ts RX11 ρ sc L xs cA dC dI A meth (some .int)) {NC5 NS5 : Nat} (hk5 : ∀ (x1 : Int32) (x2 : Int32) (x3 : Int32) (X : bsX) (Z : pY) (θ : xA2) (cl sl : Nat), cl + NC5 ≤ 0 → sl + NS5 ≤ 0 → k5 x1 x2 x3 X Z = some z → xV p l e rmX11_floorWith s m args below meth c cl sl (MQ below (xQi ρ cA dC dI A (fun r X' R' => r = z.1 ∧ X' = z.2.1 ∧ ∃ θ' : xA2, R' = lwWs σ θ' cA z.2.2 ++ F)) args s rmX11_floorWith.cells rmX11_floorWith.slots A) ρ cA dC dI A (lwWs σ θ cA Z ++ (F ++ [])) 4 5 [(0, .ref (σ 0 0)), (1, .int x1), (2, .int x2), (3, .int x3)] [] X) (hn5 : 0 ≤ NC5 ∧ 0 ≤ NS5)  : ∀ (x1 : Int32) (x2 : Int32) (x3 : Int32) (X : bsX) (Z : pY) (θ : xA2) (cl sl : Nat), cl + ((0 + NC5)) ≤ 0 → sl + ((0 + NS5)) ≤ 0 → hX11_floorWith_47 k5 x1 x2 x3 X Z = some z → xV p l e rmX11_floorWith s m args below meth c cl sl (MQ below (xQi ρ cA dC dI A (fun r X' R' => r = z.1 ∧ X' = z.2.1 ∧ ∃ θ' : xA2, R' = lwWs σ θ' cA z.2.2 ++ F)) args s rmX11_floorWith.cells rmX11_floorWith.slots A) ρ cA dC dI A (lwWs σ θ cA Z ++ (F ++ [])) 4 47 [(0, .ref (σ 0 0)), (1, .int x1), (2, .int x2), (3, .int x3)] [] X := by
  intro x1 x2 x3 X Z θ cl sl hcl hsl hf
  rw [hX11_floorWith_47] at hf
  refine x_iinc (k0 := 3) (v := (x3 + (1 : Int32))) (lv' := [(3, .int (x3 + (1 : Int32))), (0, .ref (σ 0 0)), (1, .int x1), (2, .int x2)]) C dX11_floorWith_47 rfl rfl (by decide) rfl ?_
  refine x_goto (tgt := 5) C dX11_floorWith_50 (by decide) ?_
  refine x_sub [1, 2, 3, 0] rfl ?_
  exact hk5 _ _ _ _ _ _  _ _  (by omega) (by omega) hf
set_option maxHeartbeats 4000000 in
set_option maxRecDepth 100000 in
theorem qX11_floorWith_31 {p : Program} {l : Launch} {e : Env} {s : State} {m : MethodId} {args : Array Value} {below : List Frame} {meth : Method} {c : Code} {ρ : bsR} {sc L : Nat} {xs : Nat → Int32} {cA : Nat → ClassId} {dC : Nat → ClassId} {dI : Nat → Nat → Nat} {A : Nat → Prop} {Ts : List Cond} {σ : xA2} {F : va_W} (k5 : Int32 → Int32 → Int32 → bsX → pY → Option (Int32 × bsX × pY)) {z : (Int32 × bsX × pY)} (C : xCx p m c cX11_floorWith 4 s args Ts RX11 ρ sc L xs cA dC dI A meth (some .int)) {NC5 NS5 : Nat} (hk5 : ∀ (x1 : Int32) (x2 : Int32) (x3 : Int32) (X : bsX) (Z : pY) (θ : xA2) (cl sl : Nat), cl + NC5 ≤ 0 → sl + NS5 ≤ 0 → k5 x1 x2 x3 X Z = some z → xV p l e rmX11_floorWith s m args below meth c cl sl (MQ below (xQi ρ cA dC dI A (fun r X' R' => r = z.1 ∧ X' = z.2.1 ∧ ∃ θ' : xA2, R' = lwWs σ θ' cA z.2.2 ++ F)) args s rmX11_floorWith.cells rmX11_floorWith.slots A) ρ cA dC dI A (lwWs σ θ cA Z ++ (F ++ [])) 4 5 [(0, .ref (σ 0 0)), (1, .int x1), (2, .int x2), (3, .int x3)] [] X) (hn5 : 0 ≤ NC5 ∧ 0 ≤ NS5)  : ∀ (x1 : Int32) (x2 : Int32) (x3 : Int32) (X : bsX) (Z : pY) (θ : xA2) (cl sl : Nat), cl + ((0 + NC5)) ≤ 0 → sl + ((0 + NS5)) ≤ 0 → hX11_floorWith_31 k5 x1 x2 x3 X Z = some z → xV p l e rmX11_floorWith s m args below meth c cl sl (MQ below (xQi ρ cA dC dI A (fun r X' R' => r = z.1 ∧ X' = z.2.1 ∧ ∃ θ' : xA2, R' = lwWs σ θ' cA z.2.2 ++ F)) args s rmX11_floorWith.cells rmX11_floorWith.slots A) ρ cA dC dI A (lwWs σ θ cA Z ++ (F ++ [])) 4 31 [(0, .ref (σ 0 0)), (1, .int x1), (2, .int x2), (3, .int x3)] [] X := by
  intro x1 x2 x3 X Z θ cl sl hcl hsl hf
  rw [hX11_floorWith_31] at hf
  refine x_iload_n C dX11_floorWith_31 rfl rfl ?_
  refine x_aload_n C dX11_floorWith_32 rfl rfl ?_
  refine xg_X11_66 C dX11_floorWith_33 ?_
  refine x_iload_n C dX11_floorWith_36 rfl rfl ?_
  obtain ⟨hg10, hf⟩ := bs_if hf
  refine xa_plc C hg10 dX11_floorWith_37 ?_
  refine xg_X11_76 C (bsIx_lt hg10) dX11_floorWith_38 ?_
  refine x_iconst (v := 0) C dX11_floorWith_41 (by decide) ?_
  refine xl_img C (bsIx_lt hg10) (by decide) dX11_floorWith_42 ?_
  refine x_mmin C (Nat.le_of_ble_eq_true rfl) (Nat.le_of_ble_eq_true rfl) (by show _ ≤ 0; omega) (by show _ ≤ 0; omega) (mm_X11_148) dX11_floorWith_43 ?_
  refine x_istore_n (lv' := [(2, .int (bsMin x2 (Z 6 (bsIx x3) 1))), (0, .ref (σ 0 0)), (1, .int x1), (3, .int x3)]) C dX11_floorWith_46 rfl (by decide) rfl ?_
  refine x_sub [1, 2, 0, 3] rfl ?_
  exact qX11_floorWith_47 k5 C hk5 hn5 _ _ _ _ _ _  _ _  (by omega) (by omega) hf
set_option maxHeartbeats 4000000 in
set_option maxRecDepth 100000 in
theorem qX11_floorWith_5 {p : Program} {l : Launch} {e : Env} {s : State} {m : MethodId} {args : Array Value} {below : List Frame} {meth : Method} {c : Code} {ρ : bsR} {sc L : Nat} {xs : Nat → Int32} {cA : Nat → ClassId} {dC : Nat → ClassId} {dI : Nat → Nat → Nat} {A : Nat → Prop} {Ts : List Cond} {σ : xA2} {F : va_W} {z : (Int32 × bsX × pY)} (C : xCx p m c cX11_floorWith 4 s args Ts RX11 ρ sc L xs cA dC dI A meth (some .int))  : ∀ (n : Nat), ∀ (x1 : Int32) (x2 : Int32) (x3 : Int32) (X : bsX) (Z : pY) (θ : xA2) (cl sl : Nat), cl + (n * 0 + (0)) ≤ 0 → sl + (n * 0 + (0)) ≤ 0 → hX11_floorWith_5  n x1 x2 x3 X Z = some z → xV p l e rmX11_floorWith s m args below meth c cl sl (MQ below (xQi ρ cA dC dI A (fun r X' R' => r = z.1 ∧ X' = z.2.1 ∧ ∃ θ' : xA2, R' = lwWs σ θ' cA z.2.2 ++ F)) args s rmX11_floorWith.cells rmX11_floorWith.slots A) ρ cA dC dI A (lwWs σ θ cA Z ++ (F ++ [])) 4 5 [(0, .ref (σ 0 0)), (1, .int x1), (2, .int x2), (3, .int x3)] [] X := by
  intro n
  induction n with
  | zero => intro x1 x2 x3 X Z θ cl sl hcl hsl hf; exact (nomatch hf)
  | succ n ih =>
    intro x1 x2 x3 X Z θ cl sl hcl hsl hf
    rw [hX11_floorWith_5] at hf
    refine x_iload_n C dX11_floorWith_5 rfl rfl ?_
    refine x_aload_n C dX11_floorWith_6 rfl rfl ?_
    refine xg_X11_66 C dX11_floorWith_7 ?_
    refine xn_plc C dX11_floorWith_10 ?_
    refine x_icmp_ge (tgt := 53) C dX11_floorWith_11 (by decide) (fun h9 => ?_) (fun h9 => ?_)
    · replace hf := bs_pos h9 hf
      refine x_aload_n C dX11_floorWith_53 rfl rfl ?_
      refine xg_X11_66 C dX11_floorWith_54 ?_
      refine x_iload_n C dX11_floorWith_57 rfl rfl ?_
      obtain ⟨hg1, hf⟩ := bs_if hf
      refine xa_plc C hg1 dX11_floorWith_58 ?_
      obtain ⟨r2, hc3, hf⟩ := bs_bind hf
      obtain ⟨q0, he⟩ := xr_plc (Z := Z) σ θ cA (F ++ []) (bsIx_lt hg1)
      refine x_callVi (y := yX10_isEmpty) (As := []) (rest := []) C (cX10_isEmpty_ok (bsIx_lt hg1) hc3) ml_X11_122 wyX10_isEmpty he rfl dpX10_isEmpty ⟨Nat.le_of_ble_eq_true rfl, Nat.le_of_ble_eq_true rfl⟩ ⟨by show (cl) + 0 ≤ 0; omega, by show (sl) + (0) ≤ 0; omega⟩ rfl (Nat.le_of_ble_eq_true rfl) dX11_floorWith_59 (fun r' X' R' hp => ?_)
      obtain ⟨rfl, rfl, θ, rfl⟩ := hp
      refine x_widen (k := (cl)) (n := (sl)) (by show (cl) + 0 ≤ _; omega) (by show (sl) + (0) ≤ _; omega) ?_
      refine x_if_eq (tgt := 72) C dX11_floorWith_62 (by decide) (fun h5 => ?_) (fun h5 => ?_)
      · replace hf := bs_pos h5 hf
        refine x_aload_n C dX11_floorWith_72 rfl rfl ?_
        refine xg_X11_43 C dX11_floorWith_73 ?_
        refine x_iload_n C dX11_floorWith_76 rfl rfl ?_
        refine x_mmax C (Nat.le_of_ble_eq_true rfl) (Nat.le_of_ble_eq_true rfl) (by show _ ≤ 0; omega) (by show _ ≤ 0; omega) (mm_X11_153) dX11_floorWith_77 ?_
        obtain rfl := Option.some.inj hf
        refine xu_dropall ?_
        exact x_iret C ⟨rfl, rfl, _, rfl⟩ (by show _ ≤ 0; omega) (by show _ ≤ 0; omega) dX11_floorWith_80
      · replace hf := bs_neg h5 hf
        refine x_aload_n C dX11_floorWith_65 rfl rfl ?_
        refine xg_X11_43 C dX11_floorWith_66 ?_
        refine x_goto (tgt := 80) C dX11_floorWith_69 (by decide) ?_
        obtain rfl := Option.some.inj hf
        refine xu_dropall ?_
        exact x_iret C ⟨rfl, rfl, _, rfl⟩ (by show _ ≤ 0; omega) (by show _ ≤ 0; omega) dX11_floorWith_80
    · replace hf := bs_neg h9 hf
      refine x_aload_n C dX11_floorWith_14 rfl rfl ?_
      refine xg_X11_66 C dX11_floorWith_15 ?_
      refine x_iload_n C dX11_floorWith_18 rfl rfl ?_
      obtain ⟨hg6, hf⟩ := bs_if hf
      refine xa_plc C hg6 dX11_floorWith_19 ?_
      refine xg_X11_93 C (bsIx_lt hg6) dX11_floorWith_20 ?_
      refine x_if_ne (tgt := 31) C dX11_floorWith_23 (by decide) (fun h8 => ?_) (fun h8 => ?_)
      · replace hf := bs_neg h8 hf
        refine x_sub [0, 1, 2, 3] rfl ?_
        exact qX11_floorWith_31 (hX11_floorWith_5   n) C ih ⟨by omega, by omega⟩ _ _ _ _ _ _  _ _  (by omega) (by omega) hf
      · replace hf := bs_pos h8 hf
        refine x_iload_n C dX11_floorWith_26 rfl rfl ?_
        refine x_iload_n C dX11_floorWith_27 rfl rfl ?_
        refine x_icmp_ne (tgt := 47) C dX11_floorWith_28 (by decide) (fun h7 => ?_) (fun h7 => ?_)
        · replace hf := bs_neg h7 hf
          refine x_sub [0, 1, 2, 3] rfl ?_
          exact qX11_floorWith_47 (hX11_floorWith_5   n) C ih ⟨by omega, by omega⟩ _ _ _ _ _ _  _ _  (by omega) (by omega) hf
        · replace hf := bs_pos h7 hf
          refine x_sub [0, 1, 2, 3] rfl ?_
          exact qX11_floorWith_31 (hX11_floorWith_5   n) C ih ⟨by omega, by omega⟩ _ _ _ _ _ _  _ _  (by omega) (by omega) hf
set_option maxHeartbeats 4000000 in
set_option maxRecDepth 100000 in
theorem cX11_floorWith_ok {l : Launch} {ρ : bsR} {sc L : Nat} {xs : Nat → Int32} {cA : Nat → ClassId} {dC : Nat → ClassId} {dI : Nat → Nat → Nat} {σ θ : xA2} {F : va_W} {a1 : Int32} {X : bsX} {Z : pY} {z : (Int32 × bsX × pY)} (hf : hX11_floorWith a1 X Z = some z) : xMi l yX11_floorWith cX11_floorWith 4 (some .int) rmX11_floorWith ρ sc L xs cA dC dI [.ref (σ 0 0), .int a1] X (lwWs σ θ cA Z ++ F) (fun r X' R' => r = z.1 ∧ X' = z.2.1 ∧ ∃ θ' : xA2, R' = lwWs σ θ' cA z.2.2 ++ F) := by
  refine xMi_of (by decide) (Nat.le_of_ble_eq_true rfl) (fun p e s m args below meth c C => ?_)
  have C : xCx p m c cX11_floorWith 4 s args (Cond.code yX11_floorWith cX11_floorWith 4 (some .int) :: bsG) RX11 ρ sc L xs cA dC dI (bsA ρ cA (lwWs σ θ cA Z ++ F) s.heap.size) meth (some .int) := C
  rw [hX11_floorWith] at hf
  generalize (bsA ρ cA (lwWs σ θ cA Z ++ F) s.heap.size) = A at C ⊢
  refine x_sub [0, 1] rfl ?_
  refine xu_none ?_
  refine x_bipush (v := 100) C dX11_floorWith_0 (by decide) ?_
  refine x_istore_n (lv' := [(2, .int (100 : Int32)), (0, .ref (σ 0 0)), (1, .int a1)]) C dX11_floorWith_2 rfl (by decide) rfl ?_
  refine x_iconst (v := 0) C dX11_floorWith_3 (by decide) ?_
  refine x_istore_n (lv' := [(3, .int (0 : Int32)), (2, .int (100 : Int32)), (0, .ref (σ 0 0)), (1, .int a1)]) C dX11_floorWith_4 rfl (by decide) rfl ?_
  refine x_sub [2, 3, 1, 0] rfl ?_
  exact qX11_floorWith_5  C  8 _ _ _ _ _ _  _ _  (by show _ + (0 + _) ≤ _; omega) (by show _ + (0 + _) ≤ _; omega) hf
/-! BootSlotsLaw.count(LBootSlotsLaw$World;I)I -/
def hL_count_71 (k4 : Int32 → Int32 → Int32 → bsX → pY → Option (Int32 × bsX × pY)) (x1 : Int32) (x3 : Int32) (y0 : Int32) (y1 : Int32) (X : bsX) (Z : pY) : Option (Int32 × bsX × pY) := k4 x1 (y0 + y1) (x3 + (1 : Int32)) X Z
def hL_count_4 : Nat → Int32 → Int32 → Int32 → bsX → pY → Option (Int32 × bsX × pY)
  | 0, _, _, _, _, _ => none
  | n + 1, x1, x2, x3, X, Z => if (nI (ln Z)) ≤ x3 then (some (x2, X, Z)) else (if x1 = (9 : Int32) then ((hX11_why  x3 X Z).bind fun r5 => if r5.1 = 0 then (hL_count_71  (hL_count_4   n) x1 x3 x2 (1 : Int32) r5.2.1 r5.2.2) else (hL_count_71  (hL_count_4   n) x1 x3 x2 (0 : Int32) r5.2.1 r5.2.2)) else (if x1 = (10 : Int32) then (if bsIn x3 (ln Z) then (if (Z 5 (bsIx x3) 4) = 0 then (hL_count_71  (hL_count_4   n) x1 x3 x2 (0 : Int32) X Z) else (hL_count_71  (hL_count_4   n) x1 x3 x2 (1 : Int32) X Z)) else none) else (if bsIn x3 (ln Z) then (hL_count_71  (hL_count_4   n) x1 x3 x2 (Z 5 (bsIx x3) 3) X Z) else none)))
def hL_count (a1 : Int32) (X : bsX) (Z : pY) : Option (Int32 × bsX × pY) := hL_count_4   8 a1 (0 : Int32) (0 : Int32) X Z
abbrev rmL_count : Room := { frames := 2, cells := 0, slots := 0, locals := 42 }
set_option maxHeartbeats 4000000 in
set_option maxRecDepth 100000 in
theorem qL_count_71 {p : Program} {l : Launch} {e : Env} {s : State} {m : MethodId} {args : Array Value} {below : List Frame} {meth : Method} {c : Code} {ρ : bsR} {sc L : Nat} {xs : Nat → Int32} {cA : Nat → ClassId} {dC : Nat → ClassId} {dI : Nat → Nat → Nat} {A : Nat → Prop} {Ts : List Cond} {σ : xA2} {F : va_W} (k4 : Int32 → Int32 → Int32 → bsX → pY → Option (Int32 × bsX × pY)) {z : (Int32 × bsX × pY)} (C : xCx p m c cL_count 4 s args Ts RL ρ sc L xs cA dC dI A meth (some .int)) {NC4 NS4 : Nat} (hk4 : ∀ (x1 : Int32) (x2 : Int32) (x3 : Int32) (X : bsX) (Z : pY) (θ : xA2) (cl sl : Nat), cl + NC4 ≤ 0 → sl + NS4 ≤ 0 → k4 x1 x2 x3 X Z = some z → xV p l e rmL_count s m args below meth c cl sl (MQ below (xQi ρ cA dC dI A (fun r X' R' => r = z.1 ∧ X' = z.2.1 ∧ ∃ θ' : xA2, R' = lwWs σ θ' cA z.2.2 ++ F)) args s rmL_count.cells rmL_count.slots A) ρ cA dC dI A (lwWs σ θ cA Z ++ (F ++ [])) 4 4 [(0, .ref (σ 0 0)), (1, .int x1), (2, .int x2), (3, .int x3)] [] X) (hn4 : 0 ≤ NC4 ∧ 0 ≤ NS4)  : ∀ (x1 : Int32) (x3 : Int32) (y0 : Int32) (y1 : Int32) (X : bsX) (Z : pY) (θ : xA2) (cl sl : Nat), cl + ((0 + NC4)) ≤ 0 → sl + ((0 + NS4)) ≤ 0 → hL_count_71 k4 x1 x3 y0 y1 X Z = some z → xV p l e rmL_count s m args below meth c cl sl (MQ below (xQi ρ cA dC dI A (fun r X' R' => r = z.1 ∧ X' = z.2.1 ∧ ∃ θ' : xA2, R' = lwWs σ θ' cA z.2.2 ++ F)) args s rmL_count.cells rmL_count.slots A) ρ cA dC dI A (lwWs σ θ cA Z ++ (F ++ [])) 4 71 [(0, .ref (σ 0 0)), (1, .int x1), (3, .int x3)] [.int y1, .int y0] X := by
  intro x1 x3 y0 y1 X Z θ cl sl hcl hsl hf
  rw [hL_count_71] at hf
  refine x_iadd C dL_count_71 ?_
  refine x_istore_n (lv' := [(2, .int (y0 + y1)), (0, .ref (σ 0 0)), (1, .int x1), (3, .int x3)]) C dL_count_72 rfl (by decide) rfl ?_
  refine x_iinc (k0 := 3) (v := (x3 + (1 : Int32))) (lv' := [(3, .int (x3 + (1 : Int32))), (2, .int (y0 + y1)), (0, .ref (σ 0 0)), (1, .int x1)]) C dL_count_73 rfl rfl (by decide) rfl ?_
  refine x_goto (tgt := 4) C dL_count_76 (by decide) ?_
  refine x_sub [2, 3, 1, 0] rfl ?_
  exact hk4 _ _ _ _ _ _  _ _  (by omega) (by omega) hf
set_option maxHeartbeats 4000000 in
set_option maxRecDepth 100000 in
theorem qL_count_4 {p : Program} {l : Launch} {e : Env} {s : State} {m : MethodId} {args : Array Value} {below : List Frame} {meth : Method} {c : Code} {ρ : bsR} {sc L : Nat} {xs : Nat → Int32} {cA : Nat → ClassId} {dC : Nat → ClassId} {dI : Nat → Nat → Nat} {A : Nat → Prop} {Ts : List Cond} {σ : xA2} {F : va_W} {z : (Int32 × bsX × pY)} (C : xCx p m c cL_count 4 s args Ts RL ρ sc L xs cA dC dI A meth (some .int))  : ∀ (n : Nat), ∀ (x1 : Int32) (x2 : Int32) (x3 : Int32) (X : bsX) (Z : pY) (θ : xA2) (cl sl : Nat), cl + (n * 0 + (0)) ≤ 0 → sl + (n * 0 + (0)) ≤ 0 → hL_count_4  n x1 x2 x3 X Z = some z → xV p l e rmL_count s m args below meth c cl sl (MQ below (xQi ρ cA dC dI A (fun r X' R' => r = z.1 ∧ X' = z.2.1 ∧ ∃ θ' : xA2, R' = lwWs σ θ' cA z.2.2 ++ F)) args s rmL_count.cells rmL_count.slots A) ρ cA dC dI A (lwWs σ θ cA Z ++ (F ++ [])) 4 4 [(0, .ref (σ 0 0)), (1, .int x1), (2, .int x2), (3, .int x3)] [] X := by
  intro n
  induction n with
  | zero => intro x1 x2 x3 X Z θ cl sl hcl hsl hf; exact (nomatch hf)
  | succ n ih =>
    intro x1 x2 x3 X Z θ cl sl hcl hsl hf
    rw [hL_count_4] at hf
    refine x_iload_n C dL_count_4 rfl rfl ?_
    refine x_aload_n C dL_count_5 rfl rfl ?_
    refine xg_L_114 C dL_count_6 ?_
    refine xn_plc C dL_count_9 ?_
    refine x_icmp_ge (tgt := 79) C dL_count_10 (by decide) (fun h10 => ?_) (fun h10 => ?_)
    · replace hf := bs_pos h10 hf
      refine x_iload_n C dL_count_79 rfl rfl ?_
      obtain rfl := Option.some.inj hf
      refine xu_dropall ?_
      exact x_iret C ⟨rfl, rfl, _, rfl⟩ (by show _ ≤ 0; omega) (by show _ ≤ 0; omega) dL_count_80
    · replace hf := bs_neg h10 hf
      refine x_iload_n C dL_count_13 rfl rfl ?_
      refine x_iload_n C dL_count_14 rfl rfl ?_
      refine x_bipush (v := 9) C dL_count_15 (by decide) ?_
      refine x_icmp_ne (tgt := 36) C dL_count_17 (by decide) (fun h9 => ?_) (fun h9 => ?_)
      · replace hf := bs_neg h9 hf
        refine x_iload_n C dL_count_36 rfl rfl ?_
        refine x_bipush (v := 10) C dL_count_37 (by decide) ?_
        refine x_icmp_ne (tgt := 62) C dL_count_39 (by decide) (fun h4 => ?_) (fun h4 => ?_)
        · replace hf := bs_neg h4 hf
          refine x_aload_n C dL_count_62 rfl rfl ?_
          refine xg_L_114 C dL_count_63 ?_
          refine x_iload_n C dL_count_66 rfl rfl ?_
          obtain ⟨hg1, hf⟩ := bs_if hf
          refine xa_plc C hg1 dL_count_67 ?_
          refine xg_L_129 C (bsIx_lt hg1) dL_count_68 ?_
          refine x_sub [0, 1, 3] rfl ?_
          exact qL_count_71 (hL_count_4   n) C ih ⟨by omega, by omega⟩ _ _ _ _ _ _ _  _ _  (by omega) (by omega) hf
        · replace hf := bs_pos h4 hf
          refine x_aload_n C dL_count_42 rfl rfl ?_
          refine xg_L_114 C dL_count_43 ?_
          refine x_iload_n C dL_count_46 rfl rfl ?_
          obtain ⟨hg2, hf⟩ := bs_if hf
          refine xa_plc C hg2 dL_count_47 ?_
          refine xg_L_123 C (bsIx_lt hg2) dL_count_48 ?_
          refine x_if_eq (tgt := 58) C dL_count_51 (by decide) (fun h3 => ?_) (fun h3 => ?_)
          · replace hf := bs_pos h3 hf
            refine x_iconst (v := 0) C dL_count_58 (by decide) ?_
            refine x_goto (tgt := 71) C dL_count_59 (by decide) ?_
            refine x_sub [0, 1, 3] rfl ?_
            exact qL_count_71 (hL_count_4   n) C ih ⟨by omega, by omega⟩ _ _ _ _ _ _ _  _ _  (by omega) (by omega) hf
          · replace hf := bs_neg h3 hf
            refine x_iconst (v := 1) C dL_count_54 (by decide) ?_
            refine x_goto (tgt := 71) C dL_count_55 (by decide) ?_
            refine x_sub [0, 1, 3] rfl ?_
            exact qL_count_71 (hL_count_4   n) C ih ⟨by omega, by omega⟩ _ _ _ _ _ _ _  _ _  (by omega) (by omega) hf
      · replace hf := bs_pos h9 hf
        refine x_aload_n C dL_count_20 rfl rfl ?_
        refine x_iload_n C dL_count_21 rfl rfl ?_
        obtain ⟨r5, hc6, hf⟩ := bs_bind hf
        obtain ⟨q0, he⟩ := xr_wor σ θ cA Z (F ++ [])
        refine x_callVi (y := yX11_why) (As := [.int x3]) (rest := [.int x2]) C (cX11_why_ok  hc6) ml_L_120 wyX11_why he rfl dpX11_why ⟨Nat.le_of_ble_eq_true rfl, Nat.le_of_ble_eq_true rfl⟩ ⟨by show (cl) + 0 ≤ 0; omega, by show (sl) + (0) ≤ 0; omega⟩ rfl (Nat.le_of_ble_eq_true rfl) dL_count_22 (fun r' X' R' hp => ?_)
        obtain ⟨rfl, rfl, θ, rfl⟩ := hp
        refine x_widen (k := (cl)) (n := (sl)) (by show (cl) + 0 ≤ _; omega) (by show (sl) + (0) ≤ _; omega) ?_
        refine x_if_ne (tgt := 32) C dL_count_25 (by decide) (fun h8 => ?_) (fun h8 => ?_)
        · replace hf := bs_neg h8 hf
          refine x_iconst (v := 0) C dL_count_32 (by decide) ?_
          refine x_goto (tgt := 71) C dL_count_33 (by decide) ?_
          refine x_sub [0, 1, 3] rfl ?_
          exact qL_count_71 (hL_count_4   n) C ih ⟨by omega, by omega⟩ _ _ _ _ _ _ _  _ _  (by omega) (by omega) hf
        · replace hf := bs_pos h8 hf
          refine x_iconst (v := 1) C dL_count_28 (by decide) ?_
          refine x_goto (tgt := 71) C dL_count_29 (by decide) ?_
          refine x_sub [0, 1, 3] rfl ?_
          exact qL_count_71 (hL_count_4   n) C ih ⟨by omega, by omega⟩ _ _ _ _ _ _ _  _ _  (by omega) (by omega) hf
set_option maxHeartbeats 4000000 in
set_option maxRecDepth 100000 in
theorem cL_count_ok {l : Launch} {ρ : bsR} {sc L : Nat} {xs : Nat → Int32} {cA : Nat → ClassId} {dC : Nat → ClassId} {dI : Nat → Nat → Nat} {σ θ : xA2} {F : va_W} {a1 : Int32} {X : bsX} {Z : pY} {z : (Int32 × bsX × pY)} (hf : hL_count a1 X Z = some z) : xMi l yL_count cL_count 4 (some .int) rmL_count ρ sc L xs cA dC dI [.ref (σ 0 0), .int a1] X (lwWs σ θ cA Z ++ F) (fun r X' R' => r = z.1 ∧ X' = z.2.1 ∧ ∃ θ' : xA2, R' = lwWs σ θ' cA z.2.2 ++ F) := by
  refine xMi_of (by decide) (Nat.le_of_ble_eq_true rfl) (fun p e s m args below meth c C => ?_)
  have C : xCx p m c cL_count 4 s args (Cond.code yL_count cL_count 4 (some .int) :: bsG) RL ρ sc L xs cA dC dI (bsA ρ cA (lwWs σ θ cA Z ++ F) s.heap.size) meth (some .int) := C
  rw [hL_count] at hf
  generalize (bsA ρ cA (lwWs σ θ cA Z ++ F) s.heap.size) = A at C ⊢
  refine x_sub [0, 1] rfl ?_
  refine xu_none ?_
  refine x_iconst (v := 0) C dL_count_0 (by decide) ?_
  refine x_istore_n (lv' := [(2, .int (0 : Int32)), (0, .ref (σ 0 0)), (1, .int a1)]) C dL_count_1 rfl (by decide) rfl ?_
  refine x_iconst (v := 0) C dL_count_2 (by decide) ?_
  refine x_istore_n (lv' := [(3, .int (0 : Int32)), (2, .int (0 : Int32)), (0, .ref (σ 0 0)), (1, .int a1)]) C dL_count_3 rfl (by decide) rfl ?_
  refine x_sub [2, 3, 1, 0] rfl ?_
  exact qL_count_4  C  8 _ _ _ _ _ _  _ _  (by show _ + (0 + _) ≤ _; omega) (by show _ + (0 + _) ≤ _; omega) hf
/-! BootSlotsLaw.spare(LBootSlotsLaw$World;)I -/
def hL_spare_89 (k12 : Int32 → Int32 → Int32 → bsX → pY → Option (Int32 × bsX × pY)) (x1 : Int32) (x2 : Int32) (x3 : Int32) (X : bsX) (Z : pY) : Option (Int32 × bsX × pY) := k12 x1 x2 (x3 + (-1 : Int32)) X Z
def hL_spare_84 (k12 : Int32 → Int32 → Int32 → bsX → pY → Option (Int32 × bsX × pY)) (x3 : Int32) (x4 : Int32) (X : bsX) (Z : pY) : Option (Int32 × bsX × pY) := hL_spare_89  k12 x3 x4 x3 X Z
def hL_spare_69 (k12 : Int32 → Int32 → Int32 → bsX → pY → Option (Int32 × bsX × pY)) (x1 : Int32) (x2 : Int32) (x3 : Int32) (y0 : Int32) (X : bsX) (Z : pY) : Option (Int32 × bsX × pY) := if x1 < 0 then (hL_spare_84  k12 x3 y0 X Z) else (if y0 ≤ x2 then (hL_spare_84  k12 x3 y0 X Z) else (hL_spare_89  k12 x1 x2 x3 X Z))
def hL_spare_12 : Nat → Int32 → Int32 → Int32 → bsX → pY → Option (Int32 × bsX × pY)
  | 0, _, _, _, _, _ => none
  | n + 1, x1, x2, x3, X, Z => if x3 < 0 then (some (x1, X, Z)) else (if x3 = (Z 0 0 11) then (hL_spare_89  (hL_spare_12   n) x1 x2 x3 X Z) else (if x3 = (Z 2 0 1) then (hL_spare_89  (hL_spare_12   n) x1 x2 x3 X Z) else (if bsIn x3 (ln Z) then ((hX10_isEmpty (bsIx x3)  X Z).bind fun r2 => if r2.1 = 0 then ((hX11_why  x3 r2.2.1 r2.2.2).bind fun r5 => if r5.1 = 0 then ((hX11_worth  x3 r5.2.1 r5.2.2).bind fun r8 => hL_spare_69  (hL_spare_12   n) x1 x2 x3 r8.1 r8.2.1 r8.2.2) else (hL_spare_69  (hL_spare_12   n) x1 x2 x3 (-1 : Int32) r5.2.1 r5.2.2)) else (hL_spare_69  (hL_spare_12   n) x1 x2 x3 (-2 : Int32) r2.2.1 r2.2.2)) else none)))
def hL_spare (X : bsX) (Z : pY) : Option (Int32 × bsX × pY) := hL_spare_12   8 (-1 : Int32) (0 : Int32) ((nI (ln Z)) - (1 : Int32)) X Z
abbrev rmL_spare : Room := { frames := 2, cells := 0, slots := 0, locals := 42 }
set_option maxHeartbeats 4000000 in
set_option maxRecDepth 100000 in
theorem qL_spare_89 {p : Program} {l : Launch} {e : Env} {s : State} {m : MethodId} {args : Array Value} {below : List Frame} {meth : Method} {c : Code} {ρ : bsR} {sc L : Nat} {xs : Nat → Int32} {cA : Nat → ClassId} {dC : Nat → ClassId} {dI : Nat → Nat → Nat} {A : Nat → Prop} {Ts : List Cond} {σ : xA2} {F : va_W} (k12 : Int32 → Int32 → Int32 → bsX → pY → Option (Int32 × bsX × pY)) {z : (Int32 × bsX × pY)} (C : xCx p m c cL_spare 5 s args Ts RL ρ sc L xs cA dC dI A meth (some .int)) {NC12 NS12 : Nat} (hk12 : ∀ (x1 : Int32) (x2 : Int32) (x3 : Int32) (X : bsX) (Z : pY) (θ : xA2) (cl sl : Nat), cl + NC12 ≤ 0 → sl + NS12 ≤ 0 → k12 x1 x2 x3 X Z = some z → xV p l e rmL_spare s m args below meth c cl sl (MQ below (xQi ρ cA dC dI A (fun r X' R' => r = z.1 ∧ X' = z.2.1 ∧ ∃ θ' : xA2, R' = lwWs σ θ' cA z.2.2 ++ F)) args s rmL_spare.cells rmL_spare.slots A) ρ cA dC dI A (lwWs σ θ cA Z ++ (F ++ [])) 5 12 [(0, .ref (σ 0 0)), (1, .int x1), (2, .int x2), (3, .int x3)] [] X) (hn12 : 0 ≤ NC12 ∧ 0 ≤ NS12)  : ∀ (x1 : Int32) (x2 : Int32) (x3 : Int32) (X : bsX) (Z : pY) (θ : xA2) (cl sl : Nat), cl + ((0 + NC12)) ≤ 0 → sl + ((0 + NS12)) ≤ 0 → hL_spare_89 k12 x1 x2 x3 X Z = some z → xV p l e rmL_spare s m args below meth c cl sl (MQ below (xQi ρ cA dC dI A (fun r X' R' => r = z.1 ∧ X' = z.2.1 ∧ ∃ θ' : xA2, R' = lwWs σ θ' cA z.2.2 ++ F)) args s rmL_spare.cells rmL_spare.slots A) ρ cA dC dI A (lwWs σ θ cA Z ++ (F ++ [])) 5 89 [(0, .ref (σ 0 0)), (1, .int x1), (2, .int x2), (3, .int x3)] [] X := by
  intro x1 x2 x3 X Z θ cl sl hcl hsl hf
  rw [hL_spare_89] at hf
  refine x_iinc (k0 := 3) (v := (x3 + (-1 : Int32))) (lv' := [(3, .int (x3 + (-1 : Int32))), (0, .ref (σ 0 0)), (1, .int x1), (2, .int x2)]) C dL_spare_89 rfl rfl (by decide) rfl ?_
  refine x_goto (tgt := 12) C dL_spare_92 (by decide) ?_
  refine x_sub [1, 2, 3, 0] rfl ?_
  exact hk12 _ _ _ _ _ _  _ _  (by omega) (by omega) hf
set_option maxHeartbeats 4000000 in
set_option maxRecDepth 100000 in
theorem qL_spare_84 {p : Program} {l : Launch} {e : Env} {s : State} {m : MethodId} {args : Array Value} {below : List Frame} {meth : Method} {c : Code} {ρ : bsR} {sc L : Nat} {xs : Nat → Int32} {cA : Nat → ClassId} {dC : Nat → ClassId} {dI : Nat → Nat → Nat} {A : Nat → Prop} {Ts : List Cond} {σ : xA2} {F : va_W} (k12 : Int32 → Int32 → Int32 → bsX → pY → Option (Int32 × bsX × pY)) {z : (Int32 × bsX × pY)} (C : xCx p m c cL_spare 5 s args Ts RL ρ sc L xs cA dC dI A meth (some .int)) {NC12 NS12 : Nat} (hk12 : ∀ (x1 : Int32) (x2 : Int32) (x3 : Int32) (X : bsX) (Z : pY) (θ : xA2) (cl sl : Nat), cl + NC12 ≤ 0 → sl + NS12 ≤ 0 → k12 x1 x2 x3 X Z = some z → xV p l e rmL_spare s m args below meth c cl sl (MQ below (xQi ρ cA dC dI A (fun r X' R' => r = z.1 ∧ X' = z.2.1 ∧ ∃ θ' : xA2, R' = lwWs σ θ' cA z.2.2 ++ F)) args s rmL_spare.cells rmL_spare.slots A) ρ cA dC dI A (lwWs σ θ cA Z ++ (F ++ [])) 5 12 [(0, .ref (σ 0 0)), (1, .int x1), (2, .int x2), (3, .int x3)] [] X) (hn12 : 0 ≤ NC12 ∧ 0 ≤ NS12)  : ∀ (x3 : Int32) (x4 : Int32) (X : bsX) (Z : pY) (θ : xA2) (cl sl : Nat), cl + ((0 + NC12)) ≤ 0 → sl + ((0 + NS12)) ≤ 0 → hL_spare_84 k12 x3 x4 X Z = some z → xV p l e rmL_spare s m args below meth c cl sl (MQ below (xQi ρ cA dC dI A (fun r X' R' => r = z.1 ∧ X' = z.2.1 ∧ ∃ θ' : xA2, R' = lwWs σ θ' cA z.2.2 ++ F)) args s rmL_spare.cells rmL_spare.slots A) ρ cA dC dI A (lwWs σ θ cA Z ++ (F ++ [])) 5 84 [(0, .ref (σ 0 0)), (3, .int x3), (4, .int x4)] [] X := by
  intro x3 x4 X Z θ cl sl hcl hsl hf
  rw [hL_spare_84] at hf
  refine x_iload_n C dL_spare_84 rfl rfl ?_
  refine x_istore_n (lv' := [(1, .int x3), (0, .ref (σ 0 0)), (3, .int x3), (4, .int x4)]) C dL_spare_85 rfl (by decide) rfl ?_
  refine x_iload C dL_spare_86 rfl ?_
  refine x_istore_n (lv' := [(2, .int x4), (1, .int x3), (0, .ref (σ 0 0)), (3, .int x3), (4, .int x4)]) C dL_spare_88 rfl (by decide) rfl ?_
  refine x_sub [2, 1, 0, 3] rfl ?_
  exact qL_spare_89 k12 C hk12 hn12 _ _ _ _ _ _  _ _  (by omega) (by omega) hf
set_option maxHeartbeats 4000000 in
set_option maxRecDepth 100000 in
theorem qL_spare_69 {p : Program} {l : Launch} {e : Env} {s : State} {m : MethodId} {args : Array Value} {below : List Frame} {meth : Method} {c : Code} {ρ : bsR} {sc L : Nat} {xs : Nat → Int32} {cA : Nat → ClassId} {dC : Nat → ClassId} {dI : Nat → Nat → Nat} {A : Nat → Prop} {Ts : List Cond} {σ : xA2} {F : va_W} (k12 : Int32 → Int32 → Int32 → bsX → pY → Option (Int32 × bsX × pY)) {z : (Int32 × bsX × pY)} (C : xCx p m c cL_spare 5 s args Ts RL ρ sc L xs cA dC dI A meth (some .int)) {NC12 NS12 : Nat} (hk12 : ∀ (x1 : Int32) (x2 : Int32) (x3 : Int32) (X : bsX) (Z : pY) (θ : xA2) (cl sl : Nat), cl + NC12 ≤ 0 → sl + NS12 ≤ 0 → k12 x1 x2 x3 X Z = some z → xV p l e rmL_spare s m args below meth c cl sl (MQ below (xQi ρ cA dC dI A (fun r X' R' => r = z.1 ∧ X' = z.2.1 ∧ ∃ θ' : xA2, R' = lwWs σ θ' cA z.2.2 ++ F)) args s rmL_spare.cells rmL_spare.slots A) ρ cA dC dI A (lwWs σ θ cA Z ++ (F ++ [])) 5 12 [(0, .ref (σ 0 0)), (1, .int x1), (2, .int x2), (3, .int x3)] [] X) (hn12 : 0 ≤ NC12 ∧ 0 ≤ NS12)  : ∀ (x1 : Int32) (x2 : Int32) (x3 : Int32) (y0 : Int32) (X : bsX) (Z : pY) (θ : xA2) (cl sl : Nat), cl + ((0 + NC12)) ≤ 0 → sl + ((0 + NS12)) ≤ 0 → hL_spare_69 k12 x1 x2 x3 y0 X Z = some z → xV p l e rmL_spare s m args below meth c cl sl (MQ below (xQi ρ cA dC dI A (fun r X' R' => r = z.1 ∧ X' = z.2.1 ∧ ∃ θ' : xA2, R' = lwWs σ θ' cA z.2.2 ++ F)) args s rmL_spare.cells rmL_spare.slots A) ρ cA dC dI A (lwWs σ θ cA Z ++ (F ++ [])) 5 69 [(0, .ref (σ 0 0)), (1, .int x1), (2, .int x2), (3, .int x3)] [.int y0] X := by
  intro x1 x2 x3 y0 X Z θ cl sl hcl hsl hf
  rw [hL_spare_69] at hf
  refine x_istore (lv' := [(4, .int y0), (0, .ref (σ 0 0)), (1, .int x1), (2, .int x2), (3, .int x3)]) C dL_spare_69 (by decide) rfl ?_
  refine x_iload_n C dL_spare_71 rfl rfl ?_
  refine x_if_lt (tgt := 84) C dL_spare_72 (by decide) (fun h17 => ?_) (fun h17 => ?_)
  · replace hf := bs_pos h17 hf
    refine x_sub [1, 4, 0] rfl ?_
    exact qL_spare_84 k12 C hk12 hn12 _ _ _ _ _  _ _  (by omega) (by omega) hf
  · replace hf := bs_neg h17 hf
    refine x_iload C dL_spare_75 rfl ?_
    refine x_iload_n C dL_spare_77 rfl rfl ?_
    refine x_icmp_le (tgt := 84) C dL_spare_78 (by decide) (fun h16 => ?_) (fun h16 => ?_)
    · replace hf := bs_pos h16 hf
      refine x_sub [1, 4, 0] rfl ?_
      exact qL_spare_84 k12 C hk12 hn12 _ _ _ _ _  _ _  (by omega) (by omega) hf
    · replace hf := bs_neg h16 hf
      refine x_goto (tgt := 89) C dL_spare_81 (by decide) ?_
      refine x_sub [1, 2, 3, 4] rfl ?_
      exact qL_spare_89 k12 C hk12 hn12 _ _ _ _ _ _  _ _  (by omega) (by omega) hf
set_option maxHeartbeats 4000000 in
set_option maxRecDepth 100000 in
theorem qL_spare_12 {p : Program} {l : Launch} {e : Env} {s : State} {m : MethodId} {args : Array Value} {below : List Frame} {meth : Method} {c : Code} {ρ : bsR} {sc L : Nat} {xs : Nat → Int32} {cA : Nat → ClassId} {dC : Nat → ClassId} {dI : Nat → Nat → Nat} {A : Nat → Prop} {Ts : List Cond} {σ : xA2} {F : va_W} {z : (Int32 × bsX × pY)} (C : xCx p m c cL_spare 5 s args Ts RL ρ sc L xs cA dC dI A meth (some .int))  : ∀ (n : Nat), ∀ (x1 : Int32) (x2 : Int32) (x3 : Int32) (X : bsX) (Z : pY) (θ : xA2) (cl sl : Nat), cl + (n * 0 + (0)) ≤ 0 → sl + (n * 0 + (0)) ≤ 0 → hL_spare_12  n x1 x2 x3 X Z = some z → xV p l e rmL_spare s m args below meth c cl sl (MQ below (xQi ρ cA dC dI A (fun r X' R' => r = z.1 ∧ X' = z.2.1 ∧ ∃ θ' : xA2, R' = lwWs σ θ' cA z.2.2 ++ F)) args s rmL_spare.cells rmL_spare.slots A) ρ cA dC dI A (lwWs σ θ cA Z ++ (F ++ [])) 5 12 [(0, .ref (σ 0 0)), (1, .int x1), (2, .int x2), (3, .int x3)] [] X := by
  intro n
  induction n with
  | zero => intro x1 x2 x3 X Z θ cl sl hcl hsl hf; exact (nomatch hf)
  | succ n ih =>
    intro x1 x2 x3 X Z θ cl sl hcl hsl hf
    rw [hL_spare_12] at hf
    refine x_iload_n C dL_spare_12 rfl rfl ?_
    refine x_if_lt (tgt := 95) C dL_spare_13 (by decide) (fun h15 => ?_) (fun h15 => ?_)
    · replace hf := bs_pos h15 hf
      refine x_iload_n C dL_spare_95 rfl rfl ?_
      obtain rfl := Option.some.inj hf
      refine xu_dropall ?_
      exact x_iret C ⟨rfl, rfl, _, rfl⟩ (by show _ ≤ 0; omega) (by show _ ≤ 0; omega) dL_spare_96
    · replace hf := bs_neg h15 hf
      refine x_iload_n C dL_spare_16 rfl rfl ?_
      refine x_aload_n C dL_spare_17 rfl rfl ?_
      refine xg_L_151 C dL_spare_18 ?_
      refine x_icmp_eq (tgt := 89) C dL_spare_21 (by decide) (fun h14 => ?_) (fun h14 => ?_)
      · replace hf := bs_pos h14 hf
        refine x_sub [0, 1, 2, 3] rfl ?_
        exact qL_spare_89 (hL_spare_12   n) C ih ⟨by omega, by omega⟩ _ _ _ _ _ _  _ _  (by omega) (by omega) hf
      · replace hf := bs_neg h14 hf
        refine x_iload_n C dL_spare_24 rfl rfl ?_
        refine x_aload_n C dL_spare_25 rfl rfl ?_
        refine xg_L_185 C dL_spare_26 ?_
        refine x_icmp_ne (tgt := 35) C dL_spare_29 (by decide) (fun h13 => ?_) (fun h13 => ?_)
        · replace hf := bs_neg h13 hf
          refine x_aload_n C dL_spare_35 rfl rfl ?_
          refine xg_L_114 C dL_spare_36 ?_
          refine x_iload_n C dL_spare_39 rfl rfl ?_
          obtain ⟨hg1, hf⟩ := bs_if hf
          refine xa_plc C hg1 dL_spare_40 ?_
          obtain ⟨r2, hc3, hf⟩ := bs_bind hf
          obtain ⟨q0, he⟩ := xr_plc (Z := Z) σ θ cA (F ++ []) (bsIx_lt hg1)
          refine x_callVi (y := yX10_isEmpty) (As := []) (rest := []) C (cX10_isEmpty_ok (bsIx_lt hg1) hc3) ml_L_164 wyX10_isEmpty he rfl dpX10_isEmpty ⟨Nat.le_of_ble_eq_true rfl, Nat.le_of_ble_eq_true rfl⟩ ⟨by show (cl) + 0 ≤ 0; omega, by show (sl) + (0) ≤ 0; omega⟩ rfl (Nat.le_of_ble_eq_true rfl) dL_spare_41 (fun r' X' R' hp => ?_)
          obtain ⟨rfl, rfl, θ, rfl⟩ := hp
          refine x_widen (k := (cl)) (n := (sl)) (by show (cl) + 0 ≤ _; omega) (by show (sl) + (0) ≤ _; omega) ?_
          refine x_if_eq (tgt := 52) C dL_spare_44 (by decide) (fun h12 => ?_) (fun h12 => ?_)
          · replace hf := bs_pos h12 hf
            refine x_aload_n C dL_spare_52 rfl rfl ?_
            refine x_iload_n C dL_spare_53 rfl rfl ?_
            obtain ⟨r5, hc6, hf⟩ := bs_bind hf
            obtain ⟨q0, he⟩ := xr_wor σ θ cA r2.2.2 (F ++ [])
            refine x_callVi (y := yX11_why) (As := [.int x3]) (rest := []) C (cX11_why_ok  hc6) ml_L_120 wyX11_why he rfl dpX11_why ⟨Nat.le_of_ble_eq_true rfl, Nat.le_of_ble_eq_true rfl⟩ ⟨by show (cl) + 0 ≤ 0; omega, by show (sl) + (0) ≤ 0; omega⟩ rfl (Nat.le_of_ble_eq_true rfl) dL_spare_54 (fun r' X' R' hp => ?_)
            obtain ⟨rfl, rfl, θ, rfl⟩ := hp
            refine x_widen (k := (cl)) (n := (sl)) (by show (cl) + 0 ≤ _; omega) (by show (sl) + (0) ≤ _; omega) ?_
            refine x_if_eq (tgt := 64) C dL_spare_57 (by decide) (fun h11 => ?_) (fun h11 => ?_)
            · replace hf := bs_pos h11 hf
              refine x_aload_n C dL_spare_64 rfl rfl ?_
              refine x_iload_n C dL_spare_65 rfl rfl ?_
              obtain ⟨r8, hc9, hf⟩ := bs_bind hf
              obtain ⟨q0, he⟩ := xr_wor σ θ cA r5.2.2 (F ++ [])
              refine x_callVi (y := yX11_worth) (As := [.int x3]) (rest := []) C (cX11_worth_ok  hc9) ml_L_217 wyX11_worth he rfl dpX11_worth ⟨Nat.le_of_ble_eq_true rfl, Nat.le_of_ble_eq_true rfl⟩ ⟨by show (cl) + 0 ≤ 0; omega, by show (sl) + (0) ≤ 0; omega⟩ rfl (Nat.le_of_ble_eq_true rfl) dL_spare_66 (fun r' X' R' hp => ?_)
              obtain ⟨rfl, rfl, θ, rfl⟩ := hp
              refine x_widen (k := (cl)) (n := (sl)) (by show (cl) + 0 ≤ _; omega) (by show (sl) + (0) ≤ _; omega) ?_
              refine x_sub [0, 1, 2, 3] rfl ?_
              exact qL_spare_69 (hL_spare_12   n) C ih ⟨by omega, by omega⟩ _ _ _ _ _ _ _  _ _  (by omega) (by omega) hf
            · replace hf := bs_neg h11 hf
              refine x_iconst (v := -1) C dL_spare_60 (by decide) ?_
              refine x_goto (tgt := 69) C dL_spare_61 (by decide) ?_
              refine x_sub [0, 1, 2, 3] rfl ?_
              exact qL_spare_69 (hL_spare_12   n) C ih ⟨by omega, by omega⟩ _ _ _ _ _ _ _  _ _  (by omega) (by omega) hf
          · replace hf := bs_neg h12 hf
            refine x_bipush (v := -2) C dL_spare_47 (by decide) ?_
            refine x_goto (tgt := 69) C dL_spare_49 (by decide) ?_
            refine x_sub [0, 1, 2, 3] rfl ?_
            exact qL_spare_69 (hL_spare_12   n) C ih ⟨by omega, by omega⟩ _ _ _ _ _ _ _  _ _  (by omega) (by omega) hf
        · replace hf := bs_pos h13 hf
          refine x_goto (tgt := 89) C dL_spare_32 (by decide) ?_
          refine x_sub [0, 1, 2, 3] rfl ?_
          exact qL_spare_89 (hL_spare_12   n) C ih ⟨by omega, by omega⟩ _ _ _ _ _ _  _ _  (by omega) (by omega) hf
set_option maxHeartbeats 4000000 in
set_option maxRecDepth 100000 in
theorem cL_spare_ok {l : Launch} {ρ : bsR} {sc L : Nat} {xs : Nat → Int32} {cA : Nat → ClassId} {dC : Nat → ClassId} {dI : Nat → Nat → Nat} {σ θ : xA2} {F : va_W} {X : bsX} {Z : pY} {z : (Int32 × bsX × pY)} (hf : hL_spare  X Z = some z) : xMi l yL_spare cL_spare 5 (some .int) rmL_spare ρ sc L xs cA dC dI [.ref (σ 0 0)] X (lwWs σ θ cA Z ++ F) (fun r X' R' => r = z.1 ∧ X' = z.2.1 ∧ ∃ θ' : xA2, R' = lwWs σ θ' cA z.2.2 ++ F) := by
  refine xMi_of (by decide) (Nat.le_of_ble_eq_true rfl) (fun p e s m args below meth c C => ?_)
  have C : xCx p m c cL_spare 5 s args (Cond.code yL_spare cL_spare 5 (some .int) :: bsG) RL ρ sc L xs cA dC dI (bsA ρ cA (lwWs σ θ cA Z ++ F) s.heap.size) meth (some .int) := C
  rw [hL_spare] at hf
  generalize (bsA ρ cA (lwWs σ θ cA Z ++ F) s.heap.size) = A at C ⊢
  refine x_sub [0] rfl ?_
  refine xu_none ?_
  refine x_iconst (v := -1) C dL_spare_0 (by decide) ?_
  refine x_istore_n (lv' := [(1, .int (-1 : Int32)), (0, .ref (σ 0 0))]) C dL_spare_1 rfl (by decide) rfl ?_
  refine x_iconst (v := 0) C dL_spare_2 (by decide) ?_
  refine x_istore_n (lv' := [(2, .int (0 : Int32)), (1, .int (-1 : Int32)), (0, .ref (σ 0 0))]) C dL_spare_3 rfl (by decide) rfl ?_
  refine x_aload_n C dL_spare_4 rfl rfl ?_
  refine xg_L_114 C dL_spare_5 ?_
  refine xn_plc C dL_spare_8 ?_
  refine x_iconst (v := 1) C dL_spare_9 (by decide) ?_
  refine x_isub C dL_spare_10 ?_
  refine x_istore_n (lv' := [(3, .int ((nI (ln Z)) - (1 : Int32))), (2, .int (0 : Int32)), (1, .int (-1 : Int32)), (0, .ref (σ 0 0))]) C dL_spare_11 rfl (by decide) rfl ?_
  refine x_sub [3, 2, 1, 0] rfl ?_
  exact qL_spare_12  C  8 _ _ _ _ _ _  _ _  (by show _ + (0 + _) ≤ _; omega) (by show _ + (0 + _) ≤ _; omega) hf
