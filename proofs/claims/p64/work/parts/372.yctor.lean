/-! Draws.<init>, Place.<init> -/
abbrev dNew : va_E := .inr (11, [.null, .int 0])
abbrev pNew : va_E := .inr (12, [.null, .int 0, .int 0, .int 0, .int 0, .int 0, .int 0, .int 0])
abbrev pIm0 : Nat → Int32 := (upd (upd (upd (upd (upd (fun _ => (0 : Int32)) 0 (-1)) 1 0) 2 0) 3 0) 4 0)
abbrev pOne (i : Nat) : va_E := .inr (12, [.ref i, .int 0, .int 0, .int 0, .int 0, .int 0, .int 0, .int 0])
abbrev rmX9_init : Room := { frames := 1, cells := 0, slots := 0, locals := 30 }
abbrev rmX10_init : Room := { frames := 1, cells := 1, slots := 5, locals := 30 }
theorem wiX9_init : xWi yX9_init cX9_init 2 := ⟨(bsG_in 440 (by decide +kernel) rfl), (bsG_in 38 (by decide +kernel) rfl), (bsG_in 441 (by decide +kernel) rfl), ⟨by decide +kernel, by decide +kernel⟩, rfl⟩
theorem dpX9_init : (parseMethodDescriptor yX9_init.desc).map (fun d => d.parameters.length) = some 1 := by decide +kernel
theorem wiX10_init : xWi yX10_init cX10_init 1 := ⟨(bsG_in 673 (by decide +kernel) rfl), (bsG_in 51 (by decide +kernel) rfl), (bsG_in 674 (by decide +kernel) rfl), ⟨by decide +kernel, by decide +kernel⟩, rfl⟩
theorem dpX10_init : (parseMethodDescriptor yX10_init.desc).map (fun d => d.parameters.length) = some 0 := by decide +kernel
set_option maxHeartbeats 4000000 in
set_option maxRecDepth 100000 in
theorem cX9_init_ok {l : Launch} {ρ : bsR} {sc L : Nat} {xs : Nat → Int32} {cA : Nat → ClassId} {dC : Nat → ClassId} {dI : Nat → Nat → Nat} {X : bsX} {R0 : va_W} {d : Nat} : xMvY l yX9_init cX9_init 2 none rmX9_init ρ sc L xs cA dC dI [.ref d, .ref sc] X (R0 ++ [(d, dNew)]) (fun X' R' => X' = X ∧ R' = R0 ++ [(d, dCell sc 0)]) := by
  refine xMv_ofNY (by decide +kernel) rfl (Nat.le_of_ble_eq_true rfl) (fun p e s m args below meth c hin2 C => ?_)
  have C : xCx p m c cX9_init 2 s args (Cond.code yX9_init cX9_init 2 none :: bsG) RX9 ρ sc L xs cA dC dI (bsAY ρ cA (R0 ++ [(d, dNew)]) s.heap.size) meth none := C
  refine x_subY [0, 1] rfl ?_
  refine x_aload_nY C dX9_init_0 rfl rfl ?_
  refine x_objInitY C (bsG_in 442 (by decide +kernel) rfl) dX9_init_1 ⟨Nat.le_of_ble_eq_true rfl, Nat.le_of_ble_eq_true rfl⟩ ?_
  refine x_aload_nY C dX9_init_4 rfl rfl ?_
  refine x_aload_nY C dX9_init_5 rfl rfl ?_
  refine x_putFY (Rz' := R0 ++ [(d, dCell sc 0)]) C hin2 (T := TX9) (N := 2) (k := 0) (Cn := RX9) (ref := "BootSlotsLaw$Draws") (ty := .array .int) ((jd_at R0 [(d, dNew)] 0).trans rfl) rfl bsin_X9 tyX9 tyX9_ok nmX9 (by decide) (bsG_in 443 (by decide +kernel) rfl) rfl rfl rfl rfl rfl rfl (Nat.le_of_ble_eq_true rfl) (jd_set R0 _ 0 _) dX9_init_6 ?_
  exact x_vretY C ⟨rfl, rfl⟩ (Nat.le_of_ble_eq_true rfl) (Nat.le_of_ble_eq_true rfl) dX9_init_9
set_option maxHeartbeats 4000000 in
set_option maxRecDepth 100000 in
theorem cX10_init_ok {l : Launch} {ρ : bsR} {sc L : Nat} {xs : Nat → Int32} {cA : Nat → ClassId} {dC : Nat → ClassId} {dI : Nat → Nat → Nat} {X : bsX} {R0 : va_W} {d : Nat} : xMvY l yX10_init cX10_init 1 none rmX10_init ρ sc L xs cA dC dI [.ref d] X (R0 ++ [(d, pNew)]) (fun X' R' => X' = X ∧ ∃ i : Nat, R' = R0 ++ [(d, pOne i), (i, .inl (cA 0, 5, .inl pIm0))]) := by
  refine xMv_ofNY (by decide +kernel) rfl (Nat.le_of_ble_eq_true rfl) (fun p e s m args below meth c hin2 C => ?_)
  have C : xCx p m c cX10_init 1 s args (Cond.code yX10_init cX10_init 1 none :: bsG) RX10 ρ sc L xs cA dC dI (bsAY ρ cA (R0 ++ [(d, pNew)]) s.heap.size) meth none := C
  refine x_subY [0] rfl ?_
  refine x_aload_nY C dX10_init_0 rfl rfl ?_
  refine x_objInitY C (bsG_in 675 (by decide +kernel) rfl) dX10_init_1 ⟨Nat.le_of_ble_eq_true rfl, Nat.le_of_ble_eq_true rfl⟩ ?_
  refine x_aload_nY C dX10_init_4 rfl rfl ?_
  refine x_iconstY (v := 5) C dX10_init_5 (by decide) ?_
  refine x_newiY (N := 5) C (by decide) (by decide) (by decide) ⟨Nat.le_of_ble_eq_true rfl, Nat.le_of_ble_eq_true rfl⟩ dX10_init_6 (fun i => ?_)
  refine x_eqY (Rz' := R0 ++ [(d, pNew), (i, .inl (cA 0, 5, .inl (fun _ => (0 : Int32))))]) (by rw [List.append_assoc]; rfl) ?_
  refine x_dupY C dX10_init_8 rfl ?_
  refine x_iconstY (v := 0) C dX10_init_9 (by decide) ?_
  refine x_iconstY (v := (-1)) C dX10_init_10 (by decide) ?_
  refine x_iastY (Rz' := R0 ++ [(d, pNew), (i, .inl (cA 0, 5, .inl (upd (fun _ => (0 : Int32)) 0 (-1))))]) C ((jd_at R0 _ 1).trans rfl) (by decide) (jd_set R0 _ 1 _) dX10_init_11 ?_
  refine x_dupY C dX10_init_12 rfl ?_
  refine x_iconstY (v := 1) C dX10_init_13 (by decide) ?_
  refine x_iconstY (v := 0) C dX10_init_14 (by decide) ?_
  refine x_iastY (Rz' := R0 ++ [(d, pNew), (i, .inl (cA 0, 5, .inl (upd (upd (fun _ => (0 : Int32)) 0 (-1)) 1 0)))]) C ((jd_at R0 _ 1).trans rfl) (by decide) (jd_set R0 _ 1 _) dX10_init_15 ?_
  refine x_dupY C dX10_init_16 rfl ?_
  refine x_iconstY (v := 2) C dX10_init_17 (by decide) ?_
  refine x_iconstY (v := 0) C dX10_init_18 (by decide) ?_
  refine x_iastY (Rz' := R0 ++ [(d, pNew), (i, .inl (cA 0, 5, .inl (upd (upd (upd (fun _ => (0 : Int32)) 0 (-1)) 1 0) 2 0)))]) C ((jd_at R0 _ 1).trans rfl) (by decide) (jd_set R0 _ 1 _) dX10_init_19 ?_
  refine x_dupY C dX10_init_20 rfl ?_
  refine x_iconstY (v := 3) C dX10_init_21 (by decide) ?_
  refine x_iconstY (v := 0) C dX10_init_22 (by decide) ?_
  refine x_iastY (Rz' := R0 ++ [(d, pNew), (i, .inl (cA 0, 5, .inl (upd (upd (upd (upd (fun _ => (0 : Int32)) 0 (-1)) 1 0) 2 0) 3 0)))]) C ((jd_at R0 _ 1).trans rfl) (by decide) (jd_set R0 _ 1 _) dX10_init_23 ?_
  refine x_dupY C dX10_init_24 rfl ?_
  refine x_iconstY (v := 4) C dX10_init_25 (by decide) ?_
  refine x_iconstY (v := 0) C dX10_init_26 (by decide) ?_
  refine x_iastY (Rz' := R0 ++ [(d, pNew), (i, .inl (cA 0, 5, .inl (upd (upd (upd (upd (upd (fun _ => (0 : Int32)) 0 (-1)) 1 0) 2 0) 3 0) 4 0)))]) C ((jd_at R0 _ 1).trans rfl) (by decide) (jd_set R0 _ 1 _) dX10_init_27 ?_
  refine x_putY (Rz' := R0 ++ [(d, pOne i), (i, .inl (cA 0, 5, .inl pIm0))]) C (T := TX10) (N := 8) (k := 0) (Cn := RX10) (ref := "BootSlotsLaw$Place") (ty := .array .int) ((jd_at R0 _ 0).trans rfl) rfl bsin_X10 tyX10 tyX10_ok nmX10 (by decide) (bsG_in 676 (by decide +kernel) rfl) rfl rfl rfl rfl rfl (Nat.le_of_ble_eq_true rfl) (jd_set R0 _ 0 _) dX10_init_28 ?_
  exact x_vretY C ⟨rfl, i, rfl⟩ (Nat.le_of_ble_eq_true rfl) (Nat.le_of_ble_eq_true rfl) dX10_init_31
