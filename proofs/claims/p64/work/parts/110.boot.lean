theorem ml_X8_48 : Cond.methodLink RX8 48 yX4_addFour ∈ bsG := bsG_in 812 (by decide +kernel) rfl
theorem ml_X8_55 : Cond.methodLink RX8 55 yX4_parse ∈ bsG := bsG_in 884 (by decide +kernel) rfl
theorem ml_X8_65 : Cond.methodLink RX8 65 yX3_copyFrom ∈ bsG := bsG_in 997 (by decide +kernel) rfl
theorem ml_X8_73 : Cond.methodLink RX8 73 yX8_forgetChanges ∈ bsG := bsG_in 998 (by decide +kernel) rfl
theorem ml_X8_82 : Cond.methodLink RX8 82 yX8_requireLoaded ∈ bsG := bsG_in 1016 (by decide +kernel) rfl
theorem ml_X8_100 : Cond.methodLink RX8 100 yX3_state ∈ bsG := bsG_in 1035 (by decide +kernel) rfl
theorem ml_X8_110 : Cond.methodLink RX8 110 yX3_bootableSlots ∈ bsG := bsG_in 1043 (by decide +kernel) rfl
theorem ml_X8_113 : Cond.methodLink RX8 113 yX3_goodSlots ∈ bsG := bsG_in 1055 (by decide +kernel) rfl
theorem ml_X8_116 : Cond.methodLink RX8 116 yX3_allTries ∈ bsG := bsG_in 1059 (by decide +kernel) rfl
theorem ml_X8_155 : Cond.methodLink RX8 155 yX8_requireSlot ∈ bsG := bsG_in 1067 (by decide +kernel) rfl
theorem ml_X8_173 : Cond.methodLink RX8 173 yX8_bit ∈ bsG := bsG_in 1071 (by decide +kernel) rfl
theorem ml_X8_189 : Cond.methodLink RX8 189 yX3_isBootable ∈ bsG := bsG_in 1074 (by decide +kernel) rfl
theorem ml_X8_198 : Cond.methodLink RX8 198 yX8_requireWithin ∈ bsG := bsG_in 1079 (by decide +kernel) rfl
theorem ml_X8_221 : Cond.methodLink RX8 221 yX2_isOn ∈ bsG := bsG_in 1086 (by decide +kernel) rfl
theorem ml_X8_235 : Cond.methodLink RX8 235 yX0_rowOf ∈ bsG := bsG_in 1094 (by decide +kernel) rfl
theorem ml_X8_251 : Cond.methodLink RX8 251 yX3_obstacle ∈ bsG := bsG_in 1371 (by decide +kernel) rfl
theorem ml_X8_255 : Cond.methodLink RX8 255 yX3_firstBut ∈ bsG := bsG_in 1424 (by decide +kernel) rfl
theorem ml_X8_258 : Cond.methodLink RX8 258 yX5_isAheadOf ∈ bsG := bsG_in 1379 (by decide +kernel) rfl
theorem ml_X8_261 : Cond.methodLink RX8 261 yX8_hurtsLess ∈ bsG := bsG_in 1435 (by decide +kernel) rfl
theorem ml_X8_265 : Cond.methodLink RX8 265 yX8_harm ∈ bsG := bsG_in 1439 (by decide +kernel) rfl
theorem ml_X8_268 : Cond.methodLink RX8 268 yX3_isRunning ∈ bsG := bsG_in 1430 (by decide +kernel) rfl
theorem ml_X8_271 : Cond.methodLink RX8 271 yX3_floorByGoodAnd ∈ bsG := bsG_in 1393 (by decide +kernel) rfl
theorem ml_X8_274 : Cond.methodLink RX8 274 yX0_kept ∈ bsG := bsG_in 1388 (by decide +kernel) rfl
theorem ml_X8_277 : Cond.methodLink RX8 277 yX8_lookAhead ∈ bsG := bsG_in 1261 (by decide +kernel) rfl
theorem ml_X8_295 : Cond.methodLink RX8 295 yX3_settle ∈ bsG := bsG_in 1265 (by decide +kernel) rfl
theorem dpX0_rowOf : (parseMethodDescriptor yX0_rowOf.desc).map (fun d => d.parameters.length) = some 1 := by decide +kernel
theorem wyX0_rowOf : bsWy yX0_rowOf cX0_rowOf 2 (some .int) := ⟨bsG_in 1095 (by decide +kernel) rfl, bsG_in 1096 (by decide +kernel) rfl, bsG_in 57 (by decide +kernel) rfl, bsG_in 1097 (by decide +kernel) rfl, by decide +kernel, by decide +kernel⟩
theorem dpX3_allTries : (parseMethodDescriptor yX3_allTries.desc).map (fun d => d.parameters.length) = some 0 := by decide +kernel
theorem wyX3_allTries : bsWy yX3_allTries cX3_allTries 3 (some .int) := ⟨bsG_in 1060 (by decide +kernel) rfl, bsG_in 1061 (by decide +kernel) rfl, bsG_in 54 (by decide +kernel) rfl, bsG_in 1062 (by decide +kernel) rfl, by decide +kernel, by decide +kernel⟩
theorem dpX3_bootableSlots : (parseMethodDescriptor yX3_bootableSlots.desc).map (fun d => d.parameters.length) = some 0 := by decide +kernel
theorem wyX3_bootableSlots : bsWy yX3_bootableSlots cX3_bootableSlots 3 (some .int) := ⟨bsG_in 1044 (by decide +kernel) rfl, bsG_in 1045 (by decide +kernel) rfl, bsG_in 54 (by decide +kernel) rfl, bsG_in 1046 (by decide +kernel) rfl, by decide +kernel, by decide +kernel⟩
theorem dpX3_goodSlots : (parseMethodDescriptor yX3_goodSlots.desc).map (fun d => d.parameters.length) = some 0 := by decide +kernel
theorem wyX3_goodSlots : bsWy yX3_goodSlots cX3_goodSlots 3 (some .int) := ⟨bsG_in 1056 (by decide +kernel) rfl, bsG_in 1057 (by decide +kernel) rfl, bsG_in 54 (by decide +kernel) rfl, bsG_in 1058 (by decide +kernel) rfl, by decide +kernel, by decide +kernel⟩
theorem dpX3_obstacle : (parseMethodDescriptor yX3_obstacle.desc).map (fun d => d.parameters.length) = some 1 := by decide +kernel
theorem wyX3_obstacle : bsWy yX3_obstacle cX3_obstacle 2 (some .int) := ⟨bsG_in 1372 (by decide +kernel) rfl, bsG_in 1373 (by decide +kernel) rfl, bsG_in 54 (by decide +kernel) rfl, bsG_in 1374 (by decide +kernel) rfl, by decide +kernel, by decide +kernel⟩
theorem dpX3_settle : (parseMethodDescriptor yX3_settle.desc).map (fun d => d.parameters.length) = some 1 := by decide +kernel
theorem wyX3_settle : bsWy yX3_settle cX3_settle 3 none := ⟨bsG_in 1266 (by decide +kernel) rfl, bsG_in 1267 (by decide +kernel) rfl, bsG_in 54 (by decide +kernel) rfl, bsG_in 1268 (by decide +kernel) rfl, by decide +kernel, by decide +kernel⟩
theorem dpX3_state : (parseMethodDescriptor yX3_state.desc).map (fun d => d.parameters.length) = some 0 := by decide +kernel
theorem wyX3_state : bsWy yX3_state cX3_state 1 (some .int) := ⟨bsG_in 1036 (by decide +kernel) rfl, bsG_in 1037 (by decide +kernel) rfl, bsG_in 54 (by decide +kernel) rfl, bsG_in 1038 (by decide +kernel) rfl, by decide +kernel, by decide +kernel⟩
theorem dpX4_addFour : (parseMethodDescriptor yX4_addFour.desc).map (fun d => d.parameters.length) = some 1 := by decide +kernel
theorem wyX4_addFour : bsWy yX4_addFour cX4_addFour 3 none := ⟨bsG_in 813 (by decide +kernel) rfl, bsG_in 814 (by decide +kernel) rfl, bsG_in 53 (by decide +kernel) rfl, bsG_in 815 (by decide +kernel) rfl, by decide +kernel, by decide +kernel⟩
theorem dpX4_parse : (parseMethodDescriptor yX4_parse.desc).map (fun d => d.parameters.length) = some 2 := by decide +kernel
theorem wyX4_parse : bsWy yX4_parse cX4_parse 4 none := ⟨bsG_in 885 (by decide +kernel) rfl, bsG_in 886 (by decide +kernel) rfl, bsG_in 53 (by decide +kernel) rfl, bsG_in 887 (by decide +kernel) rfl, by decide +kernel, by decide +kernel⟩
theorem dpX8_bit : (parseMethodDescriptor yX8_bit.desc).map (fun d => d.parameters.length) = some 1 := by decide +kernel
theorem wzX8_bit : bsWz yX8_bit cX8_bit 1 (some .int) := ⟨bsG_in 1072 (by decide +kernel) rfl, bsG_in 52 (by decide +kernel) rfl, bsG_in 1073 (by decide +kernel) rfl, by decide +kernel, by decide +kernel⟩
theorem dpX8_forgetChanges : (parseMethodDescriptor yX8_forgetChanges.desc).map (fun d => d.parameters.length) = some 0 := by decide +kernel
theorem wyX8_forgetChanges : bsWy yX8_forgetChanges cX8_forgetChanges 1 none := ⟨bsG_in 1000 (by decide +kernel) rfl, bsG_in 13 (by decide +kernel) rfl, bsG_in 52 (by decide +kernel) rfl, bsG_in 1001 (by decide +kernel) rfl, by decide +kernel, by decide +kernel⟩
theorem dpX8_harm : (parseMethodDescriptor yX8_harm.desc).map (fun d => d.parameters.length) = some 1 := by decide +kernel
theorem wyX8_harm : bsWy yX8_harm cX8_harm 2 (some .int) := ⟨bsG_in 1441 (by decide +kernel) rfl, bsG_in 32 (by decide +kernel) rfl, bsG_in 52 (by decide +kernel) rfl, bsG_in 1442 (by decide +kernel) rfl, by decide +kernel, by decide +kernel⟩
theorem dpX8_hurtsLess : (parseMethodDescriptor yX8_hurtsLess.desc).map (fun d => d.parameters.length) = some 2 := by decide +kernel
theorem wyX8_hurtsLess : bsWy yX8_hurtsLess cX8_hurtsLess 5 (some .boolean) := ⟨bsG_in 1437 (by decide +kernel) rfl, bsG_in 31 (by decide +kernel) rfl, bsG_in 52 (by decide +kernel) rfl, bsG_in 1438 (by decide +kernel) rfl, by decide +kernel, by decide +kernel⟩
theorem dpX8_lookAhead : (parseMethodDescriptor yX8_lookAhead.desc).map (fun d => d.parameters.length) = some 1 := by decide +kernel
theorem wyX8_lookAhead : bsWy yX8_lookAhead cX8_lookAhead 2 none := ⟨bsG_in 1263 (by decide +kernel) rfl, bsG_in 28 (by decide +kernel) rfl, bsG_in 52 (by decide +kernel) rfl, bsG_in 1264 (by decide +kernel) rfl, by decide +kernel, by decide +kernel⟩
theorem dpX8_requireLoaded : (parseMethodDescriptor yX8_requireLoaded.desc).map (fun d => d.parameters.length) = some 0 := by decide +kernel
theorem wyX8_requireLoaded : bsWy yX8_requireLoaded cX8_requireLoaded 1 none := ⟨bsG_in 1018 (by decide +kernel) rfl, bsG_in 14 (by decide +kernel) rfl, bsG_in 52 (by decide +kernel) rfl, bsG_in 1019 (by decide +kernel) rfl, by decide +kernel, by decide +kernel⟩
theorem dpX8_requireSlot : (parseMethodDescriptor yX8_requireSlot.desc).map (fun d => d.parameters.length) = some 1 := by decide +kernel
theorem wyX8_requireSlot : bsWy yX8_requireSlot cX8_requireSlot 2 none := ⟨bsG_in 1069 (by decide +kernel) rfl, bsG_in 15 (by decide +kernel) rfl, bsG_in 52 (by decide +kernel) rfl, bsG_in 1070 (by decide +kernel) rfl, by decide +kernel, by decide +kernel⟩
theorem dpX8_requireWithin : (parseMethodDescriptor yX8_requireWithin.desc).map (fun d => d.parameters.length) = some 3 := by decide +kernel
theorem wzX8_requireWithin : bsWz yX8_requireWithin cX8_requireWithin 3 none := ⟨bsG_in 1080 (by decide +kernel) rfl, bsG_in 52 (by decide +kernel) rfl, bsG_in 1081 (by decide +kernel) rfl, by decide +kernel, by decide +kernel⟩
/-! BootSlots.append(IIIII)I -/
def fX8_append (a1 : Int32) (a2 : Int32) (a3 : Int32) (a4 : Int32) (a5 : Int32) (X : bsX) : Option (Int32 × bsX) := if ((X 13 1 0 3) + (20 : Int32)) ≤ (600 : Int32) then ((fX4_addFour  a1 X).bind fun r1 => (fX4_addFour  a2 r1).bind fun r3 => (fX4_addFour  a3 r3).bind fun r5 => (fX4_addFour  a4 r5).bind fun r7 => (fX4_addFour  a5 r7).bind fun r9 => some ((r9 13 1 0 3), r9)) else (some ((-1 : Int32), X))
abbrev rmX8_append : Room := { frames := 1, cells := 0, slots := 0, locals := 22 }
set_option maxHeartbeats 4000000 in
set_option maxRecDepth 100000 in
theorem cX8_append_ok {l : Launch} {ρ : bsR} {cA : Nat → ClassId} {dC : Nat → ClassId} {dI : Nat → Nat → Nat} {Rz : va_W}  {a1 : Int32} {a2 : Int32} {a3 : Int32} {a4 : Int32} {a5 : Int32} {X : bsX} {z : (Int32 × bsX)} (hf : fX8_append a1 a2 a3 a4 a5 X = some z) : bsMi l yX8_append cX8_append 6 (some .int) rmX8_append ρ cA dC dI Rz [.ref (ρ 13 0 0), .int a1, .int a2, .int a3, .int a4, .int a5] X z := by
  refine bsMi_of (by decide) (Nat.le_of_ble_eq_true rfl) (fun p e s m args below meth c C => ?_)
  have C : bsCx p m c cX8_append 6 s args (Cond.code yX8_append cX8_append 6 (some .int) :: bsG) RX8 ρ cA dC dI Rz meth (some .int) := C
  rw [fX8_append] at hf
  refine v_sub [0, 1, 2, 3, 4, 5] rfl ?_
  refine v_aload_n C dX8_append_0 rfl rfl ?_
  refine gf_X8_10 C dX8_append_1 ?_
  refine gf_X8_44 C dX8_append_4 ?_
  refine v_bipush (v := 20) C dX8_append_7 (by decide) ?_
  refine v_iadd C dX8_append_9 ?_
  refine v_sipush (v := 600) C dX8_append_10 (by decide) ?_
  refine v_icmp_le (tgt := 18) C dX8_append_13 (by decide) (fun h11 => ?_) (fun h11 => ?_)
  · replace hf := bs_pos h11 hf
    refine v_aload_n C dX8_append_18 rfl rfl ?_
    refine gf_X8_10 C dX8_append_19 ?_
    refine v_iload_n C dX8_append_22 rfl rfl ?_
    obtain ⟨r1, hc2, hf⟩ := bs_bind hf
    refine v_callVv (y := yX4_addFour) (As := [.int a1]) (rest := []) C (cX4_addFour_ok  hc2) ml_X8_48 wyX4_addFour (bsm_X4) (bsc_X4) rfl dpX4_addFour ⟨Nat.le_of_ble_eq_true rfl, Nat.le_of_ble_eq_true rfl⟩ ⟨rfl, rfl⟩ ⟨Nat.le_of_ble_eq_true rfl, Nat.le_of_ble_eq_true rfl⟩ rfl (Nat.le_of_ble_eq_true rfl) dX8_append_23 ?_
    refine v_aload_n C dX8_append_26 rfl rfl ?_
    refine gf_X8_10 C dX8_append_27 ?_
    refine v_iload_n C dX8_append_30 rfl rfl ?_
    obtain ⟨r3, hc4, hf⟩ := bs_bind hf
    refine v_callVv (y := yX4_addFour) (As := [.int a2]) (rest := []) C (cX4_addFour_ok  hc4) ml_X8_48 wyX4_addFour (bsm_X4) (bsc_X4) rfl dpX4_addFour ⟨Nat.le_of_ble_eq_true rfl, Nat.le_of_ble_eq_true rfl⟩ ⟨rfl, rfl⟩ ⟨Nat.le_of_ble_eq_true rfl, Nat.le_of_ble_eq_true rfl⟩ rfl (Nat.le_of_ble_eq_true rfl) dX8_append_31 ?_
    refine v_aload_n C dX8_append_34 rfl rfl ?_
    refine gf_X8_10 C dX8_append_35 ?_
    refine v_iload_n C dX8_append_38 rfl rfl ?_
    obtain ⟨r5, hc6, hf⟩ := bs_bind hf
    refine v_callVv (y := yX4_addFour) (As := [.int a3]) (rest := []) C (cX4_addFour_ok  hc6) ml_X8_48 wyX4_addFour (bsm_X4) (bsc_X4) rfl dpX4_addFour ⟨Nat.le_of_ble_eq_true rfl, Nat.le_of_ble_eq_true rfl⟩ ⟨rfl, rfl⟩ ⟨Nat.le_of_ble_eq_true rfl, Nat.le_of_ble_eq_true rfl⟩ rfl (Nat.le_of_ble_eq_true rfl) dX8_append_39 ?_
    refine v_aload_n C dX8_append_42 rfl rfl ?_
    refine gf_X8_10 C dX8_append_43 ?_
    refine v_iload C dX8_append_46 rfl ?_
    obtain ⟨r7, hc8, hf⟩ := bs_bind hf
    refine v_callVv (y := yX4_addFour) (As := [.int a4]) (rest := []) C (cX4_addFour_ok  hc8) ml_X8_48 wyX4_addFour (bsm_X4) (bsc_X4) rfl dpX4_addFour ⟨Nat.le_of_ble_eq_true rfl, Nat.le_of_ble_eq_true rfl⟩ ⟨rfl, rfl⟩ ⟨Nat.le_of_ble_eq_true rfl, Nat.le_of_ble_eq_true rfl⟩ rfl (Nat.le_of_ble_eq_true rfl) dX8_append_48 ?_
    refine v_aload_n C dX8_append_51 rfl rfl ?_
    refine gf_X8_10 C dX8_append_52 ?_
    refine v_iload C dX8_append_55 rfl ?_
    obtain ⟨r9, hc10, hf⟩ := bs_bind hf
    refine v_callVv (y := yX4_addFour) (As := [.int a5]) (rest := []) C (cX4_addFour_ok  hc10) ml_X8_48 wyX4_addFour (bsm_X4) (bsc_X4) rfl dpX4_addFour ⟨Nat.le_of_ble_eq_true rfl, Nat.le_of_ble_eq_true rfl⟩ ⟨rfl, rfl⟩ ⟨Nat.le_of_ble_eq_true rfl, Nat.le_of_ble_eq_true rfl⟩ rfl (Nat.le_of_ble_eq_true rfl) dX8_append_57 ?_
    refine v_aload_n C dX8_append_60 rfl rfl ?_
    refine gf_X8_10 C dX8_append_61 ?_
    refine gf_X8_44 C dX8_append_64 ?_
    exact v_iret C hf dX8_append_67
  · replace hf := bs_neg h11 hf
    refine v_iconst (v := -1) C dX8_append_16 (by decide) ?_
    exact v_iret C hf dX8_append_17
/-! BootSlots.forgetChanges()V -/
def fX8_forgetChanges (X : bsX) : Option bsX := some (bsWr (bsWr X 13 0 0 8 (0 : Int32)) 13 0 0 9 (0 : Int32))
abbrev rmX8_forgetChanges : Room := { frames := 0, cells := 0, slots := 0, locals := 0 }
set_option maxHeartbeats 4000000 in
set_option maxRecDepth 100000 in
theorem cX8_forgetChanges_ok {l : Launch} {ρ : bsR} {cA : Nat → ClassId} {dC : Nat → ClassId} {dI : Nat → Nat → Nat} {Rz : va_W}  {X : bsX} {z : bsX} (hf : fX8_forgetChanges  X = some z) : bsMv l yX8_forgetChanges cX8_forgetChanges 1 none rmX8_forgetChanges ρ cA dC dI Rz [.ref (ρ 13 0 0)] X z := by
  refine bsMv_of (by decide) (Nat.le_of_ble_eq_true rfl) (fun p e s m args below meth c C => ?_)
  have C : bsCx p m c cX8_forgetChanges 1 s args (Cond.code yX8_forgetChanges cX8_forgetChanges 1 none :: bsG) RX8 ρ cA dC dI Rz meth none := C
  rw [fX8_forgetChanges] at hf
  refine v_sub [0] rfl ?_
  refine v_aload_n C dX8_forgetChanges_0 rfl rfl ?_
  refine v_iconst (v := 0) C dX8_forgetChanges_1 (by decide) ?_
  refine pf_X8_419 C dX8_forgetChanges_2 ?_
  refine v_aload_n C dX8_forgetChanges_5 rfl rfl ?_
  refine v_iconst (v := 0) C dX8_forgetChanges_6 (by decide) ?_
  refine pf_X8_413 C dX8_forgetChanges_7 ?_
  exact v_vret C hf dX8_forgetChanges_10
/-! BootSlots.load(I)I -/
def fX8_load_75 : Nat → Int32 → bsX → Option bsXr
  | 0, _, _ => none
  | n + 1, x2, X => if (2 : Int32) ≤ x2 then (some (0, (X 0 0 0 4), X)) else (if bsIn x2 2 then (fX8_load_75 n (x2 + (1 : Int32)) (bsWr X 13 5 0 (bsIx x2) (vp_nar .boolean (0 : Int32)))) else none)
def fX8_load (a1 : Int32) (X : bsX) : Option bsXr := if a1 < 0 then (some (2, (0 : Int32), X)) else (if a1 ≤ (X 13 1 0 3) then ((fX4_parse 1 a1 X).bind fun r3 => if (r3 13 1 0 8) = 0 then ((fX3_copyFrom 0 1  r3).bind fun r5 => (fX8_forgetChanges   (bsWr r5 13 0 0 7 (1 : Int32))).bind fun r7 => fX8_load_75   bsF (0 : Int32) r7) else (some (3, (0 : Int32), r3))) else (some (2, (0 : Int32), X)))
abbrev rmX8_load : Room := { frames := 9, cells := 1, slots := 6, locals := 199 }
set_option maxHeartbeats 4000000 in
set_option maxRecDepth 100000 in
theorem wX8_load_75 {p : Program} {l : Launch} {e : Env} {s : State} {m : MethodId} {args : Array Value} {below : List Frame} {meth : Method} {c : Code} {ρ : bsR} {cA : Nat → ClassId} {dC : Nat → ClassId} {dI : Nat → Nat → Nat} {Rz : va_W} {Ts : List Cond}   {z : bsXr} (C : bsCx p m c cX8_load 3 s args Ts RX8 ρ cA dC dI Rz meth (some .int)) (T0 : ∀ x ∈ c.exceptionTable.toList, False) (hst : l.stackTraces = false) : ∀ (n : Nat) (x2 : Int32) (X : bsX), fX8_load_75  n x2 X = some z → bsV p l e rmX8_load s m args below meth c 0 0 (vx_MQ below (bsXQi ρ cA dC dI Rz z s.heap.size) (bsXX ρ cA dC dI Rz z s.heap.size) args s rmX8_load.cells rmX8_load.slots (bsA ρ cA Rz s.heap.size)) ρ cA dC dI Rz 3 75 [(0, .ref (ρ 13 0 0)), (2, .int x2)] [] X := by
  intro n
  induction n with
  | zero => intro x2 X hf; exact (nomatch hf)
  | succ n ih =>
    intro x2 X hf
    rw [fX8_load_75] at hf
    refine v_iload_n C dX8_load_75 rfl rfl ?_
    refine v_iconst (v := 2) C dX8_load_76 (by decide) ?_
    refine v_icmp_ge (tgt := 93) C dX8_load_77 (by decide) (fun h2 => ?_) (fun h2 => ?_)
    · replace hf := bs_pos h2 hf
      refine v_aload_n C dX8_load_93 rfl rfl ?_
      refine gf_X8_19 C dX8_load_94 ?_
      refine gf_X8_76 C (by decide) dX8_load_97 ?_
      exact v_tiret C hf (Nat.le_of_ble_eq_true rfl) (Nat.le_of_ble_eq_true rfl) dX8_load_100
    · replace hf := bs_neg h2 hf
      refine v_aload_n C dX8_load_80 rfl rfl ?_
      refine gf_X8_33 C dX8_load_81 ?_
      refine v_iload_n C dX8_load_84 rfl rfl ?_
      refine v_iconst (v := 0) C dX8_load_85 (by decide) ?_
      obtain ⟨hi1, hf⟩ := bs_if hf
      refine v_zast (n := 2) C bsm_13_5 (fun _ => bsc_13_5) hi1 dX8_load_86 ?_
      refine v_iinc (k0 := 1) (v := (x2 + (1 : Int32))) (lv' := [(2, .int (x2 + (1 : Int32))), (0, .ref (ρ 13 0 0))]) C dX8_load_87 rfl rfl (by decide) rfl ?_
      refine v_goto (tgt := 75) C dX8_load_90 (by decide) ?_
      refine v_widen (k := 0) (n := 0) (Nat.le_of_ble_eq_true rfl) (Nat.le_of_ble_eq_true rfl) ?_
      refine v_sub [1, 0] rfl ?_
      exact ih _ _  hf
set_option maxHeartbeats 4000000 in
set_option maxRecDepth 100000 in
theorem cX8_load_ok {l : Launch} {ρ : bsR} {cA : Nat → ClassId} {dC : Nat → ClassId} {dI : Nat → Nat → Nat} {Rz : va_W} (hst : l.stackTraces = false)  {a1 : Int32} {X : bsX} {z : bsXr} (hf : fX8_load a1 X = some z) : bsTi l yX8_load cX8_load 3 (some .int) rmX8_load ρ cA dC dI Rz [.ref (ρ 13 0 0), .int a1] X z := by
  refine bsTi_of (by decide) (Nat.le_of_ble_eq_true rfl) (fun p e s m args below meth c C T0 => ?_)
  have C : bsCx p m c cX8_load 3 s args (Cond.code yX8_load cX8_load 3 (some .int) :: bsG) RX8 ρ cA dC dI Rz meth (some .int) := C
  rw [fX8_load] at hf
  refine v_sub [0, 1] rfl ?_
  refine v_iload_n C dX8_load_0 rfl rfl ?_
  refine v_if_lt (tgt := 15) C dX8_load_1 (by decide) (fun h11 => ?_) (fun h11 => ?_)
  · replace hf := bs_pos h11 hf
    exact v_throwi (k := 2) C T0 hst hf (by decide) (by decide) tw_2 ⟨Nat.le_of_ble_eq_true rfl, Nat.le_of_ble_eq_true rfl⟩ ⟨Nat.le_of_ble_eq_true rfl, Nat.le_of_ble_eq_true rfl⟩ (Nat.le_of_ble_eq_true rfl) (Nat.le_of_ble_eq_true rfl) dX8_load_15 dX8_load_18 dX8_load_19 dX8_load_22
  · replace hf := bs_neg h11 hf
    refine v_iload_n C dX8_load_4 rfl rfl ?_
    refine v_aload_n C dX8_load_5 rfl rfl ?_
    refine gf_X8_10 C dX8_load_6 ?_
    refine gf_X8_44 C dX8_load_9 ?_
    refine v_icmp_le (tgt := 23) C dX8_load_12 (by decide) (fun h10 => ?_) (fun h10 => ?_)
    · replace hf := bs_pos h10 hf
      refine v_aload_n C dX8_load_23 rfl rfl ?_
      refine gf_X8_10 C dX8_load_24 ?_
      refine v_iload_n C dX8_load_27 rfl rfl ?_
      refine v_aload_n C dX8_load_28 rfl rfl ?_
      refine gf_X8_23 C dX8_load_29 ?_
      obtain ⟨r3, hc4, hf⟩ := bs_bind hf
      refine v_callVv (y := yX4_parse) (As := [.int a1, .ref (ρ 1 0 0)]) (rest := []) C (cX4_parse_ok (by decide) hc4) ml_X8_55 wyX4_parse (bsm_X4) (bsc_X4) rfl dpX4_parse ⟨Nat.le_of_ble_eq_true rfl, Nat.le_of_ble_eq_true rfl⟩ ⟨rfl, rfl⟩ ⟨Nat.le_of_ble_eq_true rfl, Nat.le_of_ble_eq_true rfl⟩ rfl (Nat.le_of_ble_eq_true rfl) dX8_load_32 ?_
      refine v_aload_n C dX8_load_35 rfl rfl ?_
      refine gf_X8_10 C dX8_load_36 ?_
      refine gf_X8_59 C dX8_load_39 ?_
      refine v_if_eq (tgt := 53) C dX8_load_42 (by decide) (fun h9 => ?_) (fun h9 => ?_)
      · replace hf := bs_pos h9 hf
        refine v_aload_n C dX8_load_53 rfl rfl ?_
        refine gf_X8_19 C dX8_load_54 ?_
        refine v_aload_n C dX8_load_57 rfl rfl ?_
        refine gf_X8_23 C dX8_load_58 ?_
        obtain ⟨r5, hc6, hf⟩ := bs_bind hf
        refine v_callVv (y := yX3_copyFrom) (As := [.ref (ρ 1 0 0)]) (rest := []) C (cX3_copyFrom_ok (by decide) (by decide) hc6) ml_X8_65 wyX3_copyFrom (bsm_X3 (by decide)) (bsc_X3 (by decide)) rfl dpX3_copyFrom ⟨Nat.le_of_ble_eq_true rfl, Nat.le_of_ble_eq_true rfl⟩ ⟨rfl, rfl⟩ ⟨Nat.le_of_ble_eq_true rfl, Nat.le_of_ble_eq_true rfl⟩ rfl (Nat.le_of_ble_eq_true rfl) dX8_load_61 ?_
        refine v_aload_n C dX8_load_64 rfl rfl ?_
        refine v_iconst (v := 1) C dX8_load_65 (by decide) ?_
        refine pf_X8_69 C (by decide) dX8_load_66 ?_
        refine v_aload_n C dX8_load_69 rfl rfl ?_
        obtain ⟨r7, hc8, hf⟩ := bs_bind hf
        refine v_callVv (y := yX8_forgetChanges) (As := []) (rest := []) C (cX8_forgetChanges_ok  hc8) ml_X8_73 wyX8_forgetChanges (bsm_X8) (bsc_X8) rfl dpX8_forgetChanges ⟨Nat.le_of_ble_eq_true rfl, Nat.le_of_ble_eq_true rfl⟩ ⟨rfl, rfl⟩ ⟨Nat.le_of_ble_eq_true rfl, Nat.le_of_ble_eq_true rfl⟩ rfl (Nat.le_of_ble_eq_true rfl) dX8_load_70 ?_
        refine v_iconst (v := 0) C dX8_load_73 (by decide) ?_
        refine v_istore_n (lv' := [(2, .int (0 : Int32)), (0, .ref (ρ 13 0 0)), (1, .int a1)]) C dX8_load_74 rfl (by decide) rfl ?_
        refine v_widen (k := 0) (n := 0) (Nat.le_of_ble_eq_true rfl) (Nat.le_of_ble_eq_true rfl) ?_
        refine v_sub [1, 0] rfl ?_
        exact wX8_load_75   C T0 hst  bsF _ _  hf
      · replace hf := bs_neg h9 hf
        exact v_throwi (k := 3) C T0 hst hf (by decide) (by decide) tw_3 ⟨Nat.le_of_ble_eq_true rfl, Nat.le_of_ble_eq_true rfl⟩ ⟨Nat.le_of_ble_eq_true rfl, Nat.le_of_ble_eq_true rfl⟩ (Nat.le_of_ble_eq_true rfl) (Nat.le_of_ble_eq_true rfl) dX8_load_45 dX8_load_48 dX8_load_49 dX8_load_52
    · replace hf := bs_neg h10 hf
      exact v_throwi (k := 2) C T0 hst hf (by decide) (by decide) tw_2 ⟨Nat.le_of_ble_eq_true rfl, Nat.le_of_ble_eq_true rfl⟩ ⟨Nat.le_of_ble_eq_true rfl, Nat.le_of_ble_eq_true rfl⟩ (Nat.le_of_ble_eq_true rfl) (Nat.le_of_ble_eq_true rfl) dX8_load_15 dX8_load_18 dX8_load_19 dX8_load_22
/-! BootSlots.parseError()I -/
def fX8_parseError (X : bsX) : Option (Int32 × bsX) := some ((X 13 1 0 8), X)
abbrev rmX8_parseError : Room := { frames := 0, cells := 0, slots := 0, locals := 0 }
set_option maxHeartbeats 4000000 in
set_option maxRecDepth 100000 in
theorem cX8_parseError_ok {l : Launch} {ρ : bsR} {cA : Nat → ClassId} {dC : Nat → ClassId} {dI : Nat → Nat → Nat} {Rz : va_W}  {X : bsX} {z : (Int32 × bsX)} (hf : fX8_parseError  X = some z) : bsMi l yX8_parseError cX8_parseError 1 (some .int) rmX8_parseError ρ cA dC dI Rz [.ref (ρ 13 0 0)] X z := by
  refine bsMi_of (by decide) (Nat.le_of_ble_eq_true rfl) (fun p e s m args below meth c C => ?_)
  have C : bsCx p m c cX8_parseError 1 s args (Cond.code yX8_parseError cX8_parseError 1 (some .int) :: bsG) RX8 ρ cA dC dI Rz meth (some .int) := C
  rw [fX8_parseError] at hf
  refine v_sub [0] rfl ?_
  refine v_aload_n C dX8_parseError_0 rfl rfl ?_
  refine gf_X8_10 C dX8_parseError_1 ?_
  refine gf_X8_59 C dX8_parseError_4 ?_
  exact v_iret C hf dX8_parseError_7
/-! BootSlots.errorPosition()I -/
def fX8_errorPosition (X : bsX) : Option (Int32 × bsX) := some ((X 13 1 0 9), X)
abbrev rmX8_errorPosition : Room := { frames := 0, cells := 0, slots := 0, locals := 0 }
set_option maxHeartbeats 4000000 in
set_option maxRecDepth 100000 in
theorem cX8_errorPosition_ok {l : Launch} {ρ : bsR} {cA : Nat → ClassId} {dC : Nat → ClassId} {dI : Nat → Nat → Nat} {Rz : va_W}  {X : bsX} {z : (Int32 × bsX)} (hf : fX8_errorPosition  X = some z) : bsMi l yX8_errorPosition cX8_errorPosition 1 (some .int) rmX8_errorPosition ρ cA dC dI Rz [.ref (ρ 13 0 0)] X z := by
  refine bsMi_of (by decide) (Nat.le_of_ble_eq_true rfl) (fun p e s m args below meth c C => ?_)
  have C : bsCx p m c cX8_errorPosition 1 s args (Cond.code yX8_errorPosition cX8_errorPosition 1 (some .int) :: bsG) RX8 ρ cA dC dI Rz meth (some .int) := C
  rw [fX8_errorPosition] at hf
  refine v_sub [0] rfl ?_
  refine v_aload_n C dX8_errorPosition_0 rfl rfl ?_
  refine gf_X8_10 C dX8_errorPosition_1 ?_
  refine gf_X8_79 C dX8_errorPosition_4 ?_
  exact v_iret C hf dX8_errorPosition_7
/-! BootSlots.requireLoaded()V -/
def fX8_requireLoaded (X : bsX) : Option bsXr := if (X 13 0 0 7) = 0 then (some (1, (0 : Int32), X)) else (some (0, (0 : Int32), X))
abbrev rmX8_requireLoaded : Room := { frames := 6, cells := 1, slots := 6, locals := 81 }
set_option maxHeartbeats 4000000 in
set_option maxRecDepth 100000 in
theorem cX8_requireLoaded_ok {l : Launch} {ρ : bsR} {cA : Nat → ClassId} {dC : Nat → ClassId} {dI : Nat → Nat → Nat} {Rz : va_W} (hst : l.stackTraces = false)  {X : bsX} {z : bsXr} (hf : fX8_requireLoaded  X = some z) : bsTv l yX8_requireLoaded cX8_requireLoaded 1 none rmX8_requireLoaded ρ cA dC dI Rz [.ref (ρ 13 0 0)] X z := by
  refine bsTv_of (by decide) (Nat.le_of_ble_eq_true rfl) (fun p e s m args below meth c C T0 => ?_)
  have C : bsCx p m c cX8_requireLoaded 1 s args (Cond.code yX8_requireLoaded cX8_requireLoaded 1 none :: bsG) RX8 ρ cA dC dI Rz meth none := C
  rw [fX8_requireLoaded] at hf
  refine v_sub [0] rfl ?_
  refine v_aload_n C dX8_requireLoaded_0 rfl rfl ?_
  refine gf_X8_69 C dX8_requireLoaded_1 ?_
  refine v_if_ne (tgt := 15) C dX8_requireLoaded_4 (by decide) (fun h1 => ?_) (fun h1 => ?_)
  · replace hf := bs_neg h1 hf
    exact v_tvret C hf (Nat.le_of_ble_eq_true rfl) (Nat.le_of_ble_eq_true rfl) dX8_requireLoaded_15
  · replace hf := bs_pos h1 hf
    exact v_throwv (k := 1) C T0 hst hf (by decide) (by decide) tw_1 ⟨Nat.le_of_ble_eq_true rfl, Nat.le_of_ble_eq_true rfl⟩ ⟨Nat.le_of_ble_eq_true rfl, Nat.le_of_ble_eq_true rfl⟩ (Nat.le_of_ble_eq_true rfl) (Nat.le_of_ble_eq_true rfl) dX8_requireLoaded_7 dX8_requireLoaded_10 dX8_requireLoaded_11 dX8_requireLoaded_14
/-! BootSlots.count(I)I -/
def fX8_count (a1 : Int32) (X : bsX) : Option bsXr := (fX8_requireLoaded   X).bind fun r1 => if r1.1 = 0 then (if a1.toInt < 0 ∨ 19 < a1.toInt then (some (3, (0 : Int32), r1.2.2)) else (if a1 = 0 then (some (0, (r1.2.2 0 0 0 4), r1.2.2)) else (if a1 = 1 then (some (0, (r1.2.2 0 0 0 9), r1.2.2)) else (if a1 = 2 then (some (0, (r1.2.2 0 0 0 5), r1.2.2)) else (if a1 = 3 then (some (0, (r1.2.2 0 0 0 6), r1.2.2)) else (if a1 = 4 then (some (0, (r1.2.2 0 0 0 7), r1.2.2)) else (if a1 = 5 then (some (0, (r1.2.2 0 0 0 8), r1.2.2)) else (if a1 = 6 then ((fX3_state 0  r1.2.2).bind fun r5 => some (0, r5.1, r5.2)) else (if a1 = 7 then (some (0, (r1.2.2 0 0 0 11), r1.2.2)) else (if a1 = 8 then (some (0, (r1.2.2 0 0 0 12), r1.2.2)) else (if a1 = 9 then ((fX3_bootableSlots 0  r1.2.2).bind fun r7 => some (0, r7.1, r7.2)) else (if a1 = 10 then ((fX3_goodSlots 0  r1.2.2).bind fun r9 => some (0, r9.1, r9.2)) else (if a1 = 11 then ((fX3_allTries 0  r1.2.2).bind fun r11 => some (0, r11.1, r11.2)) else (if a1 = 12 then (some (0, (r1.2.2 0 3 0 4), r1.2.2)) else (if a1 = 13 then (some (0, (r1.2.2 0 4 0 0), r1.2.2)) else (if a1 = 14 then (some (0, (r1.2.2 0 4 0 1), r1.2.2)) else (if a1 = 15 then (some (0, (r1.2.2 0 4 0 2), r1.2.2)) else (if a1 = 16 then (some (0, (r1.2.2 0 4 0 3), r1.2.2)) else (if a1 = 17 then (some (0, (r1.2.2 0 4 0 4), r1.2.2)) else (if a1 = 18 then (some (0, (r1.2.2 0 4 0 5), r1.2.2)) else (if a1 = 19 then (some (0, (r1.2.2 0 4 0 6), r1.2.2)) else (none)))))))))))))))))))))) else some (r1.1, (0 : Int32), r1.2.2)
abbrev rmX8_count : Room := { frames := 7, cells := 2, slots := 12, locals := 101 }
set_option maxHeartbeats 4000000 in
set_option maxRecDepth 100000 in
theorem cX8_count_ok {l : Launch} {ρ : bsR} {cA : Nat → ClassId} {dC : Nat → ClassId} {dI : Nat → Nat → Nat} {Rz : va_W} (hst : l.stackTraces = false)  {a1 : Int32} {X : bsX} {z : bsXr} (hf : fX8_count a1 X = some z) : bsTi l yX8_count cX8_count 2 (some .int) rmX8_count ρ cA dC dI Rz [.ref (ρ 13 0 0), .int a1] X z := by
  refine bsTi_of (by decide) (Nat.le_of_ble_eq_true rfl) (fun p e s m args below meth c C T0 => ?_)
  have C : bsCx p m c cX8_count 2 s args (Cond.code yX8_count cX8_count 2 (some .int) :: bsG) RX8 ρ cA dC dI Rz meth (some .int) := C
  rw [fX8_count] at hf
  refine v_sub [0, 1] rfl ?_
  refine v_aload_n C dX8_count_0 rfl rfl ?_
  obtain ⟨r1, hc2, hf⟩ := bs_bind hf
  refine v_ticallVv (y := yX8_requireLoaded) (As := []) (rest := []) C T0 (cX8_requireLoaded_ok hst  hc2) ml_X8_82 wyX8_requireLoaded (bsm_X8) (bsc_X8) rfl dpX8_requireLoaded ⟨Nat.le_of_ble_eq_true rfl, Nat.le_of_ble_eq_true rfl⟩ ⟨Nat.le_of_ble_eq_true rfl, Nat.le_of_ble_eq_true rfl⟩ (Nat.le_of_ble_eq_true rfl) (Nat.le_of_ble_eq_true rfl) rfl (Nat.le_of_ble_eq_true rfl) dX8_count_1 (fun h => bs_neg h hf) (fun h3 => ?_)
  replace hf := bs_pos h3 hf
  refine v_iload_n C dX8_count_4 rfl rfl ?_
  by_cases h4 : a1.toInt < 0 ∨ 19 < a1.toInt
  · replace hf := bs_pos h4 hf
    refine v_tabOut (tgt := 284) C dX8_count_5 h4 (by decide) ?_
    exact v_throwi (k := 3) C T0 hst hf (by decide) (by decide) tw_3 ⟨Nat.le_of_ble_eq_true rfl, Nat.le_of_ble_eq_true rfl⟩ ⟨Nat.le_of_ble_eq_true rfl, Nat.le_of_ble_eq_true rfl⟩ (Nat.le_of_ble_eq_true rfl) (Nat.le_of_ble_eq_true rfl) dX8_count_284 dX8_count_287 dX8_count_288 dX8_count_291
  replace hf := bs_neg h4 hf
  by_cases h13 : a1 = 0
  · replace hf := bs_pos h13 hf
    refine v_tabIn (off := 95) (tgt := 100) C 0 dX8_count_5 h13 (by decide) (by decide) rfl (by decide) ?_
    refine v_aload_n C dX8_count_100 rfl rfl ?_
    refine gf_X8_19 C dX8_count_101 ?_
    refine gf_X8_76 C (by decide) dX8_count_104 ?_
    exact v_tiret C hf (Nat.le_of_ble_eq_true rfl) (Nat.le_of_ble_eq_true rfl) dX8_count_107
  replace hf := bs_neg h13 hf
  by_cases h14 : a1 = 1
  · replace hf := bs_pos h14 hf
    refine v_tabIn (off := 103) (tgt := 108) C 1 dX8_count_5 h14 (by decide) (by decide) rfl (by decide) ?_
    refine v_aload_n C dX8_count_108 rfl rfl ?_
    refine gf_X8_19 C dX8_count_109 ?_
    refine gf_X8_85 C (by decide) dX8_count_112 ?_
    exact v_tiret C hf (Nat.le_of_ble_eq_true rfl) (Nat.le_of_ble_eq_true rfl) dX8_count_115
  replace hf := bs_neg h14 hf
  by_cases h15 : a1 = 2
  · replace hf := bs_pos h15 hf
    refine v_tabIn (off := 111) (tgt := 116) C 2 dX8_count_5 h15 (by decide) (by decide) rfl (by decide) ?_
    refine v_aload_n C dX8_count_116 rfl rfl ?_
    refine gf_X8_19 C dX8_count_117 ?_
    refine gf_X8_88 C (by decide) dX8_count_120 ?_
    exact v_tiret C hf (Nat.le_of_ble_eq_true rfl) (Nat.le_of_ble_eq_true rfl) dX8_count_123
  replace hf := bs_neg h15 hf
  by_cases h16 : a1 = 3
  · replace hf := bs_pos h16 hf
    refine v_tabIn (off := 119) (tgt := 124) C 3 dX8_count_5 h16 (by decide) (by decide) rfl (by decide) ?_
    refine v_aload_n C dX8_count_124 rfl rfl ?_
    refine gf_X8_19 C dX8_count_125 ?_
    refine gf_X8_91 C (by decide) dX8_count_128 ?_
    exact v_tiret C hf (Nat.le_of_ble_eq_true rfl) (Nat.le_of_ble_eq_true rfl) dX8_count_131
  replace hf := bs_neg h16 hf
  by_cases h17 : a1 = 4
  · replace hf := bs_pos h17 hf
    refine v_tabIn (off := 127) (tgt := 132) C 4 dX8_count_5 h17 (by decide) (by decide) rfl (by decide) ?_
    refine v_aload_n C dX8_count_132 rfl rfl ?_
    refine gf_X8_19 C dX8_count_133 ?_
    refine gf_X8_94 C (by decide) dX8_count_136 ?_
    exact v_tiret C hf (Nat.le_of_ble_eq_true rfl) (Nat.le_of_ble_eq_true rfl) dX8_count_139
  replace hf := bs_neg h17 hf
  by_cases h18 : a1 = 5
  · replace hf := bs_pos h18 hf
    refine v_tabIn (off := 135) (tgt := 140) C 5 dX8_count_5 h18 (by decide) (by decide) rfl (by decide) ?_
    refine v_aload_n C dX8_count_140 rfl rfl ?_
    refine gf_X8_19 C dX8_count_141 ?_
    refine gf_X8_97 C (by decide) dX8_count_144 ?_
    exact v_tiret C hf (Nat.le_of_ble_eq_true rfl) (Nat.le_of_ble_eq_true rfl) dX8_count_147
  replace hf := bs_neg h18 hf
  by_cases h19 : a1 = 6
  · replace hf := bs_pos h19 hf
    refine v_tabIn (off := 143) (tgt := 148) C 6 dX8_count_5 h19 (by decide) (by decide) rfl (by decide) ?_
    refine v_aload_n C dX8_count_148 rfl rfl ?_
    refine gf_X8_19 C dX8_count_149 ?_
    obtain ⟨r5, hc6, hf⟩ := bs_bind hf
    refine v_callVi (y := yX3_state) (As := []) (rest := []) C (cX3_state_ok (by decide) hc6) ml_X8_100 wyX3_state (bsm_X3 (by decide)) (bsc_X3 (by decide)) rfl dpX3_state ⟨Nat.le_of_ble_eq_true rfl, Nat.le_of_ble_eq_true rfl⟩ ⟨rfl, rfl⟩ ⟨Nat.le_of_ble_eq_true rfl, Nat.le_of_ble_eq_true rfl⟩ rfl (Nat.le_of_ble_eq_true rfl) dX8_count_152 ?_
    exact v_tiret C hf (Nat.le_of_ble_eq_true rfl) (Nat.le_of_ble_eq_true rfl) dX8_count_155
  replace hf := bs_neg h19 hf
  by_cases h20 : a1 = 7
  · replace hf := bs_pos h20 hf
    refine v_tabIn (off := 151) (tgt := 156) C 7 dX8_count_5 h20 (by decide) (by decide) rfl (by decide) ?_
    refine v_aload_n C dX8_count_156 rfl rfl ?_
    refine gf_X8_19 C dX8_count_157 ?_
    refine gf_X8_104 C (by decide) dX8_count_160 ?_
    exact v_tiret C hf (Nat.le_of_ble_eq_true rfl) (Nat.le_of_ble_eq_true rfl) dX8_count_163
  replace hf := bs_neg h20 hf
  by_cases h21 : a1 = 8
  · replace hf := bs_pos h21 hf
    refine v_tabIn (off := 159) (tgt := 164) C 8 dX8_count_5 h21 (by decide) (by decide) rfl (by decide) ?_
    refine v_aload_n C dX8_count_164 rfl rfl ?_
    refine gf_X8_19 C dX8_count_165 ?_
    refine gf_X8_107 C (by decide) dX8_count_168 ?_
    exact v_tiret C hf (Nat.le_of_ble_eq_true rfl) (Nat.le_of_ble_eq_true rfl) dX8_count_171
  replace hf := bs_neg h21 hf
  by_cases h22 : a1 = 9
  · replace hf := bs_pos h22 hf
    refine v_tabIn (off := 167) (tgt := 172) C 9 dX8_count_5 h22 (by decide) (by decide) rfl (by decide) ?_
    refine v_aload_n C dX8_count_172 rfl rfl ?_
    refine gf_X8_19 C dX8_count_173 ?_
    obtain ⟨r7, hc8, hf⟩ := bs_bind hf
    refine v_callVi (y := yX3_bootableSlots) (As := []) (rest := []) C (cX3_bootableSlots_ok (by decide) hc8) ml_X8_110 wyX3_bootableSlots (bsm_X3 (by decide)) (bsc_X3 (by decide)) rfl dpX3_bootableSlots ⟨Nat.le_of_ble_eq_true rfl, Nat.le_of_ble_eq_true rfl⟩ ⟨rfl, rfl⟩ ⟨Nat.le_of_ble_eq_true rfl, Nat.le_of_ble_eq_true rfl⟩ rfl (Nat.le_of_ble_eq_true rfl) dX8_count_176 ?_
    exact v_tiret C hf (Nat.le_of_ble_eq_true rfl) (Nat.le_of_ble_eq_true rfl) dX8_count_179
  replace hf := bs_neg h22 hf
  by_cases h23 : a1 = 10
  · replace hf := bs_pos h23 hf
    refine v_tabIn (off := 175) (tgt := 180) C 10 dX8_count_5 h23 (by decide) (by decide) rfl (by decide) ?_
    refine v_aload_n C dX8_count_180 rfl rfl ?_
    refine gf_X8_19 C dX8_count_181 ?_
    obtain ⟨r9, hc10, hf⟩ := bs_bind hf
    refine v_callVi (y := yX3_goodSlots) (As := []) (rest := []) C (cX3_goodSlots_ok (by decide) hc10) ml_X8_113 wyX3_goodSlots (bsm_X3 (by decide)) (bsc_X3 (by decide)) rfl dpX3_goodSlots ⟨Nat.le_of_ble_eq_true rfl, Nat.le_of_ble_eq_true rfl⟩ ⟨rfl, rfl⟩ ⟨Nat.le_of_ble_eq_true rfl, Nat.le_of_ble_eq_true rfl⟩ rfl (Nat.le_of_ble_eq_true rfl) dX8_count_184 ?_
    exact v_tiret C hf (Nat.le_of_ble_eq_true rfl) (Nat.le_of_ble_eq_true rfl) dX8_count_187
  replace hf := bs_neg h23 hf
  by_cases h24 : a1 = 11
  · replace hf := bs_pos h24 hf
    refine v_tabIn (off := 183) (tgt := 188) C 11 dX8_count_5 h24 (by decide) (by decide) rfl (by decide) ?_
    refine v_aload_n C dX8_count_188 rfl rfl ?_
    refine gf_X8_19 C dX8_count_189 ?_
    obtain ⟨r11, hc12, hf⟩ := bs_bind hf
    refine v_callVi (y := yX3_allTries) (As := []) (rest := []) C (cX3_allTries_ok (by decide) hc12) ml_X8_116 wyX3_allTries (bsm_X3 (by decide)) (bsc_X3 (by decide)) rfl dpX3_allTries ⟨Nat.le_of_ble_eq_true rfl, Nat.le_of_ble_eq_true rfl⟩ ⟨rfl, rfl⟩ ⟨Nat.le_of_ble_eq_true rfl, Nat.le_of_ble_eq_true rfl⟩ rfl (Nat.le_of_ble_eq_true rfl) dX8_count_192 ?_
    exact v_tiret C hf (Nat.le_of_ble_eq_true rfl) (Nat.le_of_ble_eq_true rfl) dX8_count_195
  replace hf := bs_neg h24 hf
  by_cases h25 : a1 = 12
  · replace hf := bs_pos h25 hf
    refine v_tabIn (off := 191) (tgt := 196) C 12 dX8_count_5 h25 (by decide) (by decide) rfl (by decide) ?_
    refine v_aload_n C dX8_count_196 rfl rfl ?_
    refine gf_X8_19 C dX8_count_197 ?_
    refine gf_X8_119 C (by decide) dX8_count_200 ?_
    refine gf_X8_123 C (by decide) dX8_count_203 ?_
    exact v_tiret C hf (Nat.le_of_ble_eq_true rfl) (Nat.le_of_ble_eq_true rfl) dX8_count_206
  replace hf := bs_neg h25 hf
  by_cases h26 : a1 = 13
  · replace hf := bs_pos h26 hf
    refine v_tabIn (off := 202) (tgt := 207) C 13 dX8_count_5 h26 (by decide) (by decide) rfl (by decide) ?_
    refine v_aload_n C dX8_count_207 rfl rfl ?_
    refine gf_X8_19 C dX8_count_208 ?_
    refine gf_X8_128 C (by decide) dX8_count_211 ?_
    refine gf_X8_132 C (by decide) dX8_count_214 ?_
    exact v_tiret C hf (Nat.le_of_ble_eq_true rfl) (Nat.le_of_ble_eq_true rfl) dX8_count_217
  replace hf := bs_neg h26 hf
  by_cases h27 : a1 = 14
  · replace hf := bs_pos h27 hf
    refine v_tabIn (off := 213) (tgt := 218) C 14 dX8_count_5 h27 (by decide) (by decide) rfl (by decide) ?_
    refine v_aload_n C dX8_count_218 rfl rfl ?_
    refine gf_X8_19 C dX8_count_219 ?_
    refine gf_X8_128 C (by decide) dX8_count_222 ?_
    refine gf_X8_137 C (by decide) dX8_count_225 ?_
    exact v_tiret C hf (Nat.le_of_ble_eq_true rfl) (Nat.le_of_ble_eq_true rfl) dX8_count_228
  replace hf := bs_neg h27 hf
  by_cases h28 : a1 = 15
  · replace hf := bs_pos h28 hf
    refine v_tabIn (off := 224) (tgt := 229) C 15 dX8_count_5 h28 (by decide) (by decide) rfl (by decide) ?_
    refine v_aload_n C dX8_count_229 rfl rfl ?_
    refine gf_X8_19 C dX8_count_230 ?_
    refine gf_X8_128 C (by decide) dX8_count_233 ?_
    refine gf_X8_140 C (by decide) dX8_count_236 ?_
    exact v_tiret C hf (Nat.le_of_ble_eq_true rfl) (Nat.le_of_ble_eq_true rfl) dX8_count_239
  replace hf := bs_neg h28 hf
  by_cases h29 : a1 = 16
  · replace hf := bs_pos h29 hf
    refine v_tabIn (off := 235) (tgt := 240) C 16 dX8_count_5 h29 (by decide) (by decide) rfl (by decide) ?_
    refine v_aload_n C dX8_count_240 rfl rfl ?_
    refine gf_X8_19 C dX8_count_241 ?_
    refine gf_X8_128 C (by decide) dX8_count_244 ?_
    refine gf_X8_143 C (by decide) dX8_count_247 ?_
    exact v_tiret C hf (Nat.le_of_ble_eq_true rfl) (Nat.le_of_ble_eq_true rfl) dX8_count_250
  replace hf := bs_neg h29 hf
  by_cases h30 : a1 = 17
  · replace hf := bs_pos h30 hf
    refine v_tabIn (off := 246) (tgt := 251) C 17 dX8_count_5 h30 (by decide) (by decide) rfl (by decide) ?_
    refine v_aload_n C dX8_count_251 rfl rfl ?_
    refine gf_X8_19 C dX8_count_252 ?_
    refine gf_X8_128 C (by decide) dX8_count_255 ?_
    refine gf_X8_146 C (by decide) dX8_count_258 ?_
    exact v_tiret C hf (Nat.le_of_ble_eq_true rfl) (Nat.le_of_ble_eq_true rfl) dX8_count_261
  replace hf := bs_neg h30 hf
  by_cases h31 : a1 = 18
  · replace hf := bs_pos h31 hf
    refine v_tabIn (off := 257) (tgt := 262) C 18 dX8_count_5 h31 (by decide) (by decide) rfl (by decide) ?_
    refine v_aload_n C dX8_count_262 rfl rfl ?_
    refine gf_X8_19 C dX8_count_263 ?_
    refine gf_X8_128 C (by decide) dX8_count_266 ?_
    refine gf_X8_149 C (by decide) dX8_count_269 ?_
    exact v_tiret C hf (Nat.le_of_ble_eq_true rfl) (Nat.le_of_ble_eq_true rfl) dX8_count_272
  replace hf := bs_neg h31 hf
  by_cases h32 : a1 = 19
  · replace hf := bs_pos h32 hf
    refine v_tabIn (off := 268) (tgt := 273) C 19 dX8_count_5 h32 (by decide) (by decide) rfl (by decide) ?_
    refine v_aload_n C dX8_count_273 rfl rfl ?_
    refine gf_X8_19 C dX8_count_274 ?_
    refine gf_X8_128 C (by decide) dX8_count_277 ?_
    refine gf_X8_152 C (by decide) dX8_count_280 ?_
    exact v_tiret C hf (Nat.le_of_ble_eq_true rfl) (Nat.le_of_ble_eq_true rfl) dX8_count_283
  replace hf := bs_neg h32 hf
  exact (nomatch hf)
/-! BootSlots.requireSlot(I)V -/
def fX8_requireSlot (a1 : Int32) (X : bsX) : Option bsXr := (fX8_requireLoaded   X).bind fun r1 => if r1.1 = 0 then (if a1 < 0 then (some (2, (0 : Int32), r1.2.2)) else (if (6 : Int32) ≤ a1 then (some (2, (0 : Int32), r1.2.2)) else (if a1 < (r1.2.2 0 0 0 4) then (some (0, (0 : Int32), r1.2.2)) else (some (2, (0 : Int32), r1.2.2))))) else some (r1.1, (0 : Int32), r1.2.2)
abbrev rmX8_requireSlot : Room := { frames := 7, cells := 2, slots := 12, locals := 101 }
set_option maxHeartbeats 4000000 in
set_option maxRecDepth 100000 in
theorem cX8_requireSlot_ok {l : Launch} {ρ : bsR} {cA : Nat → ClassId} {dC : Nat → ClassId} {dI : Nat → Nat → Nat} {Rz : va_W} (hst : l.stackTraces = false)  {a1 : Int32} {X : bsX} {z : bsXr} (hf : fX8_requireSlot a1 X = some z) : bsTv l yX8_requireSlot cX8_requireSlot 2 none rmX8_requireSlot ρ cA dC dI Rz [.ref (ρ 13 0 0), .int a1] X z := by
  refine bsTv_of (by decide) (Nat.le_of_ble_eq_true rfl) (fun p e s m args below meth c C T0 => ?_)
  have C : bsCx p m c cX8_requireSlot 2 s args (Cond.code yX8_requireSlot cX8_requireSlot 2 none :: bsG) RX8 ρ cA dC dI Rz meth none := C
  rw [fX8_requireSlot] at hf
  refine v_sub [0, 1] rfl ?_
  refine v_aload_n C dX8_requireSlot_0 rfl rfl ?_
  obtain ⟨r1, hc2, hf⟩ := bs_bind hf
  refine v_tvcallVv (y := yX8_requireLoaded) (As := []) (rest := []) C T0 (cX8_requireLoaded_ok hst  hc2) ml_X8_82 wyX8_requireLoaded (bsm_X8) (bsc_X8) rfl dpX8_requireLoaded ⟨Nat.le_of_ble_eq_true rfl, Nat.le_of_ble_eq_true rfl⟩ ⟨Nat.le_of_ble_eq_true rfl, Nat.le_of_ble_eq_true rfl⟩ (Nat.le_of_ble_eq_true rfl) (Nat.le_of_ble_eq_true rfl) rfl (Nat.le_of_ble_eq_true rfl) dX8_requireSlot_1 (fun h => bs_neg h hf) (fun h3 => ?_)
  replace hf := bs_pos h3 hf
  refine v_iload_n C dX8_requireSlot_4 rfl rfl ?_
  refine v_if_lt (tgt := 25) C dX8_requireSlot_5 (by decide) (fun h6 => ?_) (fun h6 => ?_)
  · replace hf := bs_pos h6 hf
    exact v_throwv (k := 2) C T0 hst hf (by decide) (by decide) tw_2 ⟨Nat.le_of_ble_eq_true rfl, Nat.le_of_ble_eq_true rfl⟩ ⟨Nat.le_of_ble_eq_true rfl, Nat.le_of_ble_eq_true rfl⟩ (Nat.le_of_ble_eq_true rfl) (Nat.le_of_ble_eq_true rfl) dX8_requireSlot_25 dX8_requireSlot_28 dX8_requireSlot_29 dX8_requireSlot_32
  · replace hf := bs_neg h6 hf
    refine v_iload_n C dX8_requireSlot_8 rfl rfl ?_
    refine v_bipush (v := 6) C dX8_requireSlot_9 (by decide) ?_
    refine v_icmp_ge (tgt := 25) C dX8_requireSlot_11 (by decide) (fun h5 => ?_) (fun h5 => ?_)
    · replace hf := bs_pos h5 hf
      exact v_throwv (k := 2) C T0 hst hf (by decide) (by decide) tw_2 ⟨Nat.le_of_ble_eq_true rfl, Nat.le_of_ble_eq_true rfl⟩ ⟨Nat.le_of_ble_eq_true rfl, Nat.le_of_ble_eq_true rfl⟩ (Nat.le_of_ble_eq_true rfl) (Nat.le_of_ble_eq_true rfl) dX8_requireSlot_25 dX8_requireSlot_28 dX8_requireSlot_29 dX8_requireSlot_32
    · replace hf := bs_neg h5 hf
      refine v_iload_n C dX8_requireSlot_14 rfl rfl ?_
      refine v_aload_n C dX8_requireSlot_15 rfl rfl ?_
      refine gf_X8_19 C dX8_requireSlot_16 ?_
      refine gf_X8_76 C (by decide) dX8_requireSlot_19 ?_
      refine v_icmp_lt (tgt := 33) C dX8_requireSlot_22 (by decide) (fun h4 => ?_) (fun h4 => ?_)
      · replace hf := bs_pos h4 hf
        exact v_tvret C hf (Nat.le_of_ble_eq_true rfl) (Nat.le_of_ble_eq_true rfl) dX8_requireSlot_33
      · replace hf := bs_neg h4 hf
        exact v_throwv (k := 2) C T0 hst hf (by decide) (by decide) tw_2 ⟨Nat.le_of_ble_eq_true rfl, Nat.le_of_ble_eq_true rfl⟩ ⟨Nat.le_of_ble_eq_true rfl, Nat.le_of_ble_eq_true rfl⟩ (Nat.le_of_ble_eq_true rfl) (Nat.le_of_ble_eq_true rfl) dX8_requireSlot_25 dX8_requireSlot_28 dX8_requireSlot_29 dX8_requireSlot_32
/-! BootSlots.bit(Z)I -/
def fX8_bit (a0 : Int32) (X : bsX) : Option (Int32 × bsX) := if a0 = 0 then (some ((0 : Int32), X)) else (some ((1 : Int32), X))
abbrev rmX8_bit : Room := { frames := 0, cells := 0, slots := 0, locals := 0 }
set_option maxHeartbeats 4000000 in
set_option maxRecDepth 100000 in
theorem cX8_bit_ok {l : Launch} {ρ : bsR} {cA : Nat → ClassId} {dC : Nat → ClassId} {dI : Nat → Nat → Nat} {Rz : va_W}  {a0 : Int32} {X : bsX} {z : (Int32 × bsX)} (hf : fX8_bit a0 X = some z) : bsMi l yX8_bit cX8_bit 1 (some .int) rmX8_bit ρ cA dC dI Rz [.int a0] X z := by
  refine bsMi_of (by decide) (Nat.le_of_ble_eq_true rfl) (fun p e s m args below meth c C => ?_)
  have C : bsCx p m c cX8_bit 1 s args (Cond.code yX8_bit cX8_bit 1 (some .int) :: bsG) RX8 ρ cA dC dI Rz meth (some .int) := C
  rw [fX8_bit] at hf
  refine v_sub [0] rfl ?_
  refine v_iload_n C dX8_bit_0 rfl rfl ?_
  refine v_if_eq (tgt := 8) C dX8_bit_1 (by decide) (fun h1 => ?_) (fun h1 => ?_)
  · replace hf := bs_pos h1 hf
    refine v_iconst (v := 0) C dX8_bit_8 (by decide) ?_
    exact v_iret C hf dX8_bit_9
  · replace hf := bs_neg h1 hf
    refine v_iconst (v := 1) C dX8_bit_4 (by decide) ?_
    refine v_goto (tgt := 9) C dX8_bit_5 (by decide) ?_
    exact v_iret C hf dX8_bit_9
/-! BootSlots.slot(II)I -/
def fX8_slot (a1 : Int32) (a2 : Int32) (X : bsX) : Option bsXr := (fX8_requireSlot  a1 X).bind fun r1 => if r1.1 = 0 then (if bsIn a1 6 then (if a2.toInt < 0 ∨ 8 < a2.toInt then (some (3, (0 : Int32), r1.2.2)) else (if a2 = 0 then ((fX8_bit  (r1.2.2 0 6 (bsIx a1) 0) r1.2.2).bind fun r6 => some (0, r6.1, r6.2)) else (if a2 = 1 then (some (0, (r1.2.2 0 5 (bsIx a1) 2), r1.2.2)) else (if a2 = 2 then (some (0, (r1.2.2 0 5 (bsIx a1) 3), r1.2.2)) else (if a2 = 3 then ((fX8_bit  (r1.2.2 0 5 (bsIx a1) 4) r1.2.2).bind fun r8 => some (0, r8.1, r8.2)) else (if a2 = 4 then (some (0, (r1.2.2 0 5 (bsIx a1) 5), r1.2.2)) else (if a2 = 5 then ((fX3_isBootable 0 (bsIx a1)  r1.2.2).bind fun r10 => (fX8_bit  r10.1 r10.2).bind fun r12 => some (0, r12.1, r12.2)) else (if a2 = 6 then (some (0, (r1.2.2 0 5 (bsIx a1) 6), r1.2.2)) else (if a2 = 7 then (some (0, (r1.2.2 0 5 (bsIx a1) 7), r1.2.2)) else (if a2 = 8 then (some (0, (r1.2.2 0 5 (bsIx a1) 8), r1.2.2)) else (none))))))))))) else none) else some (r1.1, (0 : Int32), r1.2.2)
abbrev rmX8_slot : Room := { frames := 8, cells := 3, slots := 18, locals := 122 }
set_option maxHeartbeats 4000000 in
set_option maxRecDepth 100000 in
theorem cX8_slot_ok {l : Launch} {ρ : bsR} {cA : Nat → ClassId} {dC : Nat → ClassId} {dI : Nat → Nat → Nat} {Rz : va_W} (hst : l.stackTraces = false)  {a1 : Int32} {a2 : Int32} {X : bsX} {z : bsXr} (hf : fX8_slot a1 a2 X = some z) : bsTi l yX8_slot cX8_slot 4 (some .int) rmX8_slot ρ cA dC dI Rz [.ref (ρ 13 0 0), .int a1, .int a2] X z := by
  refine bsTi_of (by decide) (Nat.le_of_ble_eq_true rfl) (fun p e s m args below meth c C T0 => ?_)
  have C : bsCx p m c cX8_slot 4 s args (Cond.code yX8_slot cX8_slot 4 (some .int) :: bsG) RX8 ρ cA dC dI Rz meth (some .int) := C
  rw [fX8_slot] at hf
  refine v_sub [0, 1, 2] rfl ?_
  refine v_aload_n C dX8_slot_0 rfl rfl ?_
  refine v_iload_n C dX8_slot_1 rfl rfl ?_
  obtain ⟨r1, hc2, hf⟩ := bs_bind hf
  refine v_ticallVv (y := yX8_requireSlot) (As := [.int a1]) (rest := []) C T0 (cX8_requireSlot_ok hst  hc2) ml_X8_155 wyX8_requireSlot (bsm_X8) (bsc_X8) rfl dpX8_requireSlot ⟨Nat.le_of_ble_eq_true rfl, Nat.le_of_ble_eq_true rfl⟩ ⟨Nat.le_of_ble_eq_true rfl, Nat.le_of_ble_eq_true rfl⟩ (Nat.le_of_ble_eq_true rfl) (Nat.le_of_ble_eq_true rfl) rfl (Nat.le_of_ble_eq_true rfl) dX8_slot_2 (fun h => bs_neg h hf) (fun h3 => ?_)
  replace hf := bs_pos h3 hf
  refine v_aload_n C dX8_slot_5 rfl rfl ?_
  refine gf_X8_19 C dX8_slot_6 ?_
  refine gf_X8_158 C (by decide) dX8_slot_9 ?_
  refine v_iload_n C dX8_slot_12 rfl rfl ?_
  obtain ⟨hi4, hf⟩ := bs_if hf
  refine v_aald (t0 := 3) (n := 6) C (bsm_K1 (by decide)) (bsc_K1 (by decide)) rfl hi4 rfl dX8_slot_13 ?_
  refine v_astore_n (lv' := [(3, .ref (ρ 0 5 (bsIx a1))), (0, .ref (ρ 13 0 0)), (1, .int a1), (2, .int a2)]) C dX8_slot_14 rfl (by decide) rfl ?_
  refine v_iload_n C dX8_slot_15 rfl rfl ?_
  by_cases h5 : a2.toInt < 0 ∨ 8 < a2.toInt
  · replace hf := bs_pos h5 hf
    refine v_tabOut (tgt := 129) C dX8_slot_16 h5 (by decide) ?_
    exact v_throwi (k := 3) C T0 hst hf (by decide) (by decide) tw_3 ⟨Nat.le_of_ble_eq_true rfl, Nat.le_of_ble_eq_true rfl⟩ ⟨Nat.le_of_ble_eq_true rfl, Nat.le_of_ble_eq_true rfl⟩ (Nat.le_of_ble_eq_true rfl) (Nat.le_of_ble_eq_true rfl) dX8_slot_129 dX8_slot_132 dX8_slot_133 dX8_slot_136
  replace hf := bs_neg h5 hf
  by_cases h14 : a2 = 0
  · replace hf := bs_pos h14 hf
    refine v_tabIn (off := 52) (tgt := 68) C 0 dX8_slot_16 h14 (by decide) (by decide) rfl (by decide) ?_
    refine v_aload_n C dX8_slot_68 rfl rfl ?_
    refine gf_X8_162 C (by decide) (bsIx_lt hi4) dX8_slot_69 ?_
    refine gf_X8_168 C (by decide) (Nat.lt_succ_of_lt (bsIx_lt hi4)) dX8_slot_72 ?_
    obtain ⟨r6, hc7, hf⟩ := bs_bind hf
    refine v_callSi (y := yX8_bit) (As := [.int (r1.2.2 0 6 (bsIx a1) 0)]) (rest := []) C (cX8_bit_ok  hc7) ml_X8_173 wzX8_bit dpX8_bit ⟨Nat.le_of_ble_eq_true rfl, Nat.le_of_ble_eq_true rfl⟩ ⟨rfl, rfl⟩ ⟨Nat.le_of_ble_eq_true rfl, Nat.le_of_ble_eq_true rfl⟩ rfl (Nat.le_of_ble_eq_true rfl) dX8_slot_75 ?_
    exact v_tiret C hf (Nat.le_of_ble_eq_true rfl) (Nat.le_of_ble_eq_true rfl) dX8_slot_78
  replace hf := bs_neg h14 hf
  by_cases h15 : a2 = 1
  · replace hf := bs_pos h15 hf
    refine v_tabIn (off := 63) (tgt := 79) C 1 dX8_slot_16 h15 (by decide) (by decide) rfl (by decide) ?_
    refine v_aload_n C dX8_slot_79 rfl rfl ?_
    refine gf_X8_177 C (by decide) (bsIx_lt hi4) dX8_slot_80 ?_
    exact v_tiret C hf (Nat.le_of_ble_eq_true rfl) (Nat.le_of_ble_eq_true rfl) dX8_slot_83
  replace hf := bs_neg h15 hf
  by_cases h16 : a2 = 2
  · replace hf := bs_pos h16 hf
    refine v_tabIn (off := 68) (tgt := 84) C 2 dX8_slot_16 h16 (by decide) (by decide) rfl (by decide) ?_
    refine v_aload_n C dX8_slot_84 rfl rfl ?_
    refine gf_X8_180 C (by decide) (bsIx_lt hi4) dX8_slot_85 ?_
    exact v_tiret C hf (Nat.le_of_ble_eq_true rfl) (Nat.le_of_ble_eq_true rfl) dX8_slot_88
  replace hf := bs_neg h16 hf
  by_cases h17 : a2 = 3
  · replace hf := bs_pos h17 hf
    refine v_tabIn (off := 73) (tgt := 89) C 3 dX8_slot_16 h17 (by decide) (by decide) rfl (by decide) ?_
    refine v_aload_n C dX8_slot_89 rfl rfl ?_
    refine gf_X8_183 C (by decide) (bsIx_lt hi4) dX8_slot_90 ?_
    obtain ⟨r8, hc9, hf⟩ := bs_bind hf
    refine v_callSi (y := yX8_bit) (As := [.int (r1.2.2 0 5 (bsIx a1) 4)]) (rest := []) C (cX8_bit_ok  hc9) ml_X8_173 wzX8_bit dpX8_bit ⟨Nat.le_of_ble_eq_true rfl, Nat.le_of_ble_eq_true rfl⟩ ⟨rfl, rfl⟩ ⟨Nat.le_of_ble_eq_true rfl, Nat.le_of_ble_eq_true rfl⟩ rfl (Nat.le_of_ble_eq_true rfl) dX8_slot_93 ?_
    exact v_tiret C hf (Nat.le_of_ble_eq_true rfl) (Nat.le_of_ble_eq_true rfl) dX8_slot_96
  replace hf := bs_neg h17 hf
  by_cases h18 : a2 = 4
  · replace hf := bs_pos h18 hf
    refine v_tabIn (off := 81) (tgt := 97) C 4 dX8_slot_16 h18 (by decide) (by decide) rfl (by decide) ?_
    refine v_aload_n C dX8_slot_97 rfl rfl ?_
    refine gf_X8_186 C (by decide) (bsIx_lt hi4) dX8_slot_98 ?_
    exact v_tiret C hf (Nat.le_of_ble_eq_true rfl) (Nat.le_of_ble_eq_true rfl) dX8_slot_101
  replace hf := bs_neg h18 hf
  by_cases h19 : a2 = 5
  · replace hf := bs_pos h19 hf
    refine v_tabIn (off := 86) (tgt := 102) C 5 dX8_slot_16 h19 (by decide) (by decide) rfl (by decide) ?_
    refine v_aload_n C dX8_slot_102 rfl rfl ?_
    refine gf_X8_19 C dX8_slot_103 ?_
    refine v_aload_n C dX8_slot_106 rfl rfl ?_
    obtain ⟨r10, hc11, hf⟩ := bs_bind hf
    refine v_callVi (y := yX3_isBootable) (As := [.ref (ρ 0 5 (bsIx a1))]) (rest := []) C (cX3_isBootable_ok (by decide) (bsIx_lt hi4) hc11) ml_X8_189 wyX3_isBootable (bsm_X3 (by decide)) (bsc_X3 (by decide)) rfl dpX3_isBootable ⟨Nat.le_of_ble_eq_true rfl, Nat.le_of_ble_eq_true rfl⟩ ⟨rfl, rfl⟩ ⟨Nat.le_of_ble_eq_true rfl, Nat.le_of_ble_eq_true rfl⟩ rfl (Nat.le_of_ble_eq_true rfl) dX8_slot_107 ?_
    obtain ⟨r12, hc13, hf⟩ := bs_bind hf
    refine v_callSi (y := yX8_bit) (As := [.int r10.1]) (rest := []) C (cX8_bit_ok  hc13) ml_X8_173 wzX8_bit dpX8_bit ⟨Nat.le_of_ble_eq_true rfl, Nat.le_of_ble_eq_true rfl⟩ ⟨rfl, rfl⟩ ⟨Nat.le_of_ble_eq_true rfl, Nat.le_of_ble_eq_true rfl⟩ rfl (Nat.le_of_ble_eq_true rfl) dX8_slot_110 ?_
    exact v_tiret C hf (Nat.le_of_ble_eq_true rfl) (Nat.le_of_ble_eq_true rfl) dX8_slot_113
  replace hf := bs_neg h19 hf
  by_cases h20 : a2 = 6
  · replace hf := bs_pos h20 hf
    refine v_tabIn (off := 98) (tgt := 114) C 6 dX8_slot_16 h20 (by decide) (by decide) rfl (by decide) ?_
    refine v_aload_n C dX8_slot_114 rfl rfl ?_
    refine gf_X8_193 C (by decide) (bsIx_lt hi4) dX8_slot_115 ?_
    exact v_tiret C hf (Nat.le_of_ble_eq_true rfl) (Nat.le_of_ble_eq_true rfl) dX8_slot_118
  replace hf := bs_neg h20 hf
  by_cases h21 : a2 = 7
  · replace hf := bs_pos h21 hf
    refine v_tabIn (off := 103) (tgt := 119) C 7 dX8_slot_16 h21 (by decide) (by decide) rfl (by decide) ?_
    refine v_aload_n C dX8_slot_119 rfl rfl ?_
    refine gf_X8_196 C (by decide) (bsIx_lt hi4) dX8_slot_120 ?_
    exact v_tiret C hf (Nat.le_of_ble_eq_true rfl) (Nat.le_of_ble_eq_true rfl) dX8_slot_123
  replace hf := bs_neg h21 hf
  by_cases h22 : a2 = 8
  · replace hf := bs_pos h22 hf
    refine v_tabIn (off := 108) (tgt := 124) C 8 dX8_slot_16 h22 (by decide) (by decide) rfl (by decide) ?_
    refine v_aload_n C dX8_slot_124 rfl rfl ?_
    refine gf_X8_197 C (by decide) (bsIx_lt hi4) dX8_slot_125 ?_
    exact v_tiret C hf (Nat.le_of_ble_eq_true rfl) (Nat.le_of_ble_eq_true rfl) dX8_slot_128
  replace hf := bs_neg h22 hf
  exact (nomatch hf)
/-! BootSlots.requireWithin(III)V -/
def fX8_requireWithin (a0 : Int32) (a1 : Int32) (a2 : Int32) (X : bsX) : Option bsXr := if a0 < a1 then (some (3, (0 : Int32), X)) else (if a0 ≤ a2 then (some (0, (0 : Int32), X)) else (some (3, (0 : Int32), X)))
abbrev rmX8_requireWithin : Room := { frames := 6, cells := 1, slots := 6, locals := 81 }
set_option maxHeartbeats 4000000 in
set_option maxRecDepth 100000 in
theorem cX8_requireWithin_ok {l : Launch} {ρ : bsR} {cA : Nat → ClassId} {dC : Nat → ClassId} {dI : Nat → Nat → Nat} {Rz : va_W} (hst : l.stackTraces = false)  {a0 : Int32} {a1 : Int32} {a2 : Int32} {X : bsX} {z : bsXr} (hf : fX8_requireWithin a0 a1 a2 X = some z) : bsTv l yX8_requireWithin cX8_requireWithin 3 none rmX8_requireWithin ρ cA dC dI Rz [.int a0, .int a1, .int a2] X z := by
  refine bsTv_of (by decide) (Nat.le_of_ble_eq_true rfl) (fun p e s m args below meth c C T0 => ?_)
  have C : bsCx p m c cX8_requireWithin 3 s args (Cond.code yX8_requireWithin cX8_requireWithin 3 none :: bsG) RX8 ρ cA dC dI Rz meth none := C
  rw [fX8_requireWithin] at hf
  refine v_sub [0, 1, 2] rfl ?_
  refine v_iload_n C dX8_requireWithin_0 rfl rfl ?_
  refine v_iload_n C dX8_requireWithin_1 rfl rfl ?_
  refine v_icmp_lt (tgt := 10) C dX8_requireWithin_2 (by decide) (fun h2 => ?_) (fun h2 => ?_)
  · replace hf := bs_pos h2 hf
    exact v_throwv (k := 3) C T0 hst hf (by decide) (by decide) tw_3 ⟨Nat.le_of_ble_eq_true rfl, Nat.le_of_ble_eq_true rfl⟩ ⟨Nat.le_of_ble_eq_true rfl, Nat.le_of_ble_eq_true rfl⟩ (Nat.le_of_ble_eq_true rfl) (Nat.le_of_ble_eq_true rfl) dX8_requireWithin_10 dX8_requireWithin_13 dX8_requireWithin_14 dX8_requireWithin_17
  · replace hf := bs_neg h2 hf
    refine v_iload_n C dX8_requireWithin_5 rfl rfl ?_
    refine v_iload_n C dX8_requireWithin_6 rfl rfl ?_
    refine v_icmp_le (tgt := 18) C dX8_requireWithin_7 (by decide) (fun h1 => ?_) (fun h1 => ?_)
    · replace hf := bs_pos h1 hf
      exact v_tvret C hf (Nat.le_of_ble_eq_true rfl) (Nat.le_of_ble_eq_true rfl) dX8_requireWithin_18
    · replace hf := bs_neg h1 hf
      exact v_throwv (k := 3) C T0 hst hf (by decide) (by decide) tw_3 ⟨Nat.le_of_ble_eq_true rfl, Nat.le_of_ble_eq_true rfl⟩ ⟨Nat.le_of_ble_eq_true rfl, Nat.le_of_ble_eq_true rfl⟩ (Nat.le_of_ble_eq_true rfl) (Nat.le_of_ble_eq_true rfl) dX8_requireWithin_10 dX8_requireWithin_13 dX8_requireWithin_14 dX8_requireWithin_17
/-! BootSlots.image(II)I -/
def fX8_image (a1 : Int32) (a2 : Int32) (X : bsX) : Option bsXr := (fX8_requireSlot  a1 X).bind fun r1 => if r1.1 = 0 then ((fX8_requireWithin  a2 (0 : Int32) (4 : Int32) r1.2.2).bind fun r4 => if r4.1 = 0 then (if bsIn a1 6 then (if (r4.2.2 0 6 (bsIx a1) 0) = 0 then (some (0, (-1 : Int32), r4.2.2)) else (if a2.toInt < 0 ∨ 3 < a2.toInt then ((fX8_bit  (r4.2.2 0 6 (bsIx a1) 5) r4.2.2).bind fun r8 => some (0, r8.1, r8.2)) else (if a2 = 0 then (some (0, (r4.2.2 0 6 (bsIx a1) 1), r4.2.2)) else (if a2 = 1 then (some (0, (r4.2.2 0 6 (bsIx a1) 2), r4.2.2)) else (if a2 = 2 then (some (0, (r4.2.2 0 6 (bsIx a1) 3), r4.2.2)) else (if a2 = 3 then ((fX8_bit  (r4.2.2 0 6 (bsIx a1) 4) r4.2.2).bind fun r11 => some (0, r11.1, r11.2)) else (none))))))) else none) else some (r4.1, (0 : Int32), r4.2.2)) else some (r1.1, (0 : Int32), r1.2.2)
abbrev rmX8_image : Room := { frames := 8, cells := 3, slots := 18, locals := 122 }
set_option maxHeartbeats 4000000 in
set_option maxRecDepth 100000 in
theorem cX8_image_ok {l : Launch} {ρ : bsR} {cA : Nat → ClassId} {dC : Nat → ClassId} {dI : Nat → Nat → Nat} {Rz : va_W} (hst : l.stackTraces = false)  {a1 : Int32} {a2 : Int32} {X : bsX} {z : bsXr} (hf : fX8_image a1 a2 X = some z) : bsTi l yX8_image cX8_image 4 (some .int) rmX8_image ρ cA dC dI Rz [.ref (ρ 13 0 0), .int a1, .int a2] X z := by
  refine bsTi_of (by decide) (Nat.le_of_ble_eq_true rfl) (fun p e s m args below meth c C T0 => ?_)
  have C : bsCx p m c cX8_image 4 s args (Cond.code yX8_image cX8_image 4 (some .int) :: bsG) RX8 ρ cA dC dI Rz meth (some .int) := C
  rw [fX8_image] at hf
  refine v_sub [0, 1, 2] rfl ?_
  refine v_aload_n C dX8_image_0 rfl rfl ?_
  refine v_iload_n C dX8_image_1 rfl rfl ?_
  obtain ⟨r1, hc2, hf⟩ := bs_bind hf
  refine v_ticallVv (y := yX8_requireSlot) (As := [.int a1]) (rest := []) C T0 (cX8_requireSlot_ok hst  hc2) ml_X8_155 wyX8_requireSlot (bsm_X8) (bsc_X8) rfl dpX8_requireSlot ⟨Nat.le_of_ble_eq_true rfl, Nat.le_of_ble_eq_true rfl⟩ ⟨Nat.le_of_ble_eq_true rfl, Nat.le_of_ble_eq_true rfl⟩ (Nat.le_of_ble_eq_true rfl) (Nat.le_of_ble_eq_true rfl) rfl (Nat.le_of_ble_eq_true rfl) dX8_image_2 (fun h => bs_neg h hf) (fun h3 => ?_)
  replace hf := bs_pos h3 hf
  refine v_iload_n C dX8_image_5 rfl rfl ?_
  refine v_iconst (v := 0) C dX8_image_6 (by decide) ?_
  refine v_iconst (v := 4) C dX8_image_7 (by decide) ?_
  obtain ⟨r4, hc5, hf⟩ := bs_bind hf
  refine v_ticallSv (y := yX8_requireWithin) (As := [.int a2, .int (0 : Int32), .int (4 : Int32)]) (rest := []) C T0 (cX8_requireWithin_ok hst  hc5) ml_X8_198 wzX8_requireWithin dpX8_requireWithin ⟨Nat.le_of_ble_eq_true rfl, Nat.le_of_ble_eq_true rfl⟩ ⟨Nat.le_of_ble_eq_true rfl, Nat.le_of_ble_eq_true rfl⟩ (Nat.le_of_ble_eq_true rfl) (Nat.le_of_ble_eq_true rfl) rfl (Nat.le_of_ble_eq_true rfl) dX8_image_8 (fun h => bs_neg h hf) (fun h6 => ?_)
  replace hf := bs_pos h6 hf
  refine v_aload_n C dX8_image_11 rfl rfl ?_
  refine gf_X8_19 C dX8_image_12 ?_
  refine gf_X8_158 C (by decide) dX8_image_15 ?_
  refine v_iload_n C dX8_image_18 rfl rfl ?_
  obtain ⟨hi7, hf⟩ := bs_if hf
  refine v_aald (t0 := 3) (n := 6) C (bsm_K1 (by decide)) (bsc_K1 (by decide)) rfl hi7 rfl dX8_image_19 ?_
  refine gf_X8_162 C (by decide) (bsIx_lt hi7) dX8_image_20 ?_
  refine v_astore_n (lv' := [(3, .ref (ρ 0 6 (bsIx a1))), (0, .ref (ρ 13 0 0)), (1, .int a1), (2, .int a2)]) C dX8_image_23 rfl (by decide) rfl ?_
  refine v_aload_n C dX8_image_24 rfl rfl ?_
  refine gf_X8_168 C (by decide) (Nat.lt_succ_of_lt (bsIx_lt hi7)) dX8_image_25 ?_
  refine v_if_ne (tgt := 33) C dX8_image_28 (by decide) (fun h17 => ?_) (fun h17 => ?_)
  · replace hf := bs_neg h17 hf
    refine v_iload_n C dX8_image_33 rfl rfl ?_
    by_cases h10 : a2.toInt < 0 ∨ 3 < a2.toInt
    · replace hf := bs_pos h10 hf
      refine v_tabOut (tgt := 87) C dX8_image_34 h10 (by decide) ?_
      refine v_aload_n C dX8_image_87 rfl rfl ?_
      refine gf_X8_214 C (by decide) (Nat.lt_succ_of_lt (bsIx_lt hi7)) dX8_image_88 ?_
      obtain ⟨r8, hc9, hf⟩ := bs_bind hf
      refine v_callSi (y := yX8_bit) (As := [.int (r4.2.2 0 6 (bsIx a1) 5)]) (rest := []) C (cX8_bit_ok  hc9) ml_X8_173 wzX8_bit dpX8_bit ⟨Nat.le_of_ble_eq_true rfl, Nat.le_of_ble_eq_true rfl⟩ ⟨rfl, rfl⟩ ⟨Nat.le_of_ble_eq_true rfl, Nat.le_of_ble_eq_true rfl⟩ rfl (Nat.le_of_ble_eq_true rfl) dX8_image_91 ?_
      exact v_tiret C hf (Nat.le_of_ble_eq_true rfl) (Nat.le_of_ble_eq_true rfl) dX8_image_94
    replace hf := bs_neg h10 hf
    by_cases h13 : a2 = 0
    · replace hf := bs_pos h13 hf
      refine v_tabIn (off := 30) (tgt := 64) C 0 dX8_image_34 h13 (by decide) (by decide) rfl (by decide) ?_
      refine v_aload_n C dX8_image_64 rfl rfl ?_
      refine gf_X8_202 C (by decide) (Nat.lt_succ_of_lt (bsIx_lt hi7)) dX8_image_65 ?_
      exact v_tiret C hf (Nat.le_of_ble_eq_true rfl) (Nat.le_of_ble_eq_true rfl) dX8_image_68
    replace hf := bs_neg h13 hf
    by_cases h14 : a2 = 1
    · replace hf := bs_pos h14 hf
      refine v_tabIn (off := 35) (tgt := 69) C 1 dX8_image_34 h14 (by decide) (by decide) rfl (by decide) ?_
      refine v_aload_n C dX8_image_69 rfl rfl ?_
      refine gf_X8_205 C (by decide) (Nat.lt_succ_of_lt (bsIx_lt hi7)) dX8_image_70 ?_
      exact v_tiret C hf (Nat.le_of_ble_eq_true rfl) (Nat.le_of_ble_eq_true rfl) dX8_image_73
    replace hf := bs_neg h14 hf
    by_cases h15 : a2 = 2
    · replace hf := bs_pos h15 hf
      refine v_tabIn (off := 40) (tgt := 74) C 2 dX8_image_34 h15 (by decide) (by decide) rfl (by decide) ?_
      refine v_aload_n C dX8_image_74 rfl rfl ?_
      refine gf_X8_208 C (by decide) (Nat.lt_succ_of_lt (bsIx_lt hi7)) dX8_image_75 ?_
      exact v_tiret C hf (Nat.le_of_ble_eq_true rfl) (Nat.le_of_ble_eq_true rfl) dX8_image_78
    replace hf := bs_neg h15 hf
    by_cases h16 : a2 = 3
    · replace hf := bs_pos h16 hf
      refine v_tabIn (off := 45) (tgt := 79) C 3 dX8_image_34 h16 (by decide) (by decide) rfl (by decide) ?_
      refine v_aload_n C dX8_image_79 rfl rfl ?_
      refine gf_X8_211 C (by decide) (Nat.lt_succ_of_lt (bsIx_lt hi7)) dX8_image_80 ?_
      obtain ⟨r11, hc12, hf⟩ := bs_bind hf
      refine v_callSi (y := yX8_bit) (As := [.int (r4.2.2 0 6 (bsIx a1) 4)]) (rest := []) C (cX8_bit_ok  hc12) ml_X8_173 wzX8_bit dpX8_bit ⟨Nat.le_of_ble_eq_true rfl, Nat.le_of_ble_eq_true rfl⟩ ⟨rfl, rfl⟩ ⟨Nat.le_of_ble_eq_true rfl, Nat.le_of_ble_eq_true rfl⟩ rfl (Nat.le_of_ble_eq_true rfl) dX8_image_83 ?_
      exact v_tiret C hf (Nat.le_of_ble_eq_true rfl) (Nat.le_of_ble_eq_true rfl) dX8_image_86
    replace hf := bs_neg h16 hf
    exact (nomatch hf)
  · replace hf := bs_pos h17 hf
    refine v_iconst (v := -1) C dX8_image_31 (by decide) ?_
    exact v_tiret C hf (Nat.le_of_ble_eq_true rfl) (Nat.le_of_ble_eq_true rfl) dX8_image_32
/-! BootSlots.install(I)I -/
def fX8_install (a1 : Int32) (X : bsX) : Option bsXr := (fX8_requireLoaded   X).bind fun r1 => if r1.1 = 0 then ((fX8_requireWithin  a1 (0 : Int32) (3 : Int32) r1.2.2).bind fun r4 => if r4.1 = 0 then ((fX2_isOn 0  r4.2.2).bind fun r7 => if r7.1 = 0 then (some (0, (-1 : Int32), r7.2)) else (if a1.toInt < 0 ∨ 2 < a1.toInt then (some (0, (r7.2 0 2 0 3), r7.2)) else (if a1 = 0 then (some (0, (r7.2 0 2 0 1), r7.2)) else (if a1 = 1 then (some (0, (r7.2 0 2 0 2), r7.2)) else (if a1 = 2 then (some (0, (r7.2 0 6 6 1), r7.2)) else (none)))))) else some (r4.1, (0 : Int32), r4.2.2)) else some (r1.1, (0 : Int32), r1.2.2)
abbrev rmX8_install : Room := { frames := 7, cells := 2, slots := 12, locals := 103 }
set_option maxHeartbeats 4000000 in
set_option maxRecDepth 100000 in
theorem cX8_install_ok {l : Launch} {ρ : bsR} {cA : Nat → ClassId} {dC : Nat → ClassId} {dI : Nat → Nat → Nat} {Rz : va_W} (hst : l.stackTraces = false)  {a1 : Int32} {X : bsX} {z : bsXr} (hf : fX8_install a1 X = some z) : bsTi l yX8_install cX8_install 3 (some .int) rmX8_install ρ cA dC dI Rz [.ref (ρ 13 0 0), .int a1] X z := by
  refine bsTi_of (by decide) (Nat.le_of_ble_eq_true rfl) (fun p e s m args below meth c C T0 => ?_)
  have C : bsCx p m c cX8_install 3 s args (Cond.code yX8_install cX8_install 3 (some .int) :: bsG) RX8 ρ cA dC dI Rz meth (some .int) := C
  rw [fX8_install] at hf
  refine v_sub [0, 1] rfl ?_
  refine v_aload_n C dX8_install_0 rfl rfl ?_
  obtain ⟨r1, hc2, hf⟩ := bs_bind hf
  refine v_ticallVv (y := yX8_requireLoaded) (As := []) (rest := []) C T0 (cX8_requireLoaded_ok hst  hc2) ml_X8_82 wyX8_requireLoaded (bsm_X8) (bsc_X8) rfl dpX8_requireLoaded ⟨Nat.le_of_ble_eq_true rfl, Nat.le_of_ble_eq_true rfl⟩ ⟨Nat.le_of_ble_eq_true rfl, Nat.le_of_ble_eq_true rfl⟩ (Nat.le_of_ble_eq_true rfl) (Nat.le_of_ble_eq_true rfl) rfl (Nat.le_of_ble_eq_true rfl) dX8_install_1 (fun h => bs_neg h hf) (fun h3 => ?_)
  replace hf := bs_pos h3 hf
  refine v_iload_n C dX8_install_4 rfl rfl ?_
  refine v_iconst (v := 0) C dX8_install_5 (by decide) ?_
  refine v_iconst (v := 3) C dX8_install_6 (by decide) ?_
  obtain ⟨r4, hc5, hf⟩ := bs_bind hf
  refine v_ticallSv (y := yX8_requireWithin) (As := [.int a1, .int (0 : Int32), .int (3 : Int32)]) (rest := []) C T0 (cX8_requireWithin_ok hst  hc5) ml_X8_198 wzX8_requireWithin dpX8_requireWithin ⟨Nat.le_of_ble_eq_true rfl, Nat.le_of_ble_eq_true rfl⟩ ⟨Nat.le_of_ble_eq_true rfl, Nat.le_of_ble_eq_true rfl⟩ (Nat.le_of_ble_eq_true rfl) (Nat.le_of_ble_eq_true rfl) rfl (Nat.le_of_ble_eq_true rfl) dX8_install_7 (fun h => bs_neg h hf) (fun h6 => ?_)
  replace hf := bs_pos h6 hf
  refine v_aload_n C dX8_install_10 rfl rfl ?_
  refine gf_X8_19 C dX8_install_11 ?_
  refine gf_X8_217 C (by decide) dX8_install_14 ?_
  refine v_astore_n (lv' := [(2, .ref (ρ 0 2 0)), (0, .ref (ρ 13 0 0)), (1, .int a1)]) C dX8_install_17 rfl (by decide) rfl ?_
  refine v_aload_n C dX8_install_18 rfl rfl ?_
  obtain ⟨r7, hc8, hf⟩ := bs_bind hf
  refine v_callVi (y := yX2_isOn) (As := []) (rest := []) C (cX2_isOn_ok (by decide) hc8) ml_X8_221 wyX2_isOn (bsm_X2 (by decide)) (bsc_X2 (by decide)) rfl dpX2_isOn ⟨Nat.le_of_ble_eq_true rfl, Nat.le_of_ble_eq_true rfl⟩ ⟨rfl, rfl⟩ ⟨Nat.le_of_ble_eq_true rfl, Nat.le_of_ble_eq_true rfl⟩ rfl (Nat.le_of_ble_eq_true rfl) dX8_install_19 ?_
  refine v_if_ne (tgt := 27) C dX8_install_22 (by decide) (fun h13 => ?_) (fun h13 => ?_)
  · replace hf := bs_neg h13 hf
    refine v_iload_n C dX8_install_27 rfl rfl ?_
    by_cases h9 : a1.toInt < 0 ∨ 2 < a1.toInt
    · replace hf := bs_pos h9 hf
      refine v_tabOut (tgt := 74) C dX8_install_28 h9 (by decide) ?_
      refine v_aload_n C dX8_install_74 rfl rfl ?_
      refine gf_X8_234 C (by decide) dX8_install_75 ?_
      exact v_tiret C hf (Nat.le_of_ble_eq_true rfl) (Nat.le_of_ble_eq_true rfl) dX8_install_78
    replace hf := bs_neg h9 hf
    by_cases h10 : a1 = 0
    · replace hf := bs_pos h10 hf
      refine v_tabIn (off := 28) (tgt := 56) C 0 dX8_install_28 h10 (by decide) (by decide) rfl (by decide) ?_
      refine v_aload_n C dX8_install_56 rfl rfl ?_
      refine gf_X8_227 C (by decide) dX8_install_57 ?_
      exact v_tiret C hf (Nat.le_of_ble_eq_true rfl) (Nat.le_of_ble_eq_true rfl) dX8_install_60
    replace hf := bs_neg h10 hf
    by_cases h11 : a1 = 1
    · replace hf := bs_pos h11 hf
      refine v_tabIn (off := 33) (tgt := 61) C 1 dX8_install_28 h11 (by decide) (by decide) rfl (by decide) ?_
      refine v_aload_n C dX8_install_61 rfl rfl ?_
      refine gf_X8_230 C (by decide) dX8_install_62 ?_
      exact v_tiret C hf (Nat.le_of_ble_eq_true rfl) (Nat.le_of_ble_eq_true rfl) dX8_install_65
    replace hf := bs_neg h11 hf
    by_cases h12 : a1 = 2
    · replace hf := bs_pos h12 hf
      refine v_tabIn (off := 38) (tgt := 66) C 2 dX8_install_28 h12 (by decide) (by decide) rfl (by decide) ?_
      refine v_aload_n C dX8_install_66 rfl rfl ?_
      refine gf_X8_233 C (by decide) dX8_install_67 ?_
      refine gf_X8_202 C (by decide) (by decide) dX8_install_70 ?_
      exact v_tiret C hf (Nat.le_of_ble_eq_true rfl) (Nat.le_of_ble_eq_true rfl) dX8_install_73
    replace hf := bs_neg h12 hf
    exact (nomatch hf)
  · replace hf := bs_pos h13 hf
    refine v_iconst (v := -1) C dX8_install_25 (by decide) ?_
    exact v_tiret C hf (Nat.le_of_ble_eq_true rfl) (Nat.le_of_ble_eq_true rfl) dX8_install_26
/-! BootSlots.boot(II)I -/
def fX8_boot (a1 : Int32) (a2 : Int32) (X : bsX) : Option bsXr := (fX8_requireLoaded   X).bind fun r1 => if r1.1 = 0 then ((fX8_requireWithin  a2 (0 : Int32) (3 : Int32) r1.2.2).bind fun r4 => if r4.1 = 0 then ((fX0_rowOf 0 a1 r4.2.2).bind fun r7 => if r7.1 < 0 then (some (0, (-2 : Int32), r7.2)) else (if r7.1 < (12 : Int32) then (if a2.toInt < 0 ∨ 2 < a2.toInt then (if bsIn r7.1 12 then (some (0, (r7.2 0 10 0 (bsIx r7.1)), r7.2)) else none) else (if a2 = 0 then (if bsIn r7.1 12 then (some (0, (r7.2 0 7 0 (bsIx r7.1)), r7.2)) else none) else (if a2 = 1 then (if bsIn r7.1 12 then (some (0, (r7.2 0 8 0 (bsIx r7.1)), r7.2)) else none) else (if a2 = 2 then (if bsIn r7.1 12 then (some (0, (r7.2 0 9 0 (bsIx r7.1)), r7.2)) else none) else (none))))) else (some (0, (-2 : Int32), r7.2)))) else some (r4.1, (0 : Int32), r4.2.2)) else some (r1.1, (0 : Int32), r1.2.2)
abbrev rmX8_boot : Room := { frames := 7, cells := 2, slots := 12, locals := 103 }
set_option maxHeartbeats 4000000 in
set_option maxRecDepth 100000 in
theorem cX8_boot_ok {l : Launch} {ρ : bsR} {cA : Nat → ClassId} {dC : Nat → ClassId} {dI : Nat → Nat → Nat} {Rz : va_W} (hst : l.stackTraces = false)  {a1 : Int32} {a2 : Int32} {X : bsX} {z : bsXr} (hf : fX8_boot a1 a2 X = some z) : bsTi l yX8_boot cX8_boot 4 (some .int) rmX8_boot ρ cA dC dI Rz [.ref (ρ 13 0 0), .int a1, .int a2] X z := by
  refine bsTi_of (by decide) (Nat.le_of_ble_eq_true rfl) (fun p e s m args below meth c C T0 => ?_)
  have C : bsCx p m c cX8_boot 4 s args (Cond.code yX8_boot cX8_boot 4 (some .int) :: bsG) RX8 ρ cA dC dI Rz meth (some .int) := C
  rw [fX8_boot] at hf
  refine v_sub [0, 1, 2] rfl ?_
  refine v_aload_n C dX8_boot_0 rfl rfl ?_
  obtain ⟨r1, hc2, hf⟩ := bs_bind hf
  refine v_ticallVv (y := yX8_requireLoaded) (As := []) (rest := []) C T0 (cX8_requireLoaded_ok hst  hc2) ml_X8_82 wyX8_requireLoaded (bsm_X8) (bsc_X8) rfl dpX8_requireLoaded ⟨Nat.le_of_ble_eq_true rfl, Nat.le_of_ble_eq_true rfl⟩ ⟨Nat.le_of_ble_eq_true rfl, Nat.le_of_ble_eq_true rfl⟩ (Nat.le_of_ble_eq_true rfl) (Nat.le_of_ble_eq_true rfl) rfl (Nat.le_of_ble_eq_true rfl) dX8_boot_1 (fun h => bs_neg h hf) (fun h3 => ?_)
  replace hf := bs_pos h3 hf
  refine v_iload_n C dX8_boot_4 rfl rfl ?_
  refine v_iconst (v := 0) C dX8_boot_5 (by decide) ?_
  refine v_iconst (v := 3) C dX8_boot_6 (by decide) ?_
  obtain ⟨r4, hc5, hf⟩ := bs_bind hf
  refine v_ticallSv (y := yX8_requireWithin) (As := [.int a2, .int (0 : Int32), .int (3 : Int32)]) (rest := []) C T0 (cX8_requireWithin_ok hst  hc5) ml_X8_198 wzX8_requireWithin dpX8_requireWithin ⟨Nat.le_of_ble_eq_true rfl, Nat.le_of_ble_eq_true rfl⟩ ⟨Nat.le_of_ble_eq_true rfl, Nat.le_of_ble_eq_true rfl⟩ (Nat.le_of_ble_eq_true rfl) (Nat.le_of_ble_eq_true rfl) rfl (Nat.le_of_ble_eq_true rfl) dX8_boot_7 (fun h => bs_neg h hf) (fun h6 => ?_)
  replace hf := bs_pos h6 hf
  refine v_aload_n C dX8_boot_10 rfl rfl ?_
  refine gf_X8_19 C dX8_boot_11 ?_
  refine gf_X8_119 C (by decide) dX8_boot_14 ?_
  refine v_iload_n C dX8_boot_17 rfl rfl ?_
  obtain ⟨r7, hc8, hf⟩ := bs_bind hf
  refine v_callVi (y := yX0_rowOf) (As := [.int a1]) (rest := []) C (cX0_rowOf_ok (by decide) hc8) ml_X8_235 wyX0_rowOf (bsm_X0 (by decide)) (bsc_X0 (by decide)) rfl dpX0_rowOf ⟨Nat.le_of_ble_eq_true rfl, Nat.le_of_ble_eq_true rfl⟩ ⟨rfl, rfl⟩ ⟨Nat.le_of_ble_eq_true rfl, Nat.le_of_ble_eq_true rfl⟩ rfl (Nat.le_of_ble_eq_true rfl) dX8_boot_18 ?_
  refine v_istore_n (lv' := [(3, .int r7.1), (0, .ref (ρ 13 0 0)), (1, .int a1), (2, .int a2)]) C dX8_boot_21 rfl (by decide) rfl ?_
  refine v_iload_n C dX8_boot_22 rfl rfl ?_
  refine v_if_lt (tgt := 32) C dX8_boot_23 (by decide) (fun h18 => ?_) (fun h18 => ?_)
  · replace hf := bs_pos h18 hf
    refine v_bipush (v := -2) C dX8_boot_32 (by decide) ?_
    exact v_tiret C hf (Nat.le_of_ble_eq_true rfl) (Nat.le_of_ble_eq_true rfl) dX8_boot_34
  · replace hf := bs_neg h18 hf
    refine v_iload_n C dX8_boot_26 rfl rfl ?_
    refine v_bipush (v := 12) C dX8_boot_27 (by decide) ?_
    refine v_icmp_lt (tgt := 35) C dX8_boot_29 (by decide) (fun h17 => ?_) (fun h17 => ?_)
    · replace hf := bs_pos h17 hf
      refine v_iload_n C dX8_boot_35 rfl rfl ?_
      by_cases h10 : a2.toInt < 0 ∨ 2 < a2.toInt
      · replace hf := bs_pos h10 hf
        refine v_tabOut (tgt := 103) C dX8_boot_36 h10 (by decide) ?_
        refine v_aload_n C dX8_boot_103 rfl rfl ?_
        refine gf_X8_19 C dX8_boot_104 ?_
        refine gf_X8_119 C (by decide) dX8_boot_107 ?_
        refine gf_X8_248 C (by decide) dX8_boot_110 ?_
        refine v_iload_n C dX8_boot_113 rfl rfl ?_
        obtain ⟨hi9, hf⟩ := bs_if hf
        refine v_iald (n := 12) C (bsm_K10 (by decide)) (bsc_K10 (by decide)) hi9 dX8_boot_114 ?_
        exact v_tiret C hf (Nat.le_of_ble_eq_true rfl) (Nat.le_of_ble_eq_true rfl) dX8_boot_115
      replace hf := bs_neg h10 hf
      by_cases h14 : a2 = 0
      · replace hf := bs_pos h14 hf
        refine v_tabIn (off := 28) (tgt := 64) C 0 dX8_boot_36 h14 (by decide) (by decide) rfl (by decide) ?_
        refine v_aload_n C dX8_boot_64 rfl rfl ?_
        refine gf_X8_19 C dX8_boot_65 ?_
        refine gf_X8_119 C (by decide) dX8_boot_68 ?_
        refine gf_X8_239 C (by decide) dX8_boot_71 ?_
        refine v_iload_n C dX8_boot_74 rfl rfl ?_
        obtain ⟨hi11, hf⟩ := bs_if hf
        refine v_iald (n := 12) C (bsm_K7 (by decide)) (bsc_K7 (by decide)) hi11 dX8_boot_75 ?_
        exact v_tiret C hf (Nat.le_of_ble_eq_true rfl) (Nat.le_of_ble_eq_true rfl) dX8_boot_76
      replace hf := bs_neg h14 hf
      by_cases h15 : a2 = 1
      · replace hf := bs_pos h15 hf
        refine v_tabIn (off := 41) (tgt := 77) C 1 dX8_boot_36 h15 (by decide) (by decide) rfl (by decide) ?_
        refine v_aload_n C dX8_boot_77 rfl rfl ?_
        refine gf_X8_19 C dX8_boot_78 ?_
        refine gf_X8_119 C (by decide) dX8_boot_81 ?_
        refine gf_X8_243 C (by decide) dX8_boot_84 ?_
        refine v_iload_n C dX8_boot_87 rfl rfl ?_
        obtain ⟨hi12, hf⟩ := bs_if hf
        refine v_iald (n := 12) C (bsm_K8 (by decide)) (bsc_K8 (by decide)) hi12 dX8_boot_88 ?_
        exact v_tiret C hf (Nat.le_of_ble_eq_true rfl) (Nat.le_of_ble_eq_true rfl) dX8_boot_89
      replace hf := bs_neg h15 hf
      by_cases h16 : a2 = 2
      · replace hf := bs_pos h16 hf
        refine v_tabIn (off := 54) (tgt := 90) C 2 dX8_boot_36 h16 (by decide) (by decide) rfl (by decide) ?_
        refine v_aload_n C dX8_boot_90 rfl rfl ?_
        refine gf_X8_19 C dX8_boot_91 ?_
        refine gf_X8_119 C (by decide) dX8_boot_94 ?_
        refine gf_X8_246 C (by decide) dX8_boot_97 ?_
        refine v_iload_n C dX8_boot_100 rfl rfl ?_
        obtain ⟨hi13, hf⟩ := bs_if hf
        refine v_iald (n := 12) C (bsm_K9 (by decide)) (bsc_K9 (by decide)) hi13 dX8_boot_101 ?_
        exact v_tiret C hf (Nat.le_of_ble_eq_true rfl) (Nat.le_of_ble_eq_true rfl) dX8_boot_102
      replace hf := bs_neg h16 hf
      exact (nomatch hf)
    · replace hf := bs_neg h17 hf
      refine v_bipush (v := -2) C dX8_boot_32 (by decide) ?_
      exact v_tiret C hf (Nat.le_of_ble_eq_true rfl) (Nat.le_of_ble_eq_true rfl) dX8_boot_34
/-! BootSlots.whyNot(I)I -/
def fX8_whyNot (a1 : Int32) (X : bsX) : Option bsXr := (fX8_requireSlot  a1 X).bind fun r1 => if r1.1 = 0 then (if bsIn a1 6 then ((fX3_obstacle 0 (bsIx a1)  r1.2.2).bind fun r5 => some (0, r5.1, r5.2)) else none) else some (r1.1, (0 : Int32), r1.2.2)
abbrev rmX8_whyNot : Room := { frames := 8, cells := 2, slots := 12, locals := 122 }
set_option maxHeartbeats 4000000 in
set_option maxRecDepth 100000 in
theorem cX8_whyNot_ok {l : Launch} {ρ : bsR} {cA : Nat → ClassId} {dC : Nat → ClassId} {dI : Nat → Nat → Nat} {Rz : va_W} (hst : l.stackTraces = false)  {a1 : Int32} {X : bsX} {z : bsXr} (hf : fX8_whyNot a1 X = some z) : bsTi l yX8_whyNot cX8_whyNot 2 (some .int) rmX8_whyNot ρ cA dC dI Rz [.ref (ρ 13 0 0), .int a1] X z := by
  refine bsTi_of (by decide) (Nat.le_of_ble_eq_true rfl) (fun p e s m args below meth c C T0 => ?_)
  have C : bsCx p m c cX8_whyNot 2 s args (Cond.code yX8_whyNot cX8_whyNot 2 (some .int) :: bsG) RX8 ρ cA dC dI Rz meth (some .int) := C
  rw [fX8_whyNot] at hf
  refine v_sub [0, 1] rfl ?_
  refine v_aload_n C dX8_whyNot_0 rfl rfl ?_
  refine v_iload_n C dX8_whyNot_1 rfl rfl ?_
  obtain ⟨r1, hc2, hf⟩ := bs_bind hf
  refine v_ticallVv (y := yX8_requireSlot) (As := [.int a1]) (rest := []) C T0 (cX8_requireSlot_ok hst  hc2) ml_X8_155 wyX8_requireSlot (bsm_X8) (bsc_X8) rfl dpX8_requireSlot ⟨Nat.le_of_ble_eq_true rfl, Nat.le_of_ble_eq_true rfl⟩ ⟨Nat.le_of_ble_eq_true rfl, Nat.le_of_ble_eq_true rfl⟩ (Nat.le_of_ble_eq_true rfl) (Nat.le_of_ble_eq_true rfl) rfl (Nat.le_of_ble_eq_true rfl) dX8_whyNot_2 (fun h => bs_neg h hf) (fun h3 => ?_)
  replace hf := bs_pos h3 hf
  refine v_aload_n C dX8_whyNot_5 rfl rfl ?_
  refine gf_X8_19 C dX8_whyNot_6 ?_
  refine v_aload_n C dX8_whyNot_9 rfl rfl ?_
  refine gf_X8_19 C dX8_whyNot_10 ?_
  refine gf_X8_158 C (by decide) dX8_whyNot_13 ?_
  refine v_iload_n C dX8_whyNot_16 rfl rfl ?_
  obtain ⟨hi4, hf⟩ := bs_if hf
  refine v_aald (t0 := 3) (n := 6) C (bsm_K1 (by decide)) (bsc_K1 (by decide)) rfl hi4 rfl dX8_whyNot_17 ?_
  obtain ⟨r5, hc6, hf⟩ := bs_bind hf
  refine v_callVi (y := yX3_obstacle) (As := [.ref (ρ 0 5 (bsIx a1))]) (rest := []) C (cX3_obstacle_ok (by decide) (bsIx_lt hi4) hc6) ml_X8_251 wyX3_obstacle (bsm_X3 (by decide)) (bsc_X3 (by decide)) rfl dpX3_obstacle ⟨Nat.le_of_ble_eq_true rfl, Nat.le_of_ble_eq_true rfl⟩ ⟨rfl, rfl⟩ ⟨Nat.le_of_ble_eq_true rfl, Nat.le_of_ble_eq_true rfl⟩ rfl (Nat.le_of_ble_eq_true rfl) dX8_whyNot_18 ?_
  exact v_tiret C hf (Nat.le_of_ble_eq_true rfl) (Nat.le_of_ble_eq_true rfl) dX8_whyNot_21
/-! BootSlots.choice()I -/
def fX8_choice (X : bsX) : Option bsXr := (fX8_requireLoaded   X).bind fun r1 => if r1.1 = 0 then ((fX3_firstBut 0 (-1 : Int32) r1.2.2).bind fun r4 => some (0, r4.1, r4.2)) else some (r1.1, (0 : Int32), r1.2.2)
abbrev rmX8_choice : Room := { frames := 7, cells := 1, slots := 6, locals := 101 }
set_option maxHeartbeats 4000000 in
set_option maxRecDepth 100000 in
theorem cX8_choice_ok {l : Launch} {ρ : bsR} {cA : Nat → ClassId} {dC : Nat → ClassId} {dI : Nat → Nat → Nat} {Rz : va_W} (hst : l.stackTraces = false)  {X : bsX} {z : bsXr} (hf : fX8_choice  X = some z) : bsTi l yX8_choice cX8_choice 1 (some .int) rmX8_choice ρ cA dC dI Rz [.ref (ρ 13 0 0)] X z := by
  refine bsTi_of (by decide) (Nat.le_of_ble_eq_true rfl) (fun p e s m args below meth c C T0 => ?_)
  have C : bsCx p m c cX8_choice 1 s args (Cond.code yX8_choice cX8_choice 1 (some .int) :: bsG) RX8 ρ cA dC dI Rz meth (some .int) := C
  rw [fX8_choice] at hf
  refine v_sub [0] rfl ?_
  refine v_aload_n C dX8_choice_0 rfl rfl ?_
  obtain ⟨r1, hc2, hf⟩ := bs_bind hf
  refine v_ticallVv (y := yX8_requireLoaded) (As := []) (rest := []) C T0 (cX8_requireLoaded_ok hst  hc2) ml_X8_82 wyX8_requireLoaded (bsm_X8) (bsc_X8) rfl dpX8_requireLoaded ⟨Nat.le_of_ble_eq_true rfl, Nat.le_of_ble_eq_true rfl⟩ ⟨Nat.le_of_ble_eq_true rfl, Nat.le_of_ble_eq_true rfl⟩ (Nat.le_of_ble_eq_true rfl) (Nat.le_of_ble_eq_true rfl) rfl (Nat.le_of_ble_eq_true rfl) dX8_choice_1 (fun h => bs_neg h hf) (fun h3 => ?_)
  replace hf := bs_pos h3 hf
  refine v_aload_n C dX8_choice_4 rfl rfl ?_
  refine gf_X8_19 C dX8_choice_5 ?_
  refine v_iconst (v := -1) C dX8_choice_8 (by decide) ?_
  obtain ⟨r4, hc5, hf⟩ := bs_bind hf
  refine v_callVi (y := yX3_firstBut) (As := [.int (-1 : Int32)]) (rest := []) C (cX3_firstBut_ok (by decide) hc5) ml_X8_255 wyX3_firstBut (bsm_X3 (by decide)) (bsc_X3 (by decide)) rfl dpX3_firstBut ⟨Nat.le_of_ble_eq_true rfl, Nat.le_of_ble_eq_true rfl⟩ ⟨rfl, rfl⟩ ⟨Nat.le_of_ble_eq_true rfl, Nat.le_of_ble_eq_true rfl⟩ rfl (Nat.le_of_ble_eq_true rfl) dX8_choice_9 ?_
  exact v_tiret C hf (Nat.le_of_ble_eq_true rfl) (Nat.le_of_ble_eq_true rfl) dX8_choice_12
/-! BootSlots.place(I)I -/
def fX8_place_76 (k33 : Nat → Int32 → Int32 → bsX → Option bsXr) (q2 : Nat) (x3 : Int32) (x4 : Int32) (X : bsX) : Option bsXr := k33 q2 x3 (x4 + (1 : Int32)) X
def fX8_place_33 : Nat → Nat → Int32 → Int32 → bsX → Option bsXr
  | 0, _, _, _, _ => none
  | n + 1, q2, x3, x4, X => if (6 : Int32) ≤ x4 then (some (0, x3, X)) else (if bsIn x4 6 then ((fX3_isBootable 0 (bsIx x4)  X).bind fun r2 => if r2.1 = 0 then (fX8_place_76  (fX8_place_33  n) q2 x3 x4 r2.2) else ((fX5_isAheadOf 0 (bsIx x4) q2  r2.2).bind fun r4 => if r4.1 = 0 then (fX8_place_76  (fX8_place_33  n) q2 x3 x4 r4.2) else (fX8_place_76  (fX8_place_33  n) q2 (x3 + (1 : Int32)) x4 r4.2))) else none)
def fX8_place (a1 : Int32) (X : bsX) : Option bsXr := (fX8_requireSlot  a1 X).bind fun r9 => if r9.1 = 0 then (if bsIn a1 6 then ((fX3_isBootable 0 (bsIx a1)  r9.2.2).bind fun r13 => if r13.1 = 0 then (some (0, (-1 : Int32), r13.2)) else (fX8_place_33   bsF (bsIx a1) (0 : Int32) (0 : Int32) r13.2)) else none) else some (r9.1, (0 : Int32), r9.2.2)
abbrev rmX8_place : Room := { frames := 8, cells := 2, slots := 12, locals := 122 }
set_option maxHeartbeats 4000000 in
set_option maxRecDepth 100000 in
theorem wX8_place_76 {p : Program} {l : Launch} {e : Env} {s : State} {m : MethodId} {args : Array Value} {below : List Frame} {meth : Method} {c : Code} {ρ : bsR} {cA : Nat → ClassId} {dC : Nat → ClassId} {dI : Nat → Nat → Nat} {Rz : va_W} {Ts : List Cond}  (k33 : Nat → Int32 → Int32 → bsX → Option bsXr)  {z : bsXr} (C : bsCx p m c cX8_place 6 s args Ts RX8 ρ cA dC dI Rz meth (some .int)) (T0 : ∀ x ∈ c.exceptionTable.toList, False) (hst : l.stackTraces = false) (hk33 : ∀ (q2 : Nat) (x3 : Int32) (x4 : Int32) (X : bsX), q2 < 6 → k33 q2 x3 x4 X = some z → bsV p l e rmX8_place s m args below meth c 2 12 (vx_MQ below (bsXQi ρ cA dC dI Rz z s.heap.size) (bsXX ρ cA dC dI Rz z s.heap.size) args s rmX8_place.cells rmX8_place.slots (bsA ρ cA Rz s.heap.size)) ρ cA dC dI Rz 6 33 [(0, .ref (ρ 13 0 0)), (2, .ref (ρ 0 5 q2)), (3, .int x3), (4, .int x4)] [] X)  (q2 : Nat) (x3 : Int32) (x4 : Int32) (X : bsX) (hq2 : q2 < 6) (hf : fX8_place_76 k33 q2 x3 x4 X = some z) : bsV p l e rmX8_place s m args below meth c 2 12 (vx_MQ below (bsXQi ρ cA dC dI Rz z s.heap.size) (bsXX ρ cA dC dI Rz z s.heap.size) args s rmX8_place.cells rmX8_place.slots (bsA ρ cA Rz s.heap.size)) ρ cA dC dI Rz 6 76 [(0, .ref (ρ 13 0 0)), (2, .ref (ρ 0 5 q2)), (3, .int x3), (4, .int x4)] [] X := by
  rw [fX8_place_76] at hf
  refine v_iinc (k0 := 3) (v := (x4 + (1 : Int32))) (lv' := [(4, .int (x4 + (1 : Int32))), (0, .ref (ρ 13 0 0)), (2, .ref (ρ 0 5 q2)), (3, .int x3)]) C dX8_place_76 rfl rfl (by decide) rfl ?_
  refine v_goto (tgt := 33) C dX8_place_79 (by decide) ?_
  refine v_widen (k := 2) (n := 12) (Nat.le_of_ble_eq_true rfl) (Nat.le_of_ble_eq_true rfl) ?_
  refine v_sub [1, 2, 3, 0] rfl ?_
  exact hk33 _ _ _ _ hq2 hf
set_option maxHeartbeats 4000000 in
set_option maxRecDepth 100000 in
theorem wX8_place_33 {p : Program} {l : Launch} {e : Env} {s : State} {m : MethodId} {args : Array Value} {below : List Frame} {meth : Method} {c : Code} {ρ : bsR} {cA : Nat → ClassId} {dC : Nat → ClassId} {dI : Nat → Nat → Nat} {Rz : va_W} {Ts : List Cond}   {z : bsXr} (C : bsCx p m c cX8_place 6 s args Ts RX8 ρ cA dC dI Rz meth (some .int)) (T0 : ∀ x ∈ c.exceptionTable.toList, False) (hst : l.stackTraces = false) : ∀ (n : Nat) (q2 : Nat) (x3 : Int32) (x4 : Int32) (X : bsX), q2 < 6 → fX8_place_33  n q2 x3 x4 X = some z → bsV p l e rmX8_place s m args below meth c 2 12 (vx_MQ below (bsXQi ρ cA dC dI Rz z s.heap.size) (bsXX ρ cA dC dI Rz z s.heap.size) args s rmX8_place.cells rmX8_place.slots (bsA ρ cA Rz s.heap.size)) ρ cA dC dI Rz 6 33 [(0, .ref (ρ 13 0 0)), (2, .ref (ρ 0 5 q2)), (3, .int x3), (4, .int x4)] [] X := by
  intro n
  induction n with
  | zero => intro q2 x3 x4 X hq2 hf; exact (nomatch hf)
  | succ n ih =>
    intro q2 x3 x4 X hq2 hf
    rw [fX8_place_33] at hf
    refine v_iload C dX8_place_33 rfl ?_
    refine v_bipush (v := 6) C dX8_place_35 (by decide) ?_
    refine v_icmp_ge (tgt := 82) C dX8_place_37 (by decide) (fun h8 => ?_) (fun h8 => ?_)
    · replace hf := bs_pos h8 hf
      refine v_iload_n C dX8_place_82 rfl rfl ?_
      exact v_tiret C hf (Nat.le_of_ble_eq_true rfl) (Nat.le_of_ble_eq_true rfl) dX8_place_83
    · replace hf := bs_neg h8 hf
      refine v_aload_n C dX8_place_40 rfl rfl ?_
      refine gf_X8_19 C dX8_place_41 ?_
      refine gf_X8_158 C (by decide) dX8_place_44 ?_
      refine v_iload C dX8_place_47 rfl ?_
      obtain ⟨hi1, hf⟩ := bs_if hf
      refine v_aald (t0 := 3) (n := 6) C (bsm_K1 (by decide)) (bsc_K1 (by decide)) rfl hi1 rfl dX8_place_49 ?_
      refine v_astore (lv' := [(5, .ref (ρ 0 5 (bsIx x4))), (0, .ref (ρ 13 0 0)), (2, .ref (ρ 0 5 q2)), (3, .int x3), (4, .int x4)]) C dX8_place_50 (by decide) rfl ?_
      refine v_aload_n C dX8_place_52 rfl rfl ?_
      refine gf_X8_19 C dX8_place_53 ?_
      refine v_aload C dX8_place_56 rfl ?_
      obtain ⟨r2, hc3, hf⟩ := bs_bind hf
      refine v_callVi (y := yX3_isBootable) (As := [.ref (ρ 0 5 (bsIx x4))]) (rest := []) C (cX3_isBootable_ok (by decide) (bsIx_lt hi1) hc3) ml_X8_189 wyX3_isBootable (bsm_X3 (by decide)) (bsc_X3 (by decide)) rfl dpX3_isBootable ⟨Nat.le_of_ble_eq_true rfl, Nat.le_of_ble_eq_true rfl⟩ ⟨rfl, rfl⟩ ⟨Nat.le_of_ble_eq_true rfl, Nat.le_of_ble_eq_true rfl⟩ rfl (Nat.le_of_ble_eq_true rfl) dX8_place_58 ?_
      refine v_if_eq (tgt := 76) C dX8_place_61 (by decide) (fun h7 => ?_) (fun h7 => ?_)
      · replace hf := bs_pos h7 hf
        refine v_widen (k := 2) (n := 12) (Nat.le_of_ble_eq_true rfl) (Nat.le_of_ble_eq_true rfl) ?_
        refine v_sub [1, 2, 3, 4] rfl ?_
        exact wX8_place_76  (fX8_place_33  n) C T0 hst (fun b0 b1 b2 X g0 h => ih b0 b1 b2 X g0 h) _ _ _ _ hq2 hf
      · replace hf := bs_neg h7 hf
        refine v_aload C dX8_place_64 rfl ?_
        refine v_aload_n C dX8_place_66 rfl rfl ?_
        obtain ⟨r4, hc5, hf⟩ := bs_bind hf
        refine v_callVi (y := yX5_isAheadOf) (As := [.ref (ρ 0 5 q2)]) (rest := []) C (cX5_isAheadOf_ok (by decide) (bsIx_lt hi1) hq2 hc5) ml_X8_258 wyX5_isAheadOf (bsm_X5 (by decide) (bsIx_lt hi1)) (bsc_X5 (by decide)) rfl dpX5_isAheadOf ⟨Nat.le_of_ble_eq_true rfl, Nat.le_of_ble_eq_true rfl⟩ ⟨rfl, rfl⟩ ⟨Nat.le_of_ble_eq_true rfl, Nat.le_of_ble_eq_true rfl⟩ rfl (Nat.le_of_ble_eq_true rfl) dX8_place_67 ?_
        refine v_if_eq (tgt := 76) C dX8_place_70 (by decide) (fun h6 => ?_) (fun h6 => ?_)
        · replace hf := bs_pos h6 hf
          refine v_widen (k := 2) (n := 12) (Nat.le_of_ble_eq_true rfl) (Nat.le_of_ble_eq_true rfl) ?_
          refine v_sub [1, 2, 3, 4] rfl ?_
          exact wX8_place_76  (fX8_place_33  n) C T0 hst (fun b0 b1 b2 X g0 h => ih b0 b1 b2 X g0 h) _ _ _ _ hq2 hf
        · replace hf := bs_neg h6 hf
          refine v_iinc (k0 := 3) (v := (x3 + (1 : Int32))) (lv' := [(3, .int (x3 + (1 : Int32))), (5, .ref (ρ 0 5 (bsIx x4))), (0, .ref (ρ 13 0 0)), (2, .ref (ρ 0 5 q2)), (4, .int x4)]) C dX8_place_73 rfl rfl (by decide) rfl ?_
          refine v_widen (k := 2) (n := 12) (Nat.le_of_ble_eq_true rfl) (Nat.le_of_ble_eq_true rfl) ?_
          refine v_sub [2, 3, 0, 4] rfl ?_
          exact wX8_place_76  (fX8_place_33  n) C T0 hst (fun b0 b1 b2 X g0 h => ih b0 b1 b2 X g0 h) _ _ _ _ hq2 hf
set_option maxHeartbeats 4000000 in
set_option maxRecDepth 100000 in
theorem cX8_place_ok {l : Launch} {ρ : bsR} {cA : Nat → ClassId} {dC : Nat → ClassId} {dI : Nat → Nat → Nat} {Rz : va_W} (hst : l.stackTraces = false)  {a1 : Int32} {X : bsX} {z : bsXr} (hf : fX8_place a1 X = some z) : bsTi l yX8_place cX8_place 6 (some .int) rmX8_place ρ cA dC dI Rz [.ref (ρ 13 0 0), .int a1] X z := by
  refine bsTi_of (by decide) (Nat.le_of_ble_eq_true rfl) (fun p e s m args below meth c C T0 => ?_)
  have C : bsCx p m c cX8_place 6 s args (Cond.code yX8_place cX8_place 6 (some .int) :: bsG) RX8 ρ cA dC dI Rz meth (some .int) := C
  rw [fX8_place] at hf
  refine v_sub [0, 1] rfl ?_
  refine v_aload_n C dX8_place_0 rfl rfl ?_
  refine v_iload_n C dX8_place_1 rfl rfl ?_
  obtain ⟨r9, hc10, hf⟩ := bs_bind hf
  refine v_ticallVv (y := yX8_requireSlot) (As := [.int a1]) (rest := []) C T0 (cX8_requireSlot_ok hst  hc10) ml_X8_155 wyX8_requireSlot (bsm_X8) (bsc_X8) rfl dpX8_requireSlot ⟨Nat.le_of_ble_eq_true rfl, Nat.le_of_ble_eq_true rfl⟩ ⟨Nat.le_of_ble_eq_true rfl, Nat.le_of_ble_eq_true rfl⟩ (Nat.le_of_ble_eq_true rfl) (Nat.le_of_ble_eq_true rfl) rfl (Nat.le_of_ble_eq_true rfl) dX8_place_2 (fun h => bs_neg h hf) (fun h11 => ?_)
  replace hf := bs_pos h11 hf
  refine v_aload_n C dX8_place_5 rfl rfl ?_
  refine gf_X8_19 C dX8_place_6 ?_
  refine gf_X8_158 C (by decide) dX8_place_9 ?_
  refine v_iload_n C dX8_place_12 rfl rfl ?_
  obtain ⟨hi12, hf⟩ := bs_if hf
  refine v_aald (t0 := 3) (n := 6) C (bsm_K1 (by decide)) (bsc_K1 (by decide)) rfl hi12 rfl dX8_place_13 ?_
  refine v_astore_n (lv' := [(2, .ref (ρ 0 5 (bsIx a1))), (0, .ref (ρ 13 0 0)), (1, .int a1)]) C dX8_place_14 rfl (by decide) rfl ?_
  refine v_aload_n C dX8_place_15 rfl rfl ?_
  refine gf_X8_19 C dX8_place_16 ?_
  refine v_aload_n C dX8_place_19 rfl rfl ?_
  obtain ⟨r13, hc14, hf⟩ := bs_bind hf
  refine v_callVi (y := yX3_isBootable) (As := [.ref (ρ 0 5 (bsIx a1))]) (rest := []) C (cX3_isBootable_ok (by decide) (bsIx_lt hi12) hc14) ml_X8_189 wyX3_isBootable (bsm_X3 (by decide)) (bsc_X3 (by decide)) rfl dpX3_isBootable ⟨Nat.le_of_ble_eq_true rfl, Nat.le_of_ble_eq_true rfl⟩ ⟨rfl, rfl⟩ ⟨Nat.le_of_ble_eq_true rfl, Nat.le_of_ble_eq_true rfl⟩ rfl (Nat.le_of_ble_eq_true rfl) dX8_place_20 ?_
  refine v_if_ne (tgt := 28) C dX8_place_23 (by decide) (fun h15 => ?_) (fun h15 => ?_)
  · replace hf := bs_neg h15 hf
    refine v_iconst (v := 0) C dX8_place_28 (by decide) ?_
    refine v_istore_n (lv' := [(3, .int (0 : Int32)), (2, .ref (ρ 0 5 (bsIx a1))), (0, .ref (ρ 13 0 0)), (1, .int a1)]) C dX8_place_29 rfl (by decide) rfl ?_
    refine v_iconst (v := 0) C dX8_place_30 (by decide) ?_
    refine v_istore (lv' := [(4, .int (0 : Int32)), (3, .int (0 : Int32)), (2, .ref (ρ 0 5 (bsIx a1))), (0, .ref (ρ 13 0 0)), (1, .int a1)]) C dX8_place_31 (by decide) rfl ?_
    refine v_widen (k := 2) (n := 12) (Nat.le_of_ble_eq_true rfl) (Nat.le_of_ble_eq_true rfl) ?_
    refine v_sub [3, 2, 1, 0] rfl ?_
    exact wX8_place_33   C T0 hst  bsF _ _ _ _ (bsIx_lt hi12) hf
  · replace hf := bs_pos h15 hf
    refine v_iconst (v := -1) C dX8_place_26 (by decide) ?_
    exact v_tiret C hf (Nat.le_of_ble_eq_true rfl) (Nat.le_of_ble_eq_true rfl) dX8_place_27
/-! BootSlots.newest()I -/
def fX8_newest_55 (k10 : Int32 → Int32 → Int32 → bsX → Option bsXr) (x1 : Int32) (x2 : Int32) (x3 : Int32) (X : bsX) : Option bsXr := k10 x1 x2 (x3 + (1 : Int32)) X
def fX8_newest_10 : Nat → Int32 → Int32 → Int32 → bsX → Option bsXr
  | 0, _, _, _, _ => none
  | n + 1, x1, x2, x3, X => if (6 : Int32) ≤ x3 then (some (0, x1, X)) else (if bsIn x3 6 then (if (X 0 6 (bsIx x3) 0) = 0 then (fX8_newest_55  (fX8_newest_10  n) x1 x2 x3 X) else (if (X 0 6 (bsIx x3) 1) ≤ x2 then (fX8_newest_55  (fX8_newest_10  n) x1 x2 x3 X) else (fX8_newest_55  (fX8_newest_10  n) x3 (X 0 6 (bsIx x3) 1) x3 X))) else none)
def fX8_newest (X : bsX) : Option bsXr := (fX8_requireLoaded   X).bind fun r5 => if r5.1 = 0 then (fX8_newest_10   bsF (-1 : Int32) (-1 : Int32) (0 : Int32) r5.2.2) else some (r5.1, (0 : Int32), r5.2.2)
abbrev rmX8_newest : Room := { frames := 7, cells := 1, slots := 6, locals := 101 }
set_option maxHeartbeats 4000000 in
set_option maxRecDepth 100000 in
theorem wX8_newest_55 {p : Program} {l : Launch} {e : Env} {s : State} {m : MethodId} {args : Array Value} {below : List Frame} {meth : Method} {c : Code} {ρ : bsR} {cA : Nat → ClassId} {dC : Nat → ClassId} {dI : Nat → Nat → Nat} {Rz : va_W} {Ts : List Cond}  (k10 : Int32 → Int32 → Int32 → bsX → Option bsXr)  {z : bsXr} (C : bsCx p m c cX8_newest 5 s args Ts RX8 ρ cA dC dI Rz meth (some .int)) (T0 : ∀ x ∈ c.exceptionTable.toList, False) (hst : l.stackTraces = false) (hk10 : ∀ (x1 : Int32) (x2 : Int32) (x3 : Int32) (X : bsX), k10 x1 x2 x3 X = some z → bsV p l e rmX8_newest s m args below meth c 1 6 (vx_MQ below (bsXQi ρ cA dC dI Rz z s.heap.size) (bsXX ρ cA dC dI Rz z s.heap.size) args s rmX8_newest.cells rmX8_newest.slots (bsA ρ cA Rz s.heap.size)) ρ cA dC dI Rz 5 10 [(0, .ref (ρ 13 0 0)), (1, .int x1), (2, .int x2), (3, .int x3)] [] X)  (x1 : Int32) (x2 : Int32) (x3 : Int32) (X : bsX) (hf : fX8_newest_55 k10 x1 x2 x3 X = some z) : bsV p l e rmX8_newest s m args below meth c 1 6 (vx_MQ below (bsXQi ρ cA dC dI Rz z s.heap.size) (bsXX ρ cA dC dI Rz z s.heap.size) args s rmX8_newest.cells rmX8_newest.slots (bsA ρ cA Rz s.heap.size)) ρ cA dC dI Rz 5 55 [(0, .ref (ρ 13 0 0)), (1, .int x1), (2, .int x2), (3, .int x3)] [] X := by
  rw [fX8_newest_55] at hf
  refine v_iinc (k0 := 3) (v := (x3 + (1 : Int32))) (lv' := [(3, .int (x3 + (1 : Int32))), (0, .ref (ρ 13 0 0)), (1, .int x1), (2, .int x2)]) C dX8_newest_55 rfl rfl (by decide) rfl ?_
  refine v_goto (tgt := 10) C dX8_newest_58 (by decide) ?_
  refine v_widen (k := 1) (n := 6) (Nat.le_of_ble_eq_true rfl) (Nat.le_of_ble_eq_true rfl) ?_
  refine v_sub [1, 2, 3, 0] rfl ?_
  exact hk10 _ _ _ _  hf
set_option maxHeartbeats 4000000 in
set_option maxRecDepth 100000 in
theorem wX8_newest_10 {p : Program} {l : Launch} {e : Env} {s : State} {m : MethodId} {args : Array Value} {below : List Frame} {meth : Method} {c : Code} {ρ : bsR} {cA : Nat → ClassId} {dC : Nat → ClassId} {dI : Nat → Nat → Nat} {Rz : va_W} {Ts : List Cond}   {z : bsXr} (C : bsCx p m c cX8_newest 5 s args Ts RX8 ρ cA dC dI Rz meth (some .int)) (T0 : ∀ x ∈ c.exceptionTable.toList, False) (hst : l.stackTraces = false) : ∀ (n : Nat) (x1 : Int32) (x2 : Int32) (x3 : Int32) (X : bsX), fX8_newest_10  n x1 x2 x3 X = some z → bsV p l e rmX8_newest s m args below meth c 1 6 (vx_MQ below (bsXQi ρ cA dC dI Rz z s.heap.size) (bsXX ρ cA dC dI Rz z s.heap.size) args s rmX8_newest.cells rmX8_newest.slots (bsA ρ cA Rz s.heap.size)) ρ cA dC dI Rz 5 10 [(0, .ref (ρ 13 0 0)), (1, .int x1), (2, .int x2), (3, .int x3)] [] X := by
  intro n
  induction n with
  | zero => intro x1 x2 x3 X hf; exact (nomatch hf)
  | succ n ih =>
    intro x1 x2 x3 X hf
    rw [fX8_newest_10] at hf
    refine v_iload_n C dX8_newest_10 rfl rfl ?_
    refine v_bipush (v := 6) C dX8_newest_11 (by decide) ?_
    refine v_icmp_ge (tgt := 61) C dX8_newest_13 (by decide) (fun h4 => ?_) (fun h4 => ?_)
    · replace hf := bs_pos h4 hf
      refine v_iload_n C dX8_newest_61 rfl rfl ?_
      exact v_tiret C hf (Nat.le_of_ble_eq_true rfl) (Nat.le_of_ble_eq_true rfl) dX8_newest_62
    · replace hf := bs_neg h4 hf
      refine v_aload_n C dX8_newest_16 rfl rfl ?_
      refine gf_X8_19 C dX8_newest_17 ?_
      refine gf_X8_158 C (by decide) dX8_newest_20 ?_
      refine v_iload_n C dX8_newest_23 rfl rfl ?_
      obtain ⟨hi1, hf⟩ := bs_if hf
      refine v_aald (t0 := 3) (n := 6) C (bsm_K1 (by decide)) (bsc_K1 (by decide)) rfl hi1 rfl dX8_newest_24 ?_
      refine gf_X8_162 C (by decide) (bsIx_lt hi1) dX8_newest_25 ?_
      refine v_astore (lv' := [(4, .ref (ρ 0 6 (bsIx x3))), (0, .ref (ρ 13 0 0)), (1, .int x1), (2, .int x2), (3, .int x3)]) C dX8_newest_28 (by decide) rfl ?_
      refine v_aload C dX8_newest_30 rfl ?_
      refine gf_X8_168 C (by decide) (Nat.lt_succ_of_lt (bsIx_lt hi1)) dX8_newest_32 ?_
      refine v_if_eq (tgt := 55) C dX8_newest_35 (by decide) (fun h3 => ?_) (fun h3 => ?_)
      · replace hf := bs_pos h3 hf
        refine v_widen (k := 1) (n := 6) (Nat.le_of_ble_eq_true rfl) (Nat.le_of_ble_eq_true rfl) ?_
        refine v_sub [1, 2, 3, 4] rfl ?_
        exact wX8_newest_55  (fX8_newest_10  n) C T0 hst (fun b0 b1 b2 X  h => ih b0 b1 b2 X  h) _ _ _ _  hf
      · replace hf := bs_neg h3 hf
        refine v_aload C dX8_newest_38 rfl ?_
        refine gf_X8_202 C (by decide) (Nat.lt_succ_of_lt (bsIx_lt hi1)) dX8_newest_40 ?_
        refine v_iload_n C dX8_newest_43 rfl rfl ?_
        refine v_icmp_le (tgt := 55) C dX8_newest_44 (by decide) (fun h2 => ?_) (fun h2 => ?_)
        · replace hf := bs_pos h2 hf
          refine v_widen (k := 1) (n := 6) (Nat.le_of_ble_eq_true rfl) (Nat.le_of_ble_eq_true rfl) ?_
          refine v_sub [1, 2, 3, 4] rfl ?_
          exact wX8_newest_55  (fX8_newest_10  n) C T0 hst (fun b0 b1 b2 X  h => ih b0 b1 b2 X  h) _ _ _ _  hf
        · replace hf := bs_neg h2 hf
          refine v_iload_n C dX8_newest_47 rfl rfl ?_
          refine v_istore_n (lv' := [(1, .int x3), (4, .ref (ρ 0 6 (bsIx x3))), (0, .ref (ρ 13 0 0)), (2, .int x2), (3, .int x3)]) C dX8_newest_48 rfl (by decide) rfl ?_
          refine v_aload C dX8_newest_49 rfl ?_
          refine gf_X8_202 C (by decide) (Nat.lt_succ_of_lt (bsIx_lt hi1)) dX8_newest_51 ?_
          refine v_istore_n (lv' := [(2, .int (X 0 6 (bsIx x3) 1)), (1, .int x3), (4, .ref (ρ 0 6 (bsIx x3))), (0, .ref (ρ 13 0 0)), (3, .int x3)]) C dX8_newest_54 rfl (by decide) rfl ?_
          refine v_widen (k := 1) (n := 6) (Nat.le_of_ble_eq_true rfl) (Nat.le_of_ble_eq_true rfl) ?_
          refine v_sub [3, 1, 0, 4] rfl ?_
          exact wX8_newest_55  (fX8_newest_10  n) C T0 hst (fun b0 b1 b2 X  h => ih b0 b1 b2 X  h) _ _ _ _  hf
set_option maxHeartbeats 4000000 in
set_option maxRecDepth 100000 in
theorem cX8_newest_ok {l : Launch} {ρ : bsR} {cA : Nat → ClassId} {dC : Nat → ClassId} {dI : Nat → Nat → Nat} {Rz : va_W} (hst : l.stackTraces = false)  {X : bsX} {z : bsXr} (hf : fX8_newest  X = some z) : bsTi l yX8_newest cX8_newest 5 (some .int) rmX8_newest ρ cA dC dI Rz [.ref (ρ 13 0 0)] X z := by
  refine bsTi_of (by decide) (Nat.le_of_ble_eq_true rfl) (fun p e s m args below meth c C T0 => ?_)
  have C : bsCx p m c cX8_newest 5 s args (Cond.code yX8_newest cX8_newest 5 (some .int) :: bsG) RX8 ρ cA dC dI Rz meth (some .int) := C
  rw [fX8_newest] at hf
  refine v_sub [0] rfl ?_
  refine v_aload_n C dX8_newest_0 rfl rfl ?_
  obtain ⟨r5, hc6, hf⟩ := bs_bind hf
  refine v_ticallVv (y := yX8_requireLoaded) (As := []) (rest := []) C T0 (cX8_requireLoaded_ok hst  hc6) ml_X8_82 wyX8_requireLoaded (bsm_X8) (bsc_X8) rfl dpX8_requireLoaded ⟨Nat.le_of_ble_eq_true rfl, Nat.le_of_ble_eq_true rfl⟩ ⟨Nat.le_of_ble_eq_true rfl, Nat.le_of_ble_eq_true rfl⟩ (Nat.le_of_ble_eq_true rfl) (Nat.le_of_ble_eq_true rfl) rfl (Nat.le_of_ble_eq_true rfl) dX8_newest_1 (fun h => bs_neg h hf) (fun h7 => ?_)
  replace hf := bs_pos h7 hf
  refine v_iconst (v := -1) C dX8_newest_4 (by decide) ?_
  refine v_istore_n (lv' := [(1, .int (-1 : Int32)), (0, .ref (ρ 13 0 0))]) C dX8_newest_5 rfl (by decide) rfl ?_
  refine v_iconst (v := -1) C dX8_newest_6 (by decide) ?_
  refine v_istore_n (lv' := [(2, .int (-1 : Int32)), (1, .int (-1 : Int32)), (0, .ref (ρ 13 0 0))]) C dX8_newest_7 rfl (by decide) rfl ?_
  refine v_iconst (v := 0) C dX8_newest_8 (by decide) ?_
  refine v_istore_n (lv' := [(3, .int (0 : Int32)), (2, .int (-1 : Int32)), (1, .int (-1 : Int32)), (0, .ref (ρ 13 0 0))]) C dX8_newest_9 rfl (by decide) rfl ?_
  refine v_widen (k := 1) (n := 6) (Nat.le_of_ble_eq_true rfl) (Nat.le_of_ble_eq_true rfl) ?_
  refine v_sub [3, 2, 1, 0] rfl ?_
  exact wX8_newest_10   C T0 hst  bsF _ _ _ _  hf
/-! BootSlots.harm(LBootSlots$Slot;)I -/
def fX8_harm (j1 : Nat) (X : bsX) : Option (Int32 × bsX) := if (X 0 6 j1 0) = 0 then (some ((0 : Int32), X)) else ((fX3_isBootable 0 j1  X).bind fun r1 => if r1.1 = 0 then (some ((1 : Int32), r1.2)) else (some ((2 : Int32), r1.2)))
abbrev rmX8_harm : Room := { frames := 2, cells := 0, slots := 0, locals := 43 }
set_option maxHeartbeats 4000000 in
set_option maxRecDepth 100000 in
theorem cX8_harm_ok {l : Launch} {ρ : bsR} {cA : Nat → ClassId} {dC : Nat → ClassId} {dI : Nat → Nat → Nat} {Rz : va_W} {j1 : Nat} (hj1 : j1 < 6) {X : bsX} {z : (Int32 × bsX)} (hf : fX8_harm j1 X = some z) : bsMi l yX8_harm cX8_harm 2 (some .int) rmX8_harm ρ cA dC dI Rz [.ref (ρ 13 0 0), .ref (ρ 0 5 j1)] X z := by
  refine bsMi_of (by decide) (Nat.le_of_ble_eq_true rfl) (fun p e s m args below meth c C => ?_)
  have C : bsCx p m c cX8_harm 2 s args (Cond.code yX8_harm cX8_harm 2 (some .int) :: bsG) RX8 ρ cA dC dI Rz meth (some .int) := C
  rw [fX8_harm] at hf
  refine v_sub [0, 1] rfl ?_
  refine v_aload_n C dX8_harm_0 rfl rfl ?_
  refine gf_X8_162 C (by decide) hj1 dX8_harm_1 ?_
  refine gf_X8_168 C (by decide) (Nat.lt_succ_of_lt hj1) dX8_harm_4 ?_
  refine v_if_ne (tgt := 12) C dX8_harm_7 (by decide) (fun h4 => ?_) (fun h4 => ?_)
  · replace hf := bs_neg h4 hf
    refine v_aload_n C dX8_harm_12 rfl rfl ?_
    refine gf_X8_19 C dX8_harm_13 ?_
    refine v_aload_n C dX8_harm_16 rfl rfl ?_
    obtain ⟨r1, hc2, hf⟩ := bs_bind hf
    refine v_callVi (y := yX3_isBootable) (As := [.ref (ρ 0 5 j1)]) (rest := []) C (cX3_isBootable_ok (by decide) hj1 hc2) ml_X8_189 wyX3_isBootable (bsm_X3 (by decide)) (bsc_X3 (by decide)) rfl dpX3_isBootable ⟨Nat.le_of_ble_eq_true rfl, Nat.le_of_ble_eq_true rfl⟩ ⟨rfl, rfl⟩ ⟨Nat.le_of_ble_eq_true rfl, Nat.le_of_ble_eq_true rfl⟩ rfl (Nat.le_of_ble_eq_true rfl) dX8_harm_17 ?_
    refine v_if_eq (tgt := 27) C dX8_harm_20 (by decide) (fun h3 => ?_) (fun h3 => ?_)
    · replace hf := bs_pos h3 hf
      refine v_iconst (v := 1) C dX8_harm_27 (by decide) ?_
      exact v_iret C hf dX8_harm_28
    · replace hf := bs_neg h3 hf
      refine v_iconst (v := 2) C dX8_harm_23 (by decide) ?_
      refine v_goto (tgt := 28) C dX8_harm_24 (by decide) ?_
      exact v_iret C hf dX8_harm_28
  · replace hf := bs_pos h4 hf
    refine v_iconst (v := 0) C dX8_harm_10 (by decide) ?_
    exact v_iret C hf dX8_harm_11
/-! BootSlots.hurtsLess(LBootSlots$Slot;LBootSlots$Slot;)Z -/
def fX8_hurtsLess (j1 j2 : Nat) (X : bsX) : Option (Int32 × bsX) := (fX8_harm j1  X).bind fun r1 => (fX8_harm j2  r1.2).bind fun r3 => if r1.1 = r3.1 then (if r1.1 = (2 : Int32) then ((fX5_isAheadOf 0 j2 j1  r3.2).bind fun r5 => if r5.1 = 0 then (some ((0 : Int32), r5.2)) else (some ((1 : Int32), r5.2))) else (some ((0 : Int32), r3.2))) else (if r3.1 ≤ r1.1 then (some ((0 : Int32), r3.2)) else (some ((1 : Int32), r3.2)))
abbrev rmX8_hurtsLess : Room := { frames := 3, cells := 0, slots := 0, locals := 64 }
set_option maxHeartbeats 4000000 in
set_option maxRecDepth 100000 in
theorem cX8_hurtsLess_ok {l : Launch} {ρ : bsR} {cA : Nat → ClassId} {dC : Nat → ClassId} {dI : Nat → Nat → Nat} {Rz : va_W} {j1 j2 : Nat} (hj1 : j1 < 6) (hj2 : j2 < 6) {X : bsX} {z : (Int32 × bsX)} (hf : fX8_hurtsLess j1 j2 X = some z) : bsMi l yX8_hurtsLess cX8_hurtsLess 5 (some .boolean) rmX8_hurtsLess ρ cA dC dI Rz [.ref (ρ 13 0 0), .ref (ρ 0 5 j1), .ref (ρ 0 5 j2)] X z := by
  refine bsMi_of (by decide) (Nat.le_of_ble_eq_true rfl) (fun p e s m args below meth c C => ?_)
  have C : bsCx p m c cX8_hurtsLess 5 s args (Cond.code yX8_hurtsLess cX8_hurtsLess 5 (some .boolean) :: bsG) RX8 ρ cA dC dI Rz meth (some .boolean) := C
  rw [fX8_hurtsLess] at hf
  refine v_sub [0, 1, 2] rfl ?_
  refine v_aload_n C dX8_hurtsLess_0 rfl rfl ?_
  refine v_aload_n C dX8_hurtsLess_1 rfl rfl ?_
  obtain ⟨r1, hc2, hf⟩ := bs_bind hf
  refine v_callVi (y := yX8_harm) (As := [.ref (ρ 0 5 j1)]) (rest := []) C (cX8_harm_ok hj1 hc2) ml_X8_265 wyX8_harm (bsm_X8) (bsc_X8) rfl dpX8_harm ⟨Nat.le_of_ble_eq_true rfl, Nat.le_of_ble_eq_true rfl⟩ ⟨rfl, rfl⟩ ⟨Nat.le_of_ble_eq_true rfl, Nat.le_of_ble_eq_true rfl⟩ rfl (Nat.le_of_ble_eq_true rfl) dX8_hurtsLess_2 ?_
  refine v_istore_n (lv' := [(3, .int r1.1), (0, .ref (ρ 13 0 0)), (1, .ref (ρ 0 5 j1)), (2, .ref (ρ 0 5 j2))]) C dX8_hurtsLess_5 rfl (by decide) rfl ?_
  refine v_aload_n C dX8_hurtsLess_6 rfl rfl ?_
  refine v_aload_n C dX8_hurtsLess_7 rfl rfl ?_
  obtain ⟨r3, hc4, hf⟩ := bs_bind hf
  refine v_callVi (y := yX8_harm) (As := [.ref (ρ 0 5 j2)]) (rest := []) C (cX8_harm_ok hj2 hc4) ml_X8_265 wyX8_harm (bsm_X8) (bsc_X8) rfl dpX8_harm ⟨Nat.le_of_ble_eq_true rfl, Nat.le_of_ble_eq_true rfl⟩ ⟨rfl, rfl⟩ ⟨Nat.le_of_ble_eq_true rfl, Nat.le_of_ble_eq_true rfl⟩ rfl (Nat.le_of_ble_eq_true rfl) dX8_hurtsLess_8 ?_
  refine v_istore (lv' := [(4, .int r3.1), (3, .int r1.1), (0, .ref (ρ 13 0 0)), (1, .ref (ρ 0 5 j1)), (2, .ref (ρ 0 5 j2))]) C dX8_hurtsLess_11 (by decide) rfl ?_
  refine v_iload_n C dX8_hurtsLess_13 rfl rfl ?_
  refine v_iload C dX8_hurtsLess_14 rfl ?_
  refine v_icmp_eq (tgt := 31) C dX8_hurtsLess_16 (by decide) (fun h10 => ?_) (fun h10 => ?_)
  · replace hf := bs_pos h10 hf
    refine v_iload_n C dX8_hurtsLess_31 rfl rfl ?_
    refine v_iconst (v := 2) C dX8_hurtsLess_32 (by decide) ?_
    refine v_icmp_ne (tgt := 48) C dX8_hurtsLess_33 (by decide) (fun h8 => ?_) (fun h8 => ?_)
    · replace hf := bs_neg h8 hf
      refine v_iconst (v := 0) C dX8_hurtsLess_48 (by decide) ?_
      exact v_zret C (bsZ01 (by decide)).1 hf dX8_hurtsLess_49
    · replace hf := bs_pos h8 hf
      refine v_aload_n C dX8_hurtsLess_36 rfl rfl ?_
      refine v_aload_n C dX8_hurtsLess_37 rfl rfl ?_
      obtain ⟨r5, hc6, hf⟩ := bs_bind hf
      refine v_callVi (y := yX5_isAheadOf) (As := [.ref (ρ 0 5 j1)]) (rest := []) C (cX5_isAheadOf_ok (by decide) hj2 hj1 hc6) ml_X8_258 wyX5_isAheadOf (bsm_X5 (by decide) hj2) (bsc_X5 (by decide)) rfl dpX5_isAheadOf ⟨Nat.le_of_ble_eq_true rfl, Nat.le_of_ble_eq_true rfl⟩ ⟨rfl, rfl⟩ ⟨Nat.le_of_ble_eq_true rfl, Nat.le_of_ble_eq_true rfl⟩ rfl (Nat.le_of_ble_eq_true rfl) dX8_hurtsLess_38 ?_
      refine v_if_eq (tgt := 48) C dX8_hurtsLess_41 (by decide) (fun h7 => ?_) (fun h7 => ?_)
      · replace hf := bs_pos h7 hf
        refine v_iconst (v := 0) C dX8_hurtsLess_48 (by decide) ?_
        exact v_zret C (bsZ01 (by decide)).1 hf dX8_hurtsLess_49
      · replace hf := bs_neg h7 hf
        refine v_iconst (v := 1) C dX8_hurtsLess_44 (by decide) ?_
        refine v_goto (tgt := 49) C dX8_hurtsLess_45 (by decide) ?_
        exact v_zret C (bsZ01 (by decide)).1 hf dX8_hurtsLess_49
  · replace hf := bs_neg h10 hf
    refine v_iload_n C dX8_hurtsLess_19 rfl rfl ?_
    refine v_iload C dX8_hurtsLess_20 rfl ?_
    refine v_icmp_ge (tgt := 29) C dX8_hurtsLess_22 (by decide) (fun h9 => ?_) (fun h9 => ?_)
    · replace hf := bs_pos h9 hf
      refine v_iconst (v := 0) C dX8_hurtsLess_29 (by decide) ?_
      exact v_zret C (bsZ01 (by decide)).1 hf dX8_hurtsLess_30
    · replace hf := bs_neg h9 hf
      refine v_iconst (v := 1) C dX8_hurtsLess_25 (by decide) ?_
      refine v_goto (tgt := 30) C dX8_hurtsLess_26 (by decide) ?_
      exact v_zret C (bsZ01 (by decide)).1 hf dX8_hurtsLess_30
/-! BootSlots.spare()I -/
def fX8_spare_91 (k8 : Int32 → Int32 → bsX → Option bsXr) (x1 : Int32) (x2 : Int32) (X : bsX) : Option bsXr := k8 x1 (x2 + (1 : Int32)) X
def fX8_spare_89 (k8 : Int32 → Int32 → bsX → Option bsXr) (x2 : Int32) (X : bsX) : Option bsXr := fX8_spare_91  k8 x2 x2 X
def fX8_spare_55 (k8 : Int32 → Int32 → bsX → Option bsXr) (x1 : Int32) (x2 : Int32) (y0 : Int32) (X : bsX) : Option bsXr := if y0 = 0 then (fX8_spare_91  k8 x1 x2 X) else (if x1 < 0 then (fX8_spare_89  k8 x2 X) else (if bsIn x2 6 then (if bsIn x1 6 then ((fX8_hurtsLess (bsIx x2) (bsIx x1)  X).bind fun r7 => if r7.1 = 0 then (fX8_spare_91  k8 x1 x2 r7.2) else (fX8_spare_89  k8 x2 r7.2)) else none) else none))
def fX8_spare_54 (k8 : Int32 → Int32 → bsX → Option bsXr) (x1 : Int32) (x2 : Int32) (X : bsX) : Option bsXr := fX8_spare_55  k8 x1 x2 (0 : Int32) X
def fX8_spare_8 : Nat → Int32 → Int32 → bsX → Option bsXr
  | 0, _, _, _ => none
  | n + 1, x1, x2, X => if (6 : Int32) ≤ x2 then (some (0, x1, X)) else (if (X 0 0 0 4) ≤ x2 then (some (0, x1, X)) else (if x2 = (X 0 0 0 11) then (fX8_spare_54  (fX8_spare_8  n) x1 x2 X) else (if x2 = (X 0 2 0 1) then (fX8_spare_54  (fX8_spare_8  n) x1 x2 X) else (fX8_spare_55  (fX8_spare_8  n) x1 x2 (1 : Int32) X))))
def fX8_spare (X : bsX) : Option bsXr := (fX8_requireLoaded   X).bind fun r12 => if r12.1 = 0 then (fX8_spare_8   bsF (-1 : Int32) (0 : Int32) r12.2.2) else some (r12.1, (0 : Int32), r12.2.2)
abbrev rmX8_spare : Room := { frames := 7, cells := 1, slots := 6, locals := 101 }
set_option maxHeartbeats 4000000 in
set_option maxRecDepth 100000 in
theorem wX8_spare_91 {p : Program} {l : Launch} {e : Env} {s : State} {m : MethodId} {args : Array Value} {below : List Frame} {meth : Method} {c : Code} {ρ : bsR} {cA : Nat → ClassId} {dC : Nat → ClassId} {dI : Nat → Nat → Nat} {Rz : va_W} {Ts : List Cond}  (k8 : Int32 → Int32 → bsX → Option bsXr)  {z : bsXr} (C : bsCx p m c cX8_spare 4 s args Ts RX8 ρ cA dC dI Rz meth (some .int)) (T0 : ∀ x ∈ c.exceptionTable.toList, False) (hst : l.stackTraces = false) (hk8 : ∀ (x1 : Int32) (x2 : Int32) (X : bsX), k8 x1 x2 X = some z → bsV p l e rmX8_spare s m args below meth c 1 6 (vx_MQ below (bsXQi ρ cA dC dI Rz z s.heap.size) (bsXX ρ cA dC dI Rz z s.heap.size) args s rmX8_spare.cells rmX8_spare.slots (bsA ρ cA Rz s.heap.size)) ρ cA dC dI Rz 4 8 [(0, .ref (ρ 13 0 0)), (1, .int x1), (2, .int x2)] [] X)  (x1 : Int32) (x2 : Int32) (X : bsX) (hf : fX8_spare_91 k8 x1 x2 X = some z) : bsV p l e rmX8_spare s m args below meth c 1 6 (vx_MQ below (bsXQi ρ cA dC dI Rz z s.heap.size) (bsXX ρ cA dC dI Rz z s.heap.size) args s rmX8_spare.cells rmX8_spare.slots (bsA ρ cA Rz s.heap.size)) ρ cA dC dI Rz 4 91 [(0, .ref (ρ 13 0 0)), (1, .int x1), (2, .int x2)] [] X := by
  rw [fX8_spare_91] at hf
  refine v_iinc (k0 := 2) (v := (x2 + (1 : Int32))) (lv' := [(2, .int (x2 + (1 : Int32))), (0, .ref (ρ 13 0 0)), (1, .int x1)]) C dX8_spare_91 rfl rfl (by decide) rfl ?_
  refine v_goto (tgt := 8) C dX8_spare_94 (by decide) ?_
  refine v_widen (k := 1) (n := 6) (Nat.le_of_ble_eq_true rfl) (Nat.le_of_ble_eq_true rfl) ?_
  refine v_sub [1, 2, 0] rfl ?_
  exact hk8 _ _ _  hf
set_option maxHeartbeats 4000000 in
set_option maxRecDepth 100000 in
theorem wX8_spare_89 {p : Program} {l : Launch} {e : Env} {s : State} {m : MethodId} {args : Array Value} {below : List Frame} {meth : Method} {c : Code} {ρ : bsR} {cA : Nat → ClassId} {dC : Nat → ClassId} {dI : Nat → Nat → Nat} {Rz : va_W} {Ts : List Cond}  (k8 : Int32 → Int32 → bsX → Option bsXr)  {z : bsXr} (C : bsCx p m c cX8_spare 4 s args Ts RX8 ρ cA dC dI Rz meth (some .int)) (T0 : ∀ x ∈ c.exceptionTable.toList, False) (hst : l.stackTraces = false) (hk8 : ∀ (x1 : Int32) (x2 : Int32) (X : bsX), k8 x1 x2 X = some z → bsV p l e rmX8_spare s m args below meth c 1 6 (vx_MQ below (bsXQi ρ cA dC dI Rz z s.heap.size) (bsXX ρ cA dC dI Rz z s.heap.size) args s rmX8_spare.cells rmX8_spare.slots (bsA ρ cA Rz s.heap.size)) ρ cA dC dI Rz 4 8 [(0, .ref (ρ 13 0 0)), (1, .int x1), (2, .int x2)] [] X)  (x2 : Int32) (X : bsX) (hf : fX8_spare_89 k8 x2 X = some z) : bsV p l e rmX8_spare s m args below meth c 1 6 (vx_MQ below (bsXQi ρ cA dC dI Rz z s.heap.size) (bsXX ρ cA dC dI Rz z s.heap.size) args s rmX8_spare.cells rmX8_spare.slots (bsA ρ cA Rz s.heap.size)) ρ cA dC dI Rz 4 89 [(0, .ref (ρ 13 0 0)), (2, .int x2)] [] X := by
  rw [fX8_spare_89] at hf
  refine v_iload_n C dX8_spare_89 rfl rfl ?_
  refine v_istore_n (lv' := [(1, .int x2), (0, .ref (ρ 13 0 0)), (2, .int x2)]) C dX8_spare_90 rfl (by decide) rfl ?_
  refine v_widen (k := 1) (n := 6) (Nat.le_of_ble_eq_true rfl) (Nat.le_of_ble_eq_true rfl) ?_
  refine v_sub [1, 0, 2] rfl ?_
  exact wX8_spare_91  k8 C T0 hst hk8 _ _ _  hf
set_option maxHeartbeats 4000000 in
set_option maxRecDepth 100000 in
theorem wX8_spare_55 {p : Program} {l : Launch} {e : Env} {s : State} {m : MethodId} {args : Array Value} {below : List Frame} {meth : Method} {c : Code} {ρ : bsR} {cA : Nat → ClassId} {dC : Nat → ClassId} {dI : Nat → Nat → Nat} {Rz : va_W} {Ts : List Cond}  (k8 : Int32 → Int32 → bsX → Option bsXr)  {z : bsXr} (C : bsCx p m c cX8_spare 4 s args Ts RX8 ρ cA dC dI Rz meth (some .int)) (T0 : ∀ x ∈ c.exceptionTable.toList, False) (hst : l.stackTraces = false) (hk8 : ∀ (x1 : Int32) (x2 : Int32) (X : bsX), k8 x1 x2 X = some z → bsV p l e rmX8_spare s m args below meth c 1 6 (vx_MQ below (bsXQi ρ cA dC dI Rz z s.heap.size) (bsXX ρ cA dC dI Rz z s.heap.size) args s rmX8_spare.cells rmX8_spare.slots (bsA ρ cA Rz s.heap.size)) ρ cA dC dI Rz 4 8 [(0, .ref (ρ 13 0 0)), (1, .int x1), (2, .int x2)] [] X)  (x1 : Int32) (x2 : Int32) (y0 : Int32) (X : bsX) (hf : fX8_spare_55 k8 x1 x2 y0 X = some z) : bsV p l e rmX8_spare s m args below meth c 1 6 (vx_MQ below (bsXQi ρ cA dC dI Rz z s.heap.size) (bsXX ρ cA dC dI Rz z s.heap.size) args s rmX8_spare.cells rmX8_spare.slots (bsA ρ cA Rz s.heap.size)) ρ cA dC dI Rz 4 55 [(0, .ref (ρ 13 0 0)), (1, .int x1), (2, .int x2)] [.int y0] X := by
  rw [fX8_spare_55] at hf
  refine v_istore_n (lv' := [(3, .int y0), (0, .ref (ρ 13 0 0)), (1, .int x1), (2, .int x2)]) C dX8_spare_55 rfl (by decide) rfl ?_
  refine v_iload_n C dX8_spare_56 rfl rfl ?_
  refine v_if_eq (tgt := 91) C dX8_spare_57 (by decide) (fun h11 => ?_) (fun h11 => ?_)
  · replace hf := bs_pos h11 hf
    refine v_widen (k := 1) (n := 6) (Nat.le_of_ble_eq_true rfl) (Nat.le_of_ble_eq_true rfl) ?_
    refine v_sub [1, 2, 3] rfl ?_
    exact wX8_spare_91  k8 C T0 hst hk8 _ _ _  hf
  · replace hf := bs_neg h11 hf
    refine v_iload_n C dX8_spare_60 rfl rfl ?_
    refine v_if_lt (tgt := 89) C dX8_spare_61 (by decide) (fun h10 => ?_) (fun h10 => ?_)
    · replace hf := bs_pos h10 hf
      refine v_widen (k := 1) (n := 6) (Nat.le_of_ble_eq_true rfl) (Nat.le_of_ble_eq_true rfl) ?_
      refine v_sub [1, 3] rfl ?_
      exact wX8_spare_89  k8 C T0 hst hk8 _ _  hf
    · replace hf := bs_neg h10 hf
      refine v_aload_n C dX8_spare_64 rfl rfl ?_
      refine v_aload_n C dX8_spare_65 rfl rfl ?_
      refine gf_X8_19 C dX8_spare_66 ?_
      refine gf_X8_158 C (by decide) dX8_spare_69 ?_
      refine v_iload_n C dX8_spare_72 rfl rfl ?_
      obtain ⟨hi5, hf⟩ := bs_if hf
      refine v_aald (t0 := 3) (n := 6) C (bsm_K1 (by decide)) (bsc_K1 (by decide)) rfl hi5 rfl dX8_spare_73 ?_
      refine v_aload_n C dX8_spare_74 rfl rfl ?_
      refine gf_X8_19 C dX8_spare_75 ?_
      refine gf_X8_158 C (by decide) dX8_spare_78 ?_
      refine v_iload_n C dX8_spare_81 rfl rfl ?_
      obtain ⟨hi6, hf⟩ := bs_if hf
      refine v_aald (t0 := 3) (n := 6) C (bsm_K1 (by decide)) (bsc_K1 (by decide)) rfl hi6 rfl dX8_spare_82 ?_
      obtain ⟨r7, hc8, hf⟩ := bs_bind hf
      refine v_callVi (y := yX8_hurtsLess) (As := [.ref (ρ 0 5 (bsIx x2)), .ref (ρ 0 5 (bsIx x1))]) (rest := []) C (cX8_hurtsLess_ok (bsIx_lt hi5) (bsIx_lt hi6) hc8) ml_X8_261 wyX8_hurtsLess (bsm_X8) (bsc_X8) rfl dpX8_hurtsLess ⟨Nat.le_of_ble_eq_true rfl, Nat.le_of_ble_eq_true rfl⟩ ⟨rfl, rfl⟩ ⟨Nat.le_of_ble_eq_true rfl, Nat.le_of_ble_eq_true rfl⟩ rfl (Nat.le_of_ble_eq_true rfl) dX8_spare_83 ?_
      refine v_if_eq (tgt := 91) C dX8_spare_86 (by decide) (fun h9 => ?_) (fun h9 => ?_)
      · replace hf := bs_pos h9 hf
        refine v_widen (k := 1) (n := 6) (Nat.le_of_ble_eq_true rfl) (Nat.le_of_ble_eq_true rfl) ?_
        refine v_sub [1, 2, 3] rfl ?_
        exact wX8_spare_91  k8 C T0 hst hk8 _ _ _  hf
      · replace hf := bs_neg h9 hf
        refine v_widen (k := 1) (n := 6) (Nat.le_of_ble_eq_true rfl) (Nat.le_of_ble_eq_true rfl) ?_
        refine v_sub [1, 3] rfl ?_
        exact wX8_spare_89  k8 C T0 hst hk8 _ _  hf
set_option maxHeartbeats 4000000 in
set_option maxRecDepth 100000 in
theorem wX8_spare_54 {p : Program} {l : Launch} {e : Env} {s : State} {m : MethodId} {args : Array Value} {below : List Frame} {meth : Method} {c : Code} {ρ : bsR} {cA : Nat → ClassId} {dC : Nat → ClassId} {dI : Nat → Nat → Nat} {Rz : va_W} {Ts : List Cond}  (k8 : Int32 → Int32 → bsX → Option bsXr)  {z : bsXr} (C : bsCx p m c cX8_spare 4 s args Ts RX8 ρ cA dC dI Rz meth (some .int)) (T0 : ∀ x ∈ c.exceptionTable.toList, False) (hst : l.stackTraces = false) (hk8 : ∀ (x1 : Int32) (x2 : Int32) (X : bsX), k8 x1 x2 X = some z → bsV p l e rmX8_spare s m args below meth c 1 6 (vx_MQ below (bsXQi ρ cA dC dI Rz z s.heap.size) (bsXX ρ cA dC dI Rz z s.heap.size) args s rmX8_spare.cells rmX8_spare.slots (bsA ρ cA Rz s.heap.size)) ρ cA dC dI Rz 4 8 [(0, .ref (ρ 13 0 0)), (1, .int x1), (2, .int x2)] [] X)  (x1 : Int32) (x2 : Int32) (X : bsX) (hf : fX8_spare_54 k8 x1 x2 X = some z) : bsV p l e rmX8_spare s m args below meth c 1 6 (vx_MQ below (bsXQi ρ cA dC dI Rz z s.heap.size) (bsXX ρ cA dC dI Rz z s.heap.size) args s rmX8_spare.cells rmX8_spare.slots (bsA ρ cA Rz s.heap.size)) ρ cA dC dI Rz 4 54 [(0, .ref (ρ 13 0 0)), (1, .int x1), (2, .int x2)] [] X := by
  rw [fX8_spare_54] at hf
  refine v_iconst (v := 0) C dX8_spare_54 (by decide) ?_
  refine v_widen (k := 1) (n := 6) (Nat.le_of_ble_eq_true rfl) (Nat.le_of_ble_eq_true rfl) ?_
  refine v_sub [0, 1, 2] rfl ?_
  exact wX8_spare_55  k8 C T0 hst hk8 _ _ _ _  hf
set_option maxHeartbeats 4000000 in
set_option maxRecDepth 100000 in
theorem wX8_spare_8 {p : Program} {l : Launch} {e : Env} {s : State} {m : MethodId} {args : Array Value} {below : List Frame} {meth : Method} {c : Code} {ρ : bsR} {cA : Nat → ClassId} {dC : Nat → ClassId} {dI : Nat → Nat → Nat} {Rz : va_W} {Ts : List Cond}   {z : bsXr} (C : bsCx p m c cX8_spare 4 s args Ts RX8 ρ cA dC dI Rz meth (some .int)) (T0 : ∀ x ∈ c.exceptionTable.toList, False) (hst : l.stackTraces = false) : ∀ (n : Nat) (x1 : Int32) (x2 : Int32) (X : bsX), fX8_spare_8  n x1 x2 X = some z → bsV p l e rmX8_spare s m args below meth c 1 6 (vx_MQ below (bsXQi ρ cA dC dI Rz z s.heap.size) (bsXX ρ cA dC dI Rz z s.heap.size) args s rmX8_spare.cells rmX8_spare.slots (bsA ρ cA Rz s.heap.size)) ρ cA dC dI Rz 4 8 [(0, .ref (ρ 13 0 0)), (1, .int x1), (2, .int x2)] [] X := by
  intro n
  induction n with
  | zero => intro x1 x2 X hf; exact (nomatch hf)
  | succ n ih =>
    intro x1 x2 X hf
    rw [fX8_spare_8] at hf
    refine v_iload_n C dX8_spare_8 rfl rfl ?_
    refine v_bipush (v := 6) C dX8_spare_9 (by decide) ?_
    refine v_icmp_ge (tgt := 97) C dX8_spare_11 (by decide) (fun h4 => ?_) (fun h4 => ?_)
    · replace hf := bs_pos h4 hf
      refine v_iload_n C dX8_spare_97 rfl rfl ?_
      exact v_tiret C hf (Nat.le_of_ble_eq_true rfl) (Nat.le_of_ble_eq_true rfl) dX8_spare_98
    · replace hf := bs_neg h4 hf
      refine v_iload_n C dX8_spare_14 rfl rfl ?_
      refine v_aload_n C dX8_spare_15 rfl rfl ?_
      refine gf_X8_19 C dX8_spare_16 ?_
      refine gf_X8_76 C (by decide) dX8_spare_19 ?_
      refine v_icmp_ge (tgt := 97) C dX8_spare_22 (by decide) (fun h3 => ?_) (fun h3 => ?_)
      · replace hf := bs_pos h3 hf
        refine v_iload_n C dX8_spare_97 rfl rfl ?_
        exact v_tiret C hf (Nat.le_of_ble_eq_true rfl) (Nat.le_of_ble_eq_true rfl) dX8_spare_98
      · replace hf := bs_neg h3 hf
        refine v_iload_n C dX8_spare_25 rfl rfl ?_
        refine v_aload_n C dX8_spare_26 rfl rfl ?_
        refine gf_X8_19 C dX8_spare_27 ?_
        refine gf_X8_104 C (by decide) dX8_spare_30 ?_
        refine v_icmp_eq (tgt := 54) C dX8_spare_33 (by decide) (fun h2 => ?_) (fun h2 => ?_)
        · replace hf := bs_pos h2 hf
          refine v_widen (k := 1) (n := 6) (Nat.le_of_ble_eq_true rfl) (Nat.le_of_ble_eq_true rfl) ?_
          refine v_sub [0, 1, 2] rfl ?_
          exact wX8_spare_54  (fX8_spare_8  n) C T0 hst (fun b0 b1 X  h => ih b0 b1 X  h) _ _ _  hf
        · replace hf := bs_neg h2 hf
          refine v_iload_n C dX8_spare_36 rfl rfl ?_
          refine v_aload_n C dX8_spare_37 rfl rfl ?_
          refine gf_X8_19 C dX8_spare_38 ?_
          refine gf_X8_217 C (by decide) dX8_spare_41 ?_
          refine gf_X8_227 C (by decide) dX8_spare_44 ?_
          refine v_icmp_eq (tgt := 54) C dX8_spare_47 (by decide) (fun h1 => ?_) (fun h1 => ?_)
          · replace hf := bs_pos h1 hf
            refine v_widen (k := 1) (n := 6) (Nat.le_of_ble_eq_true rfl) (Nat.le_of_ble_eq_true rfl) ?_
            refine v_sub [0, 1, 2] rfl ?_
            exact wX8_spare_54  (fX8_spare_8  n) C T0 hst (fun b0 b1 X  h => ih b0 b1 X  h) _ _ _  hf
          · replace hf := bs_neg h1 hf
            refine v_iconst (v := 1) C dX8_spare_50 (by decide) ?_
            refine v_goto (tgt := 55) C dX8_spare_51 (by decide) ?_
            refine v_widen (k := 1) (n := 6) (Nat.le_of_ble_eq_true rfl) (Nat.le_of_ble_eq_true rfl) ?_
            refine v_sub [0, 1, 2] rfl ?_
            exact wX8_spare_55  (fX8_spare_8  n) C T0 hst (fun b0 b1 X  h => ih b0 b1 X  h) _ _ _ _  hf
set_option maxHeartbeats 4000000 in
set_option maxRecDepth 100000 in
theorem cX8_spare_ok {l : Launch} {ρ : bsR} {cA : Nat → ClassId} {dC : Nat → ClassId} {dI : Nat → Nat → Nat} {Rz : va_W} (hst : l.stackTraces = false)  {X : bsX} {z : bsXr} (hf : fX8_spare  X = some z) : bsTi l yX8_spare cX8_spare 4 (some .int) rmX8_spare ρ cA dC dI Rz [.ref (ρ 13 0 0)] X z := by
  refine bsTi_of (by decide) (Nat.le_of_ble_eq_true rfl) (fun p e s m args below meth c C T0 => ?_)
  have C : bsCx p m c cX8_spare 4 s args (Cond.code yX8_spare cX8_spare 4 (some .int) :: bsG) RX8 ρ cA dC dI Rz meth (some .int) := C
  rw [fX8_spare] at hf
  refine v_sub [0] rfl ?_
  refine v_aload_n C dX8_spare_0 rfl rfl ?_
  obtain ⟨r12, hc13, hf⟩ := bs_bind hf
  refine v_ticallVv (y := yX8_requireLoaded) (As := []) (rest := []) C T0 (cX8_requireLoaded_ok hst  hc13) ml_X8_82 wyX8_requireLoaded (bsm_X8) (bsc_X8) rfl dpX8_requireLoaded ⟨Nat.le_of_ble_eq_true rfl, Nat.le_of_ble_eq_true rfl⟩ ⟨Nat.le_of_ble_eq_true rfl, Nat.le_of_ble_eq_true rfl⟩ (Nat.le_of_ble_eq_true rfl) (Nat.le_of_ble_eq_true rfl) rfl (Nat.le_of_ble_eq_true rfl) dX8_spare_1 (fun h => bs_neg h hf) (fun h14 => ?_)
  replace hf := bs_pos h14 hf
  refine v_iconst (v := -1) C dX8_spare_4 (by decide) ?_
  refine v_istore_n (lv' := [(1, .int (-1 : Int32)), (0, .ref (ρ 13 0 0))]) C dX8_spare_5 rfl (by decide) rfl ?_
  refine v_iconst (v := 0) C dX8_spare_6 (by decide) ?_
  refine v_istore_n (lv' := [(2, .int (0 : Int32)), (1, .int (-1 : Int32)), (0, .ref (ρ 13 0 0))]) C dX8_spare_7 rfl (by decide) rfl ?_
  refine v_widen (k := 1) (n := 6) (Nat.le_of_ble_eq_true rfl) (Nat.le_of_ble_eq_true rfl) ?_
  refine v_sub [2, 1, 0] rfl ?_
  exact wX8_spare_8   C T0 hst  bsF _ _ _  hf
/-! BootSlots.fallback()I -/
def fX8_fallback (X : bsX) : Option bsXr := (fX8_requireLoaded   X).bind fun r1 => if r1.1 = 0 then ((fX3_isRunning 0  r1.2.2).bind fun r4 => if r4.1 = 0 then (some (0, (-1 : Int32), r4.2)) else ((fX3_firstBut 0 (r4.2 0 0 0 11) r4.2).bind fun r6 => some (0, r6.1, r6.2))) else some (r1.1, (0 : Int32), r1.2.2)
abbrev rmX8_fallback : Room := { frames := 7, cells := 1, slots := 6, locals := 101 }
set_option maxHeartbeats 4000000 in
set_option maxRecDepth 100000 in
theorem cX8_fallback_ok {l : Launch} {ρ : bsR} {cA : Nat → ClassId} {dC : Nat → ClassId} {dI : Nat → Nat → Nat} {Rz : va_W} (hst : l.stackTraces = false)  {X : bsX} {z : bsXr} (hf : fX8_fallback  X = some z) : bsTi l yX8_fallback cX8_fallback 1 (some .int) rmX8_fallback ρ cA dC dI Rz [.ref (ρ 13 0 0)] X z := by
  refine bsTi_of (by decide) (Nat.le_of_ble_eq_true rfl) (fun p e s m args below meth c C T0 => ?_)
  have C : bsCx p m c cX8_fallback 1 s args (Cond.code yX8_fallback cX8_fallback 1 (some .int) :: bsG) RX8 ρ cA dC dI Rz meth (some .int) := C
  rw [fX8_fallback] at hf
  refine v_sub [0] rfl ?_
  refine v_aload_n C dX8_fallback_0 rfl rfl ?_
  obtain ⟨r1, hc2, hf⟩ := bs_bind hf
  refine v_ticallVv (y := yX8_requireLoaded) (As := []) (rest := []) C T0 (cX8_requireLoaded_ok hst  hc2) ml_X8_82 wyX8_requireLoaded (bsm_X8) (bsc_X8) rfl dpX8_requireLoaded ⟨Nat.le_of_ble_eq_true rfl, Nat.le_of_ble_eq_true rfl⟩ ⟨Nat.le_of_ble_eq_true rfl, Nat.le_of_ble_eq_true rfl⟩ (Nat.le_of_ble_eq_true rfl) (Nat.le_of_ble_eq_true rfl) rfl (Nat.le_of_ble_eq_true rfl) dX8_fallback_1 (fun h => bs_neg h hf) (fun h3 => ?_)
  replace hf := bs_pos h3 hf
  refine v_aload_n C dX8_fallback_4 rfl rfl ?_
  refine gf_X8_19 C dX8_fallback_5 ?_
  obtain ⟨r4, hc5, hf⟩ := bs_bind hf
  refine v_callVi (y := yX3_isRunning) (As := []) (rest := []) C (cX3_isRunning_ok (by decide) hc5) ml_X8_268 wyX3_isRunning (bsm_X3 (by decide)) (bsc_X3 (by decide)) rfl dpX3_isRunning ⟨Nat.le_of_ble_eq_true rfl, Nat.le_of_ble_eq_true rfl⟩ ⟨rfl, rfl⟩ ⟨Nat.le_of_ble_eq_true rfl, Nat.le_of_ble_eq_true rfl⟩ rfl (Nat.le_of_ble_eq_true rfl) dX8_fallback_8 ?_
  refine v_if_eq (tgt := 31) C dX8_fallback_11 (by decide) (fun h8 => ?_) (fun h8 => ?_)
  · replace hf := bs_pos h8 hf
    refine v_iconst (v := -1) C dX8_fallback_31 (by decide) ?_
    exact v_tiret C hf (Nat.le_of_ble_eq_true rfl) (Nat.le_of_ble_eq_true rfl) dX8_fallback_32
  · replace hf := bs_neg h8 hf
    refine v_aload_n C dX8_fallback_14 rfl rfl ?_
    refine gf_X8_19 C dX8_fallback_15 ?_
    refine v_aload_n C dX8_fallback_18 rfl rfl ?_
    refine gf_X8_19 C dX8_fallback_19 ?_
    refine gf_X8_104 C (by decide) dX8_fallback_22 ?_
    obtain ⟨r6, hc7, hf⟩ := bs_bind hf
    refine v_callVi (y := yX3_firstBut) (As := [.int (r4.2 0 0 0 11)]) (rest := []) C (cX3_firstBut_ok (by decide) hc7) ml_X8_255 wyX3_firstBut (bsm_X3 (by decide)) (bsc_X3 (by decide)) rfl dpX3_firstBut ⟨Nat.le_of_ble_eq_true rfl, Nat.le_of_ble_eq_true rfl⟩ ⟨rfl, rfl⟩ ⟨Nat.le_of_ble_eq_true rfl, Nat.le_of_ble_eq_true rfl⟩ rfl (Nat.le_of_ble_eq_true rfl) dX8_fallback_25 ?_
    refine v_goto (tgt := 32) C dX8_fallback_28 (by decide) ?_
    exact v_tiret C hf (Nat.le_of_ble_eq_true rfl) (Nat.le_of_ble_eq_true rfl) dX8_fallback_32
/-! BootSlots.weakest()I -/
def fX8_weakest_65 (k11 : Int32 → Int32 → Int32 → bsX → Option bsXr) (x1 : Int32) (x2 : Int32) (x3 : Int32) (X : bsX) : Option bsXr := k11 x1 x2 (x3 + (1 : Int32)) X
def fX8_weakest_11 : Nat → Int32 → Int32 → Int32 → bsX → Option bsXr
  | 0, _, _, _, _ => none
  | n + 1, x1, x2, x3, X => if (6 : Int32) ≤ x3 then (some (0, x1, X)) else (if bsIn x3 6 then ((fX3_isBootable 0 (bsIx x3)  X).bind fun r2 => if r2.1 = 0 then (fX8_weakest_65  (fX8_weakest_11  n) x1 x2 x3 r2.2) else (if (r2.2 0 5 (bsIx x3) 4) = 0 then (if x2 ≤ (r2.2 0 5 (bsIx x3) 3) then (fX8_weakest_65  (fX8_weakest_11  n) x1 x2 x3 r2.2) else (fX8_weakest_65  (fX8_weakest_11  n) x3 (r2.2 0 5 (bsIx x3) 3) x3 r2.2)) else (fX8_weakest_65  (fX8_weakest_11  n) x1 x2 x3 r2.2))) else none)
def fX8_weakest (X : bsX) : Option bsXr := (fX8_requireLoaded   X).bind fun r8 => if r8.1 = 0 then (fX8_weakest_11   bsF (-1 : Int32) (8 : Int32) (0 : Int32) r8.2.2) else some (r8.1, (0 : Int32), r8.2.2)
abbrev rmX8_weakest : Room := { frames := 7, cells := 1, slots := 6, locals := 101 }
set_option maxHeartbeats 4000000 in
set_option maxRecDepth 100000 in
theorem wX8_weakest_65 {p : Program} {l : Launch} {e : Env} {s : State} {m : MethodId} {args : Array Value} {below : List Frame} {meth : Method} {c : Code} {ρ : bsR} {cA : Nat → ClassId} {dC : Nat → ClassId} {dI : Nat → Nat → Nat} {Rz : va_W} {Ts : List Cond}  (k11 : Int32 → Int32 → Int32 → bsX → Option bsXr)  {z : bsXr} (C : bsCx p m c cX8_weakest 5 s args Ts RX8 ρ cA dC dI Rz meth (some .int)) (T0 : ∀ x ∈ c.exceptionTable.toList, False) (hst : l.stackTraces = false) (hk11 : ∀ (x1 : Int32) (x2 : Int32) (x3 : Int32) (X : bsX), k11 x1 x2 x3 X = some z → bsV p l e rmX8_weakest s m args below meth c 1 6 (vx_MQ below (bsXQi ρ cA dC dI Rz z s.heap.size) (bsXX ρ cA dC dI Rz z s.heap.size) args s rmX8_weakest.cells rmX8_weakest.slots (bsA ρ cA Rz s.heap.size)) ρ cA dC dI Rz 5 11 [(0, .ref (ρ 13 0 0)), (1, .int x1), (2, .int x2), (3, .int x3)] [] X)  (x1 : Int32) (x2 : Int32) (x3 : Int32) (X : bsX) (hf : fX8_weakest_65 k11 x1 x2 x3 X = some z) : bsV p l e rmX8_weakest s m args below meth c 1 6 (vx_MQ below (bsXQi ρ cA dC dI Rz z s.heap.size) (bsXX ρ cA dC dI Rz z s.heap.size) args s rmX8_weakest.cells rmX8_weakest.slots (bsA ρ cA Rz s.heap.size)) ρ cA dC dI Rz 5 65 [(0, .ref (ρ 13 0 0)), (1, .int x1), (2, .int x2), (3, .int x3)] [] X := by
  rw [fX8_weakest_65] at hf
  refine v_iinc (k0 := 3) (v := (x3 + (1 : Int32))) (lv' := [(3, .int (x3 + (1 : Int32))), (0, .ref (ρ 13 0 0)), (1, .int x1), (2, .int x2)]) C dX8_weakest_65 rfl rfl (by decide) rfl ?_
  refine v_goto (tgt := 11) C dX8_weakest_68 (by decide) ?_
  refine v_widen (k := 1) (n := 6) (Nat.le_of_ble_eq_true rfl) (Nat.le_of_ble_eq_true rfl) ?_
  refine v_sub [1, 2, 3, 0] rfl ?_
  exact hk11 _ _ _ _  hf
set_option maxHeartbeats 4000000 in
set_option maxRecDepth 100000 in
theorem wX8_weakest_11 {p : Program} {l : Launch} {e : Env} {s : State} {m : MethodId} {args : Array Value} {below : List Frame} {meth : Method} {c : Code} {ρ : bsR} {cA : Nat → ClassId} {dC : Nat → ClassId} {dI : Nat → Nat → Nat} {Rz : va_W} {Ts : List Cond}   {z : bsXr} (C : bsCx p m c cX8_weakest 5 s args Ts RX8 ρ cA dC dI Rz meth (some .int)) (T0 : ∀ x ∈ c.exceptionTable.toList, False) (hst : l.stackTraces = false) : ∀ (n : Nat) (x1 : Int32) (x2 : Int32) (x3 : Int32) (X : bsX), fX8_weakest_11  n x1 x2 x3 X = some z → bsV p l e rmX8_weakest s m args below meth c 1 6 (vx_MQ below (bsXQi ρ cA dC dI Rz z s.heap.size) (bsXX ρ cA dC dI Rz z s.heap.size) args s rmX8_weakest.cells rmX8_weakest.slots (bsA ρ cA Rz s.heap.size)) ρ cA dC dI Rz 5 11 [(0, .ref (ρ 13 0 0)), (1, .int x1), (2, .int x2), (3, .int x3)] [] X := by
  intro n
  induction n with
  | zero => intro x1 x2 x3 X hf; exact (nomatch hf)
  | succ n ih =>
    intro x1 x2 x3 X hf
    rw [fX8_weakest_11] at hf
    refine v_iload_n C dX8_weakest_11 rfl rfl ?_
    refine v_bipush (v := 6) C dX8_weakest_12 (by decide) ?_
    refine v_icmp_ge (tgt := 71) C dX8_weakest_14 (by decide) (fun h7 => ?_) (fun h7 => ?_)
    · replace hf := bs_pos h7 hf
      refine v_iload_n C dX8_weakest_71 rfl rfl ?_
      exact v_tiret C hf (Nat.le_of_ble_eq_true rfl) (Nat.le_of_ble_eq_true rfl) dX8_weakest_72
    · replace hf := bs_neg h7 hf
      refine v_aload_n C dX8_weakest_17 rfl rfl ?_
      refine gf_X8_19 C dX8_weakest_18 ?_
      refine gf_X8_158 C (by decide) dX8_weakest_21 ?_
      refine v_iload_n C dX8_weakest_24 rfl rfl ?_
      obtain ⟨hi1, hf⟩ := bs_if hf
      refine v_aald (t0 := 3) (n := 6) C (bsm_K1 (by decide)) (bsc_K1 (by decide)) rfl hi1 rfl dX8_weakest_25 ?_
      refine v_astore (lv' := [(4, .ref (ρ 0 5 (bsIx x3))), (0, .ref (ρ 13 0 0)), (1, .int x1), (2, .int x2), (3, .int x3)]) C dX8_weakest_26 (by decide) rfl ?_
      refine v_aload_n C dX8_weakest_28 rfl rfl ?_
      refine gf_X8_19 C dX8_weakest_29 ?_
      refine v_aload C dX8_weakest_32 rfl ?_
      obtain ⟨r2, hc3, hf⟩ := bs_bind hf
      refine v_callVi (y := yX3_isBootable) (As := [.ref (ρ 0 5 (bsIx x3))]) (rest := []) C (cX3_isBootable_ok (by decide) (bsIx_lt hi1) hc3) ml_X8_189 wyX3_isBootable (bsm_X3 (by decide)) (bsc_X3 (by decide)) rfl dpX3_isBootable ⟨Nat.le_of_ble_eq_true rfl, Nat.le_of_ble_eq_true rfl⟩ ⟨rfl, rfl⟩ ⟨Nat.le_of_ble_eq_true rfl, Nat.le_of_ble_eq_true rfl⟩ rfl (Nat.le_of_ble_eq_true rfl) dX8_weakest_34 ?_
      refine v_if_eq (tgt := 65) C dX8_weakest_37 (by decide) (fun h6 => ?_) (fun h6 => ?_)
      · replace hf := bs_pos h6 hf
        refine v_widen (k := 1) (n := 6) (Nat.le_of_ble_eq_true rfl) (Nat.le_of_ble_eq_true rfl) ?_
        refine v_sub [1, 2, 3, 4] rfl ?_
        exact wX8_weakest_65  (fX8_weakest_11  n) C T0 hst (fun b0 b1 b2 X  h => ih b0 b1 b2 X  h) _ _ _ _  hf
      · replace hf := bs_neg h6 hf
        refine v_aload C dX8_weakest_40 rfl ?_
        refine gf_X8_183 C (by decide) (bsIx_lt hi1) dX8_weakest_42 ?_
        refine v_if_ne (tgt := 65) C dX8_weakest_45 (by decide) (fun h5 => ?_) (fun h5 => ?_)
        · replace hf := bs_neg h5 hf
          refine v_widen (k := 1) (n := 6) (Nat.le_of_ble_eq_true rfl) (Nat.le_of_ble_eq_true rfl) ?_
          refine v_sub [1, 2, 3, 4] rfl ?_
          exact wX8_weakest_65  (fX8_weakest_11  n) C T0 hst (fun b0 b1 b2 X  h => ih b0 b1 b2 X  h) _ _ _ _  hf
        · replace hf := bs_pos h5 hf
          refine v_aload C dX8_weakest_48 rfl ?_
          refine gf_X8_180 C (by decide) (bsIx_lt hi1) dX8_weakest_50 ?_
          refine v_iload_n C dX8_weakest_53 rfl rfl ?_
          refine v_icmp_ge (tgt := 65) C dX8_weakest_54 (by decide) (fun h4 => ?_) (fun h4 => ?_)
          · replace hf := bs_pos h4 hf
            refine v_widen (k := 1) (n := 6) (Nat.le_of_ble_eq_true rfl) (Nat.le_of_ble_eq_true rfl) ?_
            refine v_sub [1, 2, 3, 4] rfl ?_
            exact wX8_weakest_65  (fX8_weakest_11  n) C T0 hst (fun b0 b1 b2 X  h => ih b0 b1 b2 X  h) _ _ _ _  hf
          · replace hf := bs_neg h4 hf
            refine v_iload_n C dX8_weakest_57 rfl rfl ?_
            refine v_istore_n (lv' := [(1, .int x3), (4, .ref (ρ 0 5 (bsIx x3))), (0, .ref (ρ 13 0 0)), (2, .int x2), (3, .int x3)]) C dX8_weakest_58 rfl (by decide) rfl ?_
            refine v_aload C dX8_weakest_59 rfl ?_
            refine gf_X8_180 C (by decide) (bsIx_lt hi1) dX8_weakest_61 ?_
            refine v_istore_n (lv' := [(2, .int (r2.2 0 5 (bsIx x3) 3)), (1, .int x3), (4, .ref (ρ 0 5 (bsIx x3))), (0, .ref (ρ 13 0 0)), (3, .int x3)]) C dX8_weakest_64 rfl (by decide) rfl ?_
            refine v_widen (k := 1) (n := 6) (Nat.le_of_ble_eq_true rfl) (Nat.le_of_ble_eq_true rfl) ?_
            refine v_sub [3, 1, 0, 4] rfl ?_
            exact wX8_weakest_65  (fX8_weakest_11  n) C T0 hst (fun b0 b1 b2 X  h => ih b0 b1 b2 X  h) _ _ _ _  hf
set_option maxHeartbeats 4000000 in
set_option maxRecDepth 100000 in
theorem cX8_weakest_ok {l : Launch} {ρ : bsR} {cA : Nat → ClassId} {dC : Nat → ClassId} {dI : Nat → Nat → Nat} {Rz : va_W} (hst : l.stackTraces = false)  {X : bsX} {z : bsXr} (hf : fX8_weakest  X = some z) : bsTi l yX8_weakest cX8_weakest 5 (some .int) rmX8_weakest ρ cA dC dI Rz [.ref (ρ 13 0 0)] X z := by
  refine bsTi_of (by decide) (Nat.le_of_ble_eq_true rfl) (fun p e s m args below meth c C T0 => ?_)
  have C : bsCx p m c cX8_weakest 5 s args (Cond.code yX8_weakest cX8_weakest 5 (some .int) :: bsG) RX8 ρ cA dC dI Rz meth (some .int) := C
  rw [fX8_weakest] at hf
  refine v_sub [0] rfl ?_
  refine v_aload_n C dX8_weakest_0 rfl rfl ?_
  obtain ⟨r8, hc9, hf⟩ := bs_bind hf
  refine v_ticallVv (y := yX8_requireLoaded) (As := []) (rest := []) C T0 (cX8_requireLoaded_ok hst  hc9) ml_X8_82 wyX8_requireLoaded (bsm_X8) (bsc_X8) rfl dpX8_requireLoaded ⟨Nat.le_of_ble_eq_true rfl, Nat.le_of_ble_eq_true rfl⟩ ⟨Nat.le_of_ble_eq_true rfl, Nat.le_of_ble_eq_true rfl⟩ (Nat.le_of_ble_eq_true rfl) (Nat.le_of_ble_eq_true rfl) rfl (Nat.le_of_ble_eq_true rfl) dX8_weakest_1 (fun h => bs_neg h hf) (fun h10 => ?_)
  replace hf := bs_pos h10 hf
  refine v_iconst (v := -1) C dX8_weakest_4 (by decide) ?_
  refine v_istore_n (lv' := [(1, .int (-1 : Int32)), (0, .ref (ρ 13 0 0))]) C dX8_weakest_5 rfl (by decide) rfl ?_
  refine v_bipush (v := 8) C dX8_weakest_6 (by decide) ?_
  refine v_istore_n (lv' := [(2, .int (8 : Int32)), (1, .int (-1 : Int32)), (0, .ref (ρ 13 0 0))]) C dX8_weakest_8 rfl (by decide) rfl ?_
  refine v_iconst (v := 0) C dX8_weakest_9 (by decide) ?_
  refine v_istore_n (lv' := [(3, .int (0 : Int32)), (2, .int (8 : Int32)), (1, .int (-1 : Int32)), (0, .ref (ρ 13 0 0))]) C dX8_weakest_10 rfl (by decide) rfl ?_
  refine v_widen (k := 1) (n := 6) (Nat.le_of_ble_eq_true rfl) (Nat.le_of_ble_eq_true rfl) ?_
  refine v_sub [3, 2, 1, 0] rfl ?_
  exact wX8_weakest_11   C T0 hst  bsF _ _ _ _  hf
/-! BootSlots.twins(I)I -/
def fX8_twins_85 (k23 : Int32 → Nat → Int32 → Int32 → bsX → Option bsXr) (x1 : Int32) (q2 : Nat) (x3 : Int32) (x4 : Int32) (X : bsX) : Option bsXr := k23 x1 q2 x3 (x4 + (1 : Int32)) X
def fX8_twins_23 : Nat → Int32 → Nat → Int32 → Int32 → bsX → Option bsXr
  | 0, _, _, _, _, _ => none
  | n + 1, x1, q2, x3, x4, X => if (6 : Int32) ≤ x4 then (some (0, x3, X)) else (if bsIn x4 6 then (if x4 = x1 then (fX8_twins_85  (fX8_twins_23  n) x1 q2 x3 x4 X) else (if (X 0 6 q2 0) = 0 then (fX8_twins_85  (fX8_twins_23  n) x1 q2 x3 x4 X) else (if (X 0 6 (bsIx x4) 0) = 0 then (fX8_twins_85  (fX8_twins_23  n) x1 q2 x3 x4 X) else (if (X 0 6 (bsIx x4) 1) = (X 0 6 q2 1) then (fX8_twins_85  (fX8_twins_23  n) x1 q2 (x3 ||| ((1 : Int32) <<< (x4 &&& 31))) x4 X) else (fX8_twins_85  (fX8_twins_23  n) x1 q2 x3 x4 X))))) else none)
def fX8_twins (a1 : Int32) (X : bsX) : Option bsXr := (fX8_requireSlot  a1 X).bind fun r7 => if r7.1 = 0 then (if bsIn a1 6 then (fX8_twins_23   bsF a1 (bsIx a1) (0 : Int32) (0 : Int32) r7.2.2) else none) else some (r7.1, (0 : Int32), r7.2.2)
abbrev rmX8_twins : Room := { frames := 8, cells := 2, slots := 12, locals := 122 }
set_option maxHeartbeats 4000000 in
set_option maxRecDepth 100000 in
theorem wX8_twins_85 {p : Program} {l : Launch} {e : Env} {s : State} {m : MethodId} {args : Array Value} {below : List Frame} {meth : Method} {c : Code} {ρ : bsR} {cA : Nat → ClassId} {dC : Nat → ClassId} {dI : Nat → Nat → Nat} {Rz : va_W} {Ts : List Cond}  (k23 : Int32 → Nat → Int32 → Int32 → bsX → Option bsXr)  {z : bsXr} (C : bsCx p m c cX8_twins 6 s args Ts RX8 ρ cA dC dI Rz meth (some .int)) (T0 : ∀ x ∈ c.exceptionTable.toList, False) (hst : l.stackTraces = false) (hk23 : ∀ (x1 : Int32) (q2 : Nat) (x3 : Int32) (x4 : Int32) (X : bsX), q2 < 7 → k23 x1 q2 x3 x4 X = some z → bsV p l e rmX8_twins s m args below meth c 2 12 (vx_MQ below (bsXQi ρ cA dC dI Rz z s.heap.size) (bsXX ρ cA dC dI Rz z s.heap.size) args s rmX8_twins.cells rmX8_twins.slots (bsA ρ cA Rz s.heap.size)) ρ cA dC dI Rz 6 23 [(0, .ref (ρ 13 0 0)), (1, .int x1), (2, .ref (ρ 0 6 q2)), (3, .int x3), (4, .int x4)] [] X)  (x1 : Int32) (q2 : Nat) (x3 : Int32) (x4 : Int32) (X : bsX) (hq2 : q2 < 7) (hf : fX8_twins_85 k23 x1 q2 x3 x4 X = some z) : bsV p l e rmX8_twins s m args below meth c 2 12 (vx_MQ below (bsXQi ρ cA dC dI Rz z s.heap.size) (bsXX ρ cA dC dI Rz z s.heap.size) args s rmX8_twins.cells rmX8_twins.slots (bsA ρ cA Rz s.heap.size)) ρ cA dC dI Rz 6 85 [(0, .ref (ρ 13 0 0)), (1, .int x1), (2, .ref (ρ 0 6 q2)), (3, .int x3), (4, .int x4)] [] X := by
  rw [fX8_twins_85] at hf
  refine v_iinc (k0 := 4) (v := (x4 + (1 : Int32))) (lv' := [(4, .int (x4 + (1 : Int32))), (0, .ref (ρ 13 0 0)), (1, .int x1), (2, .ref (ρ 0 6 q2)), (3, .int x3)]) C dX8_twins_85 rfl rfl (by decide) rfl ?_
  refine v_goto (tgt := 23) C dX8_twins_88 (by decide) ?_
  refine v_widen (k := 2) (n := 12) (Nat.le_of_ble_eq_true rfl) (Nat.le_of_ble_eq_true rfl) ?_
  refine v_sub [1, 2, 3, 4, 0] rfl ?_
  exact hk23 _ _ _ _ _ hq2 hf
set_option maxHeartbeats 4000000 in
set_option maxRecDepth 100000 in
theorem wX8_twins_23 {p : Program} {l : Launch} {e : Env} {s : State} {m : MethodId} {args : Array Value} {below : List Frame} {meth : Method} {c : Code} {ρ : bsR} {cA : Nat → ClassId} {dC : Nat → ClassId} {dI : Nat → Nat → Nat} {Rz : va_W} {Ts : List Cond}   {z : bsXr} (C : bsCx p m c cX8_twins 6 s args Ts RX8 ρ cA dC dI Rz meth (some .int)) (T0 : ∀ x ∈ c.exceptionTable.toList, False) (hst : l.stackTraces = false) : ∀ (n : Nat) (x1 : Int32) (q2 : Nat) (x3 : Int32) (x4 : Int32) (X : bsX), q2 < 7 → fX8_twins_23  n x1 q2 x3 x4 X = some z → bsV p l e rmX8_twins s m args below meth c 2 12 (vx_MQ below (bsXQi ρ cA dC dI Rz z s.heap.size) (bsXX ρ cA dC dI Rz z s.heap.size) args s rmX8_twins.cells rmX8_twins.slots (bsA ρ cA Rz s.heap.size)) ρ cA dC dI Rz 6 23 [(0, .ref (ρ 13 0 0)), (1, .int x1), (2, .ref (ρ 0 6 q2)), (3, .int x3), (4, .int x4)] [] X := by
  intro n
  induction n with
  | zero => intro x1 q2 x3 x4 X hq2 hf; exact (nomatch hf)
  | succ n ih =>
    intro x1 q2 x3 x4 X hq2 hf
    rw [fX8_twins_23] at hf
    refine v_iload C dX8_twins_23 rfl ?_
    refine v_bipush (v := 6) C dX8_twins_25 (by decide) ?_
    refine v_icmp_ge (tgt := 91) C dX8_twins_27 (by decide) (fun h6 => ?_) (fun h6 => ?_)
    · replace hf := bs_pos h6 hf
      refine v_iload_n C dX8_twins_91 rfl rfl ?_
      exact v_tiret C hf (Nat.le_of_ble_eq_true rfl) (Nat.le_of_ble_eq_true rfl) dX8_twins_92
    · replace hf := bs_neg h6 hf
      refine v_aload_n C dX8_twins_30 rfl rfl ?_
      refine gf_X8_19 C dX8_twins_31 ?_
      refine gf_X8_158 C (by decide) dX8_twins_34 ?_
      refine v_iload C dX8_twins_37 rfl ?_
      obtain ⟨hi1, hf⟩ := bs_if hf
      refine v_aald (t0 := 3) (n := 6) C (bsm_K1 (by decide)) (bsc_K1 (by decide)) rfl hi1 rfl dX8_twins_39 ?_
      refine gf_X8_162 C (by decide) (bsIx_lt hi1) dX8_twins_40 ?_
      refine v_astore (lv' := [(5, .ref (ρ 0 6 (bsIx x4))), (0, .ref (ρ 13 0 0)), (1, .int x1), (2, .ref (ρ 0 6 q2)), (3, .int x3), (4, .int x4)]) C dX8_twins_43 (by decide) rfl ?_
      refine v_iload C dX8_twins_45 rfl ?_
      refine v_iload_n C dX8_twins_47 rfl rfl ?_
      refine v_icmp_eq (tgt := 85) C dX8_twins_48 (by decide) (fun h5 => ?_) (fun h5 => ?_)
      · replace hf := bs_pos h5 hf
        refine v_widen (k := 2) (n := 12) (Nat.le_of_ble_eq_true rfl) (Nat.le_of_ble_eq_true rfl) ?_
        refine v_sub [1, 2, 3, 4, 5] rfl ?_
        exact wX8_twins_85  (fX8_twins_23  n) C T0 hst (fun b0 b1 b2 b3 X g0 h => ih b0 b1 b2 b3 X g0 h) _ _ _ _ _ hq2 hf
      · replace hf := bs_neg h5 hf
        refine v_aload_n C dX8_twins_51 rfl rfl ?_
        refine gf_X8_168 C (by decide) hq2 dX8_twins_52 ?_
        refine v_if_eq (tgt := 85) C dX8_twins_55 (by decide) (fun h4 => ?_) (fun h4 => ?_)
        · replace hf := bs_pos h4 hf
          refine v_widen (k := 2) (n := 12) (Nat.le_of_ble_eq_true rfl) (Nat.le_of_ble_eq_true rfl) ?_
          refine v_sub [1, 2, 3, 4, 5] rfl ?_
          exact wX8_twins_85  (fX8_twins_23  n) C T0 hst (fun b0 b1 b2 b3 X g0 h => ih b0 b1 b2 b3 X g0 h) _ _ _ _ _ hq2 hf
        · replace hf := bs_neg h4 hf
          refine v_aload C dX8_twins_58 rfl ?_
          refine gf_X8_168 C (by decide) (Nat.lt_succ_of_lt (bsIx_lt hi1)) dX8_twins_60 ?_
          refine v_if_eq (tgt := 85) C dX8_twins_63 (by decide) (fun h3 => ?_) (fun h3 => ?_)
          · replace hf := bs_pos h3 hf
            refine v_widen (k := 2) (n := 12) (Nat.le_of_ble_eq_true rfl) (Nat.le_of_ble_eq_true rfl) ?_
            refine v_sub [1, 2, 3, 4, 5] rfl ?_
            exact wX8_twins_85  (fX8_twins_23  n) C T0 hst (fun b0 b1 b2 b3 X g0 h => ih b0 b1 b2 b3 X g0 h) _ _ _ _ _ hq2 hf
          · replace hf := bs_neg h3 hf
            refine v_aload C dX8_twins_66 rfl ?_
            refine gf_X8_202 C (by decide) (Nat.lt_succ_of_lt (bsIx_lt hi1)) dX8_twins_68 ?_
            refine v_aload_n C dX8_twins_71 rfl rfl ?_
            refine gf_X8_202 C (by decide) hq2 dX8_twins_72 ?_
            refine v_icmp_ne (tgt := 85) C dX8_twins_75 (by decide) (fun h2 => ?_) (fun h2 => ?_)
            · replace hf := bs_neg h2 hf
              refine v_widen (k := 2) (n := 12) (Nat.le_of_ble_eq_true rfl) (Nat.le_of_ble_eq_true rfl) ?_
              refine v_sub [1, 2, 3, 4, 5] rfl ?_
              exact wX8_twins_85  (fX8_twins_23  n) C T0 hst (fun b0 b1 b2 b3 X g0 h => ih b0 b1 b2 b3 X g0 h) _ _ _ _ _ hq2 hf
            · replace hf := bs_pos h2 hf
              refine v_iload_n C dX8_twins_78 rfl rfl ?_
              refine v_iconst (v := 1) C dX8_twins_79 (by decide) ?_
              refine v_iload C dX8_twins_80 rfl ?_
              refine v_ishl C dX8_twins_82 ?_
              refine v_ior C dX8_twins_83 ?_
              refine v_istore_n (lv' := [(3, .int (x3 ||| ((1 : Int32) <<< (x4 &&& 31)))), (5, .ref (ρ 0 6 (bsIx x4))), (0, .ref (ρ 13 0 0)), (1, .int x1), (2, .ref (ρ 0 6 q2)), (4, .int x4)]) C dX8_twins_84 rfl (by decide) rfl ?_
              refine v_widen (k := 2) (n := 12) (Nat.le_of_ble_eq_true rfl) (Nat.le_of_ble_eq_true rfl) ?_
              refine v_sub [2, 3, 4, 0, 5] rfl ?_
              exact wX8_twins_85  (fX8_twins_23  n) C T0 hst (fun b0 b1 b2 b3 X g0 h => ih b0 b1 b2 b3 X g0 h) _ _ _ _ _ hq2 hf
set_option maxHeartbeats 4000000 in
set_option maxRecDepth 100000 in
theorem cX8_twins_ok {l : Launch} {ρ : bsR} {cA : Nat → ClassId} {dC : Nat → ClassId} {dI : Nat → Nat → Nat} {Rz : va_W} (hst : l.stackTraces = false)  {a1 : Int32} {X : bsX} {z : bsXr} (hf : fX8_twins a1 X = some z) : bsTi l yX8_twins cX8_twins 6 (some .int) rmX8_twins ρ cA dC dI Rz [.ref (ρ 13 0 0), .int a1] X z := by
  refine bsTi_of (by decide) (Nat.le_of_ble_eq_true rfl) (fun p e s m args below meth c C T0 => ?_)
  have C : bsCx p m c cX8_twins 6 s args (Cond.code yX8_twins cX8_twins 6 (some .int) :: bsG) RX8 ρ cA dC dI Rz meth (some .int) := C
  rw [fX8_twins] at hf
  refine v_sub [0, 1] rfl ?_
  refine v_aload_n C dX8_twins_0 rfl rfl ?_
  refine v_iload_n C dX8_twins_1 rfl rfl ?_
  obtain ⟨r7, hc8, hf⟩ := bs_bind hf
  refine v_ticallVv (y := yX8_requireSlot) (As := [.int a1]) (rest := []) C T0 (cX8_requireSlot_ok hst  hc8) ml_X8_155 wyX8_requireSlot (bsm_X8) (bsc_X8) rfl dpX8_requireSlot ⟨Nat.le_of_ble_eq_true rfl, Nat.le_of_ble_eq_true rfl⟩ ⟨Nat.le_of_ble_eq_true rfl, Nat.le_of_ble_eq_true rfl⟩ (Nat.le_of_ble_eq_true rfl) (Nat.le_of_ble_eq_true rfl) rfl (Nat.le_of_ble_eq_true rfl) dX8_twins_2 (fun h => bs_neg h hf) (fun h9 => ?_)
  replace hf := bs_pos h9 hf
  refine v_aload_n C dX8_twins_5 rfl rfl ?_
  refine gf_X8_19 C dX8_twins_6 ?_
  refine gf_X8_158 C (by decide) dX8_twins_9 ?_
  refine v_iload_n C dX8_twins_12 rfl rfl ?_
  obtain ⟨hi10, hf⟩ := bs_if hf
  refine v_aald (t0 := 3) (n := 6) C (bsm_K1 (by decide)) (bsc_K1 (by decide)) rfl hi10 rfl dX8_twins_13 ?_
  refine gf_X8_162 C (by decide) (bsIx_lt hi10) dX8_twins_14 ?_
  refine v_astore_n (lv' := [(2, .ref (ρ 0 6 (bsIx a1))), (0, .ref (ρ 13 0 0)), (1, .int a1)]) C dX8_twins_17 rfl (by decide) rfl ?_
  refine v_iconst (v := 0) C dX8_twins_18 (by decide) ?_
  refine v_istore_n (lv' := [(3, .int (0 : Int32)), (2, .ref (ρ 0 6 (bsIx a1))), (0, .ref (ρ 13 0 0)), (1, .int a1)]) C dX8_twins_19 rfl (by decide) rfl ?_
  refine v_iconst (v := 0) C dX8_twins_20 (by decide) ?_
  refine v_istore (lv' := [(4, .int (0 : Int32)), (3, .int (0 : Int32)), (2, .ref (ρ 0 6 (bsIx a1))), (0, .ref (ρ 13 0 0)), (1, .int a1)]) C dX8_twins_21 (by decide) rfl ?_
  refine v_widen (k := 2) (n := 12) (Nat.le_of_ble_eq_true rfl) (Nat.le_of_ble_eq_true rfl) ?_
  refine v_sub [3, 4, 2, 1, 0] rfl ?_
  exact wX8_twins_23   C T0 hst  bsF _ _ _ _ _ (Nat.lt_succ_of_lt (bsIx_lt hi10)) hf
/-! BootSlots.sinking()I -/
def fX8_sinking_54 (k8 : Int32 → Int32 → bsX → Option bsXr) (x1 : Int32) (x2 : Int32) (X : bsX) : Option bsXr := k8 x1 (x2 + (1 : Int32)) X
def fX8_sinking_8 : Nat → Int32 → Int32 → bsX → Option bsXr
  | 0, _, _, _ => none
  | n + 1, x1, x2, X => if (6 : Int32) ≤ x2 then (some (0, x1, X)) else (if bsIn x2 6 then (if (X 0 6 (bsIx x2) 0) = 0 then (fX8_sinking_54  (fX8_sinking_8  n) x1 x2 X) else (if (X 0 0 0 8) ≤ (X 0 6 (bsIx x2) 1) then (fX8_sinking_54  (fX8_sinking_8  n) x1 x2 X) else (fX8_sinking_54  (fX8_sinking_8  n) (x1 ||| ((1 : Int32) <<< (x2 &&& 31))) x2 X))) else none)
def fX8_sinking (X : bsX) : Option bsXr := (fX8_requireLoaded   X).bind fun r5 => if r5.1 = 0 then (fX8_sinking_8   bsF (0 : Int32) (0 : Int32) r5.2.2) else some (r5.1, (0 : Int32), r5.2.2)
abbrev rmX8_sinking : Room := { frames := 7, cells := 1, slots := 6, locals := 101 }
set_option maxHeartbeats 4000000 in
set_option maxRecDepth 100000 in
theorem wX8_sinking_54 {p : Program} {l : Launch} {e : Env} {s : State} {m : MethodId} {args : Array Value} {below : List Frame} {meth : Method} {c : Code} {ρ : bsR} {cA : Nat → ClassId} {dC : Nat → ClassId} {dI : Nat → Nat → Nat} {Rz : va_W} {Ts : List Cond}  (k8 : Int32 → Int32 → bsX → Option bsXr)  {z : bsXr} (C : bsCx p m c cX8_sinking 4 s args Ts RX8 ρ cA dC dI Rz meth (some .int)) (T0 : ∀ x ∈ c.exceptionTable.toList, False) (hst : l.stackTraces = false) (hk8 : ∀ (x1 : Int32) (x2 : Int32) (X : bsX), k8 x1 x2 X = some z → bsV p l e rmX8_sinking s m args below meth c 1 6 (vx_MQ below (bsXQi ρ cA dC dI Rz z s.heap.size) (bsXX ρ cA dC dI Rz z s.heap.size) args s rmX8_sinking.cells rmX8_sinking.slots (bsA ρ cA Rz s.heap.size)) ρ cA dC dI Rz 4 8 [(0, .ref (ρ 13 0 0)), (1, .int x1), (2, .int x2)] [] X)  (x1 : Int32) (x2 : Int32) (X : bsX) (hf : fX8_sinking_54 k8 x1 x2 X = some z) : bsV p l e rmX8_sinking s m args below meth c 1 6 (vx_MQ below (bsXQi ρ cA dC dI Rz z s.heap.size) (bsXX ρ cA dC dI Rz z s.heap.size) args s rmX8_sinking.cells rmX8_sinking.slots (bsA ρ cA Rz s.heap.size)) ρ cA dC dI Rz 4 54 [(0, .ref (ρ 13 0 0)), (1, .int x1), (2, .int x2)] [] X := by
  rw [fX8_sinking_54] at hf
  refine v_iinc (k0 := 2) (v := (x2 + (1 : Int32))) (lv' := [(2, .int (x2 + (1 : Int32))), (0, .ref (ρ 13 0 0)), (1, .int x1)]) C dX8_sinking_54 rfl rfl (by decide) rfl ?_
  refine v_goto (tgt := 8) C dX8_sinking_57 (by decide) ?_
  refine v_widen (k := 1) (n := 6) (Nat.le_of_ble_eq_true rfl) (Nat.le_of_ble_eq_true rfl) ?_
  refine v_sub [1, 2, 0] rfl ?_
  exact hk8 _ _ _  hf
set_option maxHeartbeats 4000000 in
set_option maxRecDepth 100000 in
theorem wX8_sinking_8 {p : Program} {l : Launch} {e : Env} {s : State} {m : MethodId} {args : Array Value} {below : List Frame} {meth : Method} {c : Code} {ρ : bsR} {cA : Nat → ClassId} {dC : Nat → ClassId} {dI : Nat → Nat → Nat} {Rz : va_W} {Ts : List Cond}   {z : bsXr} (C : bsCx p m c cX8_sinking 4 s args Ts RX8 ρ cA dC dI Rz meth (some .int)) (T0 : ∀ x ∈ c.exceptionTable.toList, False) (hst : l.stackTraces = false) : ∀ (n : Nat) (x1 : Int32) (x2 : Int32) (X : bsX), fX8_sinking_8  n x1 x2 X = some z → bsV p l e rmX8_sinking s m args below meth c 1 6 (vx_MQ below (bsXQi ρ cA dC dI Rz z s.heap.size) (bsXX ρ cA dC dI Rz z s.heap.size) args s rmX8_sinking.cells rmX8_sinking.slots (bsA ρ cA Rz s.heap.size)) ρ cA dC dI Rz 4 8 [(0, .ref (ρ 13 0 0)), (1, .int x1), (2, .int x2)] [] X := by
  intro n
  induction n with
  | zero => intro x1 x2 X hf; exact (nomatch hf)
  | succ n ih =>
    intro x1 x2 X hf
    rw [fX8_sinking_8] at hf
    refine v_iload_n C dX8_sinking_8 rfl rfl ?_
    refine v_bipush (v := 6) C dX8_sinking_9 (by decide) ?_
    refine v_icmp_ge (tgt := 60) C dX8_sinking_11 (by decide) (fun h4 => ?_) (fun h4 => ?_)
    · replace hf := bs_pos h4 hf
      refine v_iload_n C dX8_sinking_60 rfl rfl ?_
      exact v_tiret C hf (Nat.le_of_ble_eq_true rfl) (Nat.le_of_ble_eq_true rfl) dX8_sinking_61
    · replace hf := bs_neg h4 hf
      refine v_aload_n C dX8_sinking_14 rfl rfl ?_
      refine gf_X8_19 C dX8_sinking_15 ?_
      refine gf_X8_158 C (by decide) dX8_sinking_18 ?_
      refine v_iload_n C dX8_sinking_21 rfl rfl ?_
      obtain ⟨hi1, hf⟩ := bs_if hf
      refine v_aald (t0 := 3) (n := 6) C (bsm_K1 (by decide)) (bsc_K1 (by decide)) rfl hi1 rfl dX8_sinking_22 ?_
      refine gf_X8_162 C (by decide) (bsIx_lt hi1) dX8_sinking_23 ?_
      refine v_astore_n (lv' := [(3, .ref (ρ 0 6 (bsIx x2))), (0, .ref (ρ 13 0 0)), (1, .int x1), (2, .int x2)]) C dX8_sinking_26 rfl (by decide) rfl ?_
      refine v_aload_n C dX8_sinking_27 rfl rfl ?_
      refine gf_X8_168 C (by decide) (Nat.lt_succ_of_lt (bsIx_lt hi1)) dX8_sinking_28 ?_
      refine v_if_eq (tgt := 54) C dX8_sinking_31 (by decide) (fun h3 => ?_) (fun h3 => ?_)
      · replace hf := bs_pos h3 hf
        refine v_widen (k := 1) (n := 6) (Nat.le_of_ble_eq_true rfl) (Nat.le_of_ble_eq_true rfl) ?_
        refine v_sub [1, 2, 3] rfl ?_
        exact wX8_sinking_54  (fX8_sinking_8  n) C T0 hst (fun b0 b1 X  h => ih b0 b1 X  h) _ _ _  hf
      · replace hf := bs_neg h3 hf
        refine v_aload_n C dX8_sinking_34 rfl rfl ?_
        refine gf_X8_202 C (by decide) (Nat.lt_succ_of_lt (bsIx_lt hi1)) dX8_sinking_35 ?_
        refine v_aload_n C dX8_sinking_38 rfl rfl ?_
        refine gf_X8_19 C dX8_sinking_39 ?_
        refine gf_X8_97 C (by decide) dX8_sinking_42 ?_
        refine v_icmp_ge (tgt := 54) C dX8_sinking_45 (by decide) (fun h2 => ?_) (fun h2 => ?_)
        · replace hf := bs_pos h2 hf
          refine v_widen (k := 1) (n := 6) (Nat.le_of_ble_eq_true rfl) (Nat.le_of_ble_eq_true rfl) ?_
          refine v_sub [1, 2, 3] rfl ?_
          exact wX8_sinking_54  (fX8_sinking_8  n) C T0 hst (fun b0 b1 X  h => ih b0 b1 X  h) _ _ _  hf
        · replace hf := bs_neg h2 hf
          refine v_iload_n C dX8_sinking_48 rfl rfl ?_
          refine v_iconst (v := 1) C dX8_sinking_49 (by decide) ?_
          refine v_iload_n C dX8_sinking_50 rfl rfl ?_
          refine v_ishl C dX8_sinking_51 ?_
          refine v_ior C dX8_sinking_52 ?_
          refine v_istore_n (lv' := [(1, .int (x1 ||| ((1 : Int32) <<< (x2 &&& 31)))), (3, .ref (ρ 0 6 (bsIx x2))), (0, .ref (ρ 13 0 0)), (2, .int x2)]) C dX8_sinking_53 rfl (by decide) rfl ?_
          refine v_widen (k := 1) (n := 6) (Nat.le_of_ble_eq_true rfl) (Nat.le_of_ble_eq_true rfl) ?_
          refine v_sub [2, 0, 3] rfl ?_
          exact wX8_sinking_54  (fX8_sinking_8  n) C T0 hst (fun b0 b1 X  h => ih b0 b1 X  h) _ _ _  hf
set_option maxHeartbeats 4000000 in
set_option maxRecDepth 100000 in
theorem cX8_sinking_ok {l : Launch} {ρ : bsR} {cA : Nat → ClassId} {dC : Nat → ClassId} {dI : Nat → Nat → Nat} {Rz : va_W} (hst : l.stackTraces = false)  {X : bsX} {z : bsXr} (hf : fX8_sinking  X = some z) : bsTi l yX8_sinking cX8_sinking 4 (some .int) rmX8_sinking ρ cA dC dI Rz [.ref (ρ 13 0 0)] X z := by
  refine bsTi_of (by decide) (Nat.le_of_ble_eq_true rfl) (fun p e s m args below meth c C T0 => ?_)
  have C : bsCx p m c cX8_sinking 4 s args (Cond.code yX8_sinking cX8_sinking 4 (some .int) :: bsG) RX8 ρ cA dC dI Rz meth (some .int) := C
  rw [fX8_sinking] at hf
  refine v_sub [0] rfl ?_
  refine v_aload_n C dX8_sinking_0 rfl rfl ?_
  obtain ⟨r5, hc6, hf⟩ := bs_bind hf
  refine v_ticallVv (y := yX8_requireLoaded) (As := []) (rest := []) C T0 (cX8_requireLoaded_ok hst  hc6) ml_X8_82 wyX8_requireLoaded (bsm_X8) (bsc_X8) rfl dpX8_requireLoaded ⟨Nat.le_of_ble_eq_true rfl, Nat.le_of_ble_eq_true rfl⟩ ⟨Nat.le_of_ble_eq_true rfl, Nat.le_of_ble_eq_true rfl⟩ (Nat.le_of_ble_eq_true rfl) (Nat.le_of_ble_eq_true rfl) rfl (Nat.le_of_ble_eq_true rfl) dX8_sinking_1 (fun h => bs_neg h hf) (fun h7 => ?_)
  replace hf := bs_pos h7 hf
  refine v_iconst (v := 0) C dX8_sinking_4 (by decide) ?_
  refine v_istore_n (lv' := [(1, .int (0 : Int32)), (0, .ref (ρ 13 0 0))]) C dX8_sinking_5 rfl (by decide) rfl ?_
  refine v_iconst (v := 0) C dX8_sinking_6 (by decide) ?_
  refine v_istore_n (lv' := [(2, .int (0 : Int32)), (1, .int (0 : Int32)), (0, .ref (ρ 13 0 0))]) C dX8_sinking_7 rfl (by decide) rfl ?_
  refine v_widen (k := 1) (n := 6) (Nat.le_of_ble_eq_true rfl) (Nat.le_of_ble_eq_true rfl) ?_
  refine v_sub [2, 1, 0] rfl ?_
  exact wX8_sinking_8   C T0 hst  bsF _ _ _  hf
/-! BootSlots.floorWith(I)I -/
def fX8_floorWith (a1 : Int32) (X : bsX) : Option bsXr := (fX8_requireSlot  a1 X).bind fun r1 => if r1.1 = 0 then (if bsIn a1 6 then (if (r1.2.2 0 6 (bsIx a1) 0) = 0 then (some (0, (r1.2.2 0 0 0 8), r1.2.2)) else ((fX3_floorByGoodAnd 0 a1 r1.2.2).bind fun r5 => some (0, r5.1, r5.2))) else none) else some (r1.1, (0 : Int32), r1.2.2)
abbrev rmX8_floorWith : Room := { frames := 8, cells := 2, slots := 12, locals := 122 }
set_option maxHeartbeats 4000000 in
set_option maxRecDepth 100000 in
theorem cX8_floorWith_ok {l : Launch} {ρ : bsR} {cA : Nat → ClassId} {dC : Nat → ClassId} {dI : Nat → Nat → Nat} {Rz : va_W} (hst : l.stackTraces = false)  {a1 : Int32} {X : bsX} {z : bsXr} (hf : fX8_floorWith a1 X = some z) : bsTi l yX8_floorWith cX8_floorWith 2 (some .int) rmX8_floorWith ρ cA dC dI Rz [.ref (ρ 13 0 0), .int a1] X z := by
  refine bsTi_of (by decide) (Nat.le_of_ble_eq_true rfl) (fun p e s m args below meth c C T0 => ?_)
  have C : bsCx p m c cX8_floorWith 2 s args (Cond.code yX8_floorWith cX8_floorWith 2 (some .int) :: bsG) RX8 ρ cA dC dI Rz meth (some .int) := C
  rw [fX8_floorWith] at hf
  refine v_sub [0, 1] rfl ?_
  refine v_aload_n C dX8_floorWith_0 rfl rfl ?_
  refine v_iload_n C dX8_floorWith_1 rfl rfl ?_
  obtain ⟨r1, hc2, hf⟩ := bs_bind hf
  refine v_ticallVv (y := yX8_requireSlot) (As := [.int a1]) (rest := []) C T0 (cX8_requireSlot_ok hst  hc2) ml_X8_155 wyX8_requireSlot (bsm_X8) (bsc_X8) rfl dpX8_requireSlot ⟨Nat.le_of_ble_eq_true rfl, Nat.le_of_ble_eq_true rfl⟩ ⟨Nat.le_of_ble_eq_true rfl, Nat.le_of_ble_eq_true rfl⟩ (Nat.le_of_ble_eq_true rfl) (Nat.le_of_ble_eq_true rfl) rfl (Nat.le_of_ble_eq_true rfl) dX8_floorWith_2 (fun h => bs_neg h hf) (fun h3 => ?_)
  replace hf := bs_pos h3 hf
  refine v_aload_n C dX8_floorWith_5 rfl rfl ?_
  refine gf_X8_19 C dX8_floorWith_6 ?_
  refine gf_X8_158 C (by decide) dX8_floorWith_9 ?_
  refine v_iload_n C dX8_floorWith_12 rfl rfl ?_
  obtain ⟨hi4, hf⟩ := bs_if hf
  refine v_aald (t0 := 3) (n := 6) C (bsm_K1 (by decide)) (bsc_K1 (by decide)) rfl hi4 rfl dX8_floorWith_13 ?_
  refine gf_X8_162 C (by decide) (bsIx_lt hi4) dX8_floorWith_14 ?_
  refine gf_X8_168 C (by decide) (Nat.lt_succ_of_lt (bsIx_lt hi4)) dX8_floorWith_17 ?_
  refine v_if_ne (tgt := 31) C dX8_floorWith_20 (by decide) (fun h7 => ?_) (fun h7 => ?_)
  · replace hf := bs_neg h7 hf
    refine v_aload_n C dX8_floorWith_31 rfl rfl ?_
    refine gf_X8_19 C dX8_floorWith_32 ?_
    refine v_iload_n C dX8_floorWith_35 rfl rfl ?_
    obtain ⟨r5, hc6, hf⟩ := bs_bind hf
    refine v_callVi (y := yX3_floorByGoodAnd) (As := [.int a1]) (rest := []) C (cX3_floorByGoodAnd_ok (by decide) hc6) ml_X8_271 wyX3_floorByGoodAnd (bsm_X3 (by decide)) (bsc_X3 (by decide)) rfl dpX3_floorByGoodAnd ⟨Nat.le_of_ble_eq_true rfl, Nat.le_of_ble_eq_true rfl⟩ ⟨rfl, rfl⟩ ⟨Nat.le_of_ble_eq_true rfl, Nat.le_of_ble_eq_true rfl⟩ rfl (Nat.le_of_ble_eq_true rfl) dX8_floorWith_36 ?_
    exact v_tiret C hf (Nat.le_of_ble_eq_true rfl) (Nat.le_of_ble_eq_true rfl) dX8_floorWith_39
  · replace hf := bs_pos h7 hf
    refine v_aload_n C dX8_floorWith_23 rfl rfl ?_
    refine gf_X8_19 C dX8_floorWith_24 ?_
    refine gf_X8_97 C (by decide) dX8_floorWith_27 ?_
    exact v_tiret C hf (Nat.le_of_ble_eq_true rfl) (Nat.le_of_ble_eq_true rfl) dX8_floorWith_30
/-! BootSlots.mayHold(I)Z -/
def fX8_mayHold_78 (X : bsX) : Option bsXr := some (0, (1 : Int32), X)
def fX8_mayHold_43 (q2 : Nat) (q3 : Nat) (y0 : Int32) (X : bsX) : Option bsXr := if (X 0 6 q3 0) = 0 then (some (0, (0 : Int32), X)) else (if y0 = 0 then (some (0, (0 : Int32), X)) else (if (X 0 5 q2 4) = 0 then (if (X 0 0 0 5) < (X 0 6 q3 2) then (some (0, (0 : Int32), X)) else (fX8_mayHold_78    X)) else (fX8_mayHold_78    X)))
def fX8_mayHold_38 (q2 : Nat) (q3 : Nat) (X : bsX) : Option bsXr := fX8_mayHold_43   q2 q3 (1 : Int32) X
def fX8_mayHold (a1 : Int32) (X : bsX) : Option bsXr := (fX8_requireSlot  a1 X).bind fun r5 => if r5.1 = 0 then (if bsIn a1 6 then (if (r5.2.2 0 6 (bsIx a1) 3) = 0 then (fX8_mayHold_38   (bsIx a1) (bsIx a1) r5.2.2) else (if (r5.2.2 0 6 (bsIx a1) 3) ≤ (r5.2.2 0 6 (bsIx a1) 2) then (fX8_mayHold_43   (bsIx a1) (bsIx a1) (0 : Int32) r5.2.2) else (fX8_mayHold_38   (bsIx a1) (bsIx a1) r5.2.2))) else none) else some (r5.1, (0 : Int32), r5.2.2)
abbrev rmX8_mayHold : Room := { frames := 8, cells := 2, slots := 12, locals := 122 }
set_option maxHeartbeats 4000000 in
set_option maxRecDepth 100000 in
theorem wX8_mayHold_78 {p : Program} {l : Launch} {e : Env} {s : State} {m : MethodId} {args : Array Value} {below : List Frame} {meth : Method} {c : Code} {ρ : bsR} {cA : Nat → ClassId} {dC : Nat → ClassId} {dI : Nat → Nat → Nat} {Rz : va_W} {Ts : List Cond}   {z : bsXr} (C : bsCx p m c cX8_mayHold 5 s args Ts RX8 ρ cA dC dI Rz meth (some .boolean)) (T0 : ∀ x ∈ c.exceptionTable.toList, False) (hst : l.stackTraces = false) (X : bsX) (hf : fX8_mayHold_78  X = some z) : bsV p l e rmX8_mayHold s m args below meth c 2 12 (vx_MQ below (bsXQi ρ cA dC dI Rz z s.heap.size) (bsXX ρ cA dC dI Rz z s.heap.size) args s rmX8_mayHold.cells rmX8_mayHold.slots (bsA ρ cA Rz s.heap.size)) ρ cA dC dI Rz 5 78 [] [] X := by
  rw [fX8_mayHold_78] at hf
  refine v_iconst (v := 1) C dX8_mayHold_78 (by decide) ?_
  refine v_goto (tgt := 83) C dX8_mayHold_79 (by decide) ?_
  exact v_tzret C (bsZ01 (by decide)).1 hf (Nat.le_of_ble_eq_true rfl) (Nat.le_of_ble_eq_true rfl) dX8_mayHold_83
set_option maxHeartbeats 4000000 in
set_option maxRecDepth 100000 in
theorem wX8_mayHold_43 {p : Program} {l : Launch} {e : Env} {s : State} {m : MethodId} {args : Array Value} {below : List Frame} {meth : Method} {c : Code} {ρ : bsR} {cA : Nat → ClassId} {dC : Nat → ClassId} {dI : Nat → Nat → Nat} {Rz : va_W} {Ts : List Cond}   {z : bsXr} (C : bsCx p m c cX8_mayHold 5 s args Ts RX8 ρ cA dC dI Rz meth (some .boolean)) (T0 : ∀ x ∈ c.exceptionTable.toList, False) (hst : l.stackTraces = false) (q2 : Nat) (q3 : Nat) (y0 : Int32) (X : bsX) (hq2 : q2 < 6) (hq3 : q3 < 7) (hf : fX8_mayHold_43 q2 q3 y0 X = some z) : bsV p l e rmX8_mayHold s m args below meth c 2 12 (vx_MQ below (bsXQi ρ cA dC dI Rz z s.heap.size) (bsXX ρ cA dC dI Rz z s.heap.size) args s rmX8_mayHold.cells rmX8_mayHold.slots (bsA ρ cA Rz s.heap.size)) ρ cA dC dI Rz 5 43 [(0, .ref (ρ 13 0 0)), (2, .ref (ρ 0 5 q2)), (3, .ref (ρ 0 6 q3))] [.int y0] X := by
  rw [fX8_mayHold_43] at hf
  refine v_istore (lv' := [(4, .int y0), (0, .ref (ρ 13 0 0)), (2, .ref (ρ 0 5 q2)), (3, .ref (ρ 0 6 q3))]) C dX8_mayHold_43 (by decide) rfl ?_
  refine v_aload_n C dX8_mayHold_45 rfl rfl ?_
  refine gf_X8_168 C (by decide) hq3 dX8_mayHold_46 ?_
  refine v_if_eq (tgt := 82) C dX8_mayHold_49 (by decide) (fun h4 => ?_) (fun h4 => ?_)
  · replace hf := bs_pos h4 hf
    refine v_iconst (v := 0) C dX8_mayHold_82 (by decide) ?_
    exact v_tzret C (bsZ01 (by decide)).1 hf (Nat.le_of_ble_eq_true rfl) (Nat.le_of_ble_eq_true rfl) dX8_mayHold_83
  · replace hf := bs_neg h4 hf
    refine v_iload C dX8_mayHold_52 rfl ?_
    refine v_if_eq (tgt := 82) C dX8_mayHold_54 (by decide) (fun h3 => ?_) (fun h3 => ?_)
    · replace hf := bs_pos h3 hf
      refine v_iconst (v := 0) C dX8_mayHold_82 (by decide) ?_
      exact v_tzret C (bsZ01 (by decide)).1 hf (Nat.le_of_ble_eq_true rfl) (Nat.le_of_ble_eq_true rfl) dX8_mayHold_83
    · replace hf := bs_neg h3 hf
      refine v_aload_n C dX8_mayHold_57 rfl rfl ?_
      refine gf_X8_183 C (by decide) hq2 dX8_mayHold_58 ?_
      refine v_if_ne (tgt := 78) C dX8_mayHold_61 (by decide) (fun h2 => ?_) (fun h2 => ?_)
      · replace hf := bs_neg h2 hf
        refine v_widen (k := 2) (n := 12) (Nat.le_of_ble_eq_true rfl) (Nat.le_of_ble_eq_true rfl) ?_
        refine v_sub [] rfl ?_
        exact wX8_mayHold_78   C T0 hst  _  hf
      · replace hf := bs_pos h2 hf
        refine v_aload_n C dX8_mayHold_64 rfl rfl ?_
        refine gf_X8_205 C (by decide) hq3 dX8_mayHold_65 ?_
        refine v_aload_n C dX8_mayHold_68 rfl rfl ?_
        refine gf_X8_19 C dX8_mayHold_69 ?_
        refine gf_X8_88 C (by decide) dX8_mayHold_72 ?_
        refine v_icmp_gt (tgt := 82) C dX8_mayHold_75 (by decide) (fun h1 => ?_) (fun h1 => ?_)
        · replace hf := bs_pos h1 hf
          refine v_iconst (v := 0) C dX8_mayHold_82 (by decide) ?_
          exact v_tzret C (bsZ01 (by decide)).1 hf (Nat.le_of_ble_eq_true rfl) (Nat.le_of_ble_eq_true rfl) dX8_mayHold_83
        · replace hf := bs_neg h1 hf
          refine v_widen (k := 2) (n := 12) (Nat.le_of_ble_eq_true rfl) (Nat.le_of_ble_eq_true rfl) ?_
          refine v_sub [] rfl ?_
          exact wX8_mayHold_78   C T0 hst  _  hf
set_option maxHeartbeats 4000000 in
set_option maxRecDepth 100000 in
theorem wX8_mayHold_38 {p : Program} {l : Launch} {e : Env} {s : State} {m : MethodId} {args : Array Value} {below : List Frame} {meth : Method} {c : Code} {ρ : bsR} {cA : Nat → ClassId} {dC : Nat → ClassId} {dI : Nat → Nat → Nat} {Rz : va_W} {Ts : List Cond}   {z : bsXr} (C : bsCx p m c cX8_mayHold 5 s args Ts RX8 ρ cA dC dI Rz meth (some .boolean)) (T0 : ∀ x ∈ c.exceptionTable.toList, False) (hst : l.stackTraces = false) (q2 : Nat) (q3 : Nat) (X : bsX) (hq2 : q2 < 6) (hq3 : q3 < 7) (hf : fX8_mayHold_38 q2 q3 X = some z) : bsV p l e rmX8_mayHold s m args below meth c 2 12 (vx_MQ below (bsXQi ρ cA dC dI Rz z s.heap.size) (bsXX ρ cA dC dI Rz z s.heap.size) args s rmX8_mayHold.cells rmX8_mayHold.slots (bsA ρ cA Rz s.heap.size)) ρ cA dC dI Rz 5 38 [(0, .ref (ρ 13 0 0)), (2, .ref (ρ 0 5 q2)), (3, .ref (ρ 0 6 q3))] [] X := by
  rw [fX8_mayHold_38] at hf
  refine v_iconst (v := 1) C dX8_mayHold_38 (by decide) ?_
  refine v_goto (tgt := 43) C dX8_mayHold_39 (by decide) ?_
  refine v_widen (k := 2) (n := 12) (Nat.le_of_ble_eq_true rfl) (Nat.le_of_ble_eq_true rfl) ?_
  refine v_sub [0, 1, 2] rfl ?_
  exact wX8_mayHold_43   C T0 hst  _ _ _ _ hq2 hq3 hf
set_option maxHeartbeats 4000000 in
set_option maxRecDepth 100000 in
theorem cX8_mayHold_ok {l : Launch} {ρ : bsR} {cA : Nat → ClassId} {dC : Nat → ClassId} {dI : Nat → Nat → Nat} {Rz : va_W} (hst : l.stackTraces = false)  {a1 : Int32} {X : bsX} {z : bsXr} (hf : fX8_mayHold a1 X = some z) : bsTi l yX8_mayHold cX8_mayHold 5 (some .boolean) rmX8_mayHold ρ cA dC dI Rz [.ref (ρ 13 0 0), .int a1] X z := by
  refine bsTi_of (by decide) (Nat.le_of_ble_eq_true rfl) (fun p e s m args below meth c C T0 => ?_)
  have C : bsCx p m c cX8_mayHold 5 s args (Cond.code yX8_mayHold cX8_mayHold 5 (some .boolean) :: bsG) RX8 ρ cA dC dI Rz meth (some .boolean) := C
  rw [fX8_mayHold] at hf
  refine v_sub [0, 1] rfl ?_
  refine v_aload_n C dX8_mayHold_0 rfl rfl ?_
  refine v_iload_n C dX8_mayHold_1 rfl rfl ?_
  obtain ⟨r5, hc6, hf⟩ := bs_bind hf
  refine v_ticallVv (y := yX8_requireSlot) (As := [.int a1]) (rest := []) C T0 (cX8_requireSlot_ok hst  hc6) ml_X8_155 wyX8_requireSlot (bsm_X8) (bsc_X8) rfl dpX8_requireSlot ⟨Nat.le_of_ble_eq_true rfl, Nat.le_of_ble_eq_true rfl⟩ ⟨Nat.le_of_ble_eq_true rfl, Nat.le_of_ble_eq_true rfl⟩ (Nat.le_of_ble_eq_true rfl) (Nat.le_of_ble_eq_true rfl) rfl (Nat.le_of_ble_eq_true rfl) dX8_mayHold_2 (fun h => bs_neg h hf) (fun h7 => ?_)
  replace hf := bs_pos h7 hf
  refine v_aload_n C dX8_mayHold_5 rfl rfl ?_
  refine gf_X8_19 C dX8_mayHold_6 ?_
  refine gf_X8_158 C (by decide) dX8_mayHold_9 ?_
  refine v_iload_n C dX8_mayHold_12 rfl rfl ?_
  obtain ⟨hi8, hf⟩ := bs_if hf
  refine v_aald (t0 := 3) (n := 6) C (bsm_K1 (by decide)) (bsc_K1 (by decide)) rfl hi8 rfl dX8_mayHold_13 ?_
  refine v_astore_n (lv' := [(2, .ref (ρ 0 5 (bsIx a1))), (0, .ref (ρ 13 0 0)), (1, .int a1)]) C dX8_mayHold_14 rfl (by decide) rfl ?_
  refine v_aload_n C dX8_mayHold_15 rfl rfl ?_
  refine gf_X8_162 C (by decide) (bsIx_lt hi8) dX8_mayHold_16 ?_
  refine v_astore_n (lv' := [(3, .ref (ρ 0 6 (bsIx a1))), (2, .ref (ρ 0 5 (bsIx a1))), (0, .ref (ρ 13 0 0)), (1, .int a1)]) C dX8_mayHold_19 rfl (by decide) rfl ?_
  refine v_aload_n C dX8_mayHold_20 rfl rfl ?_
  refine gf_X8_208 C (by decide) (Nat.lt_succ_of_lt (bsIx_lt hi8)) dX8_mayHold_21 ?_
  refine v_if_eq (tgt := 38) C dX8_mayHold_24 (by decide) (fun h10 => ?_) (fun h10 => ?_)
  · replace hf := bs_pos h10 hf
    refine v_widen (k := 2) (n := 12) (Nat.le_of_ble_eq_true rfl) (Nat.le_of_ble_eq_true rfl) ?_
    refine v_sub [2, 1, 0] rfl ?_
    exact wX8_mayHold_38   C T0 hst  _ _ _ (bsIx_lt hi8) (Nat.lt_succ_of_lt (bsIx_lt hi8)) hf
  · replace hf := bs_neg h10 hf
    refine v_aload_n C dX8_mayHold_27 rfl rfl ?_
    refine gf_X8_208 C (by decide) (Nat.lt_succ_of_lt (bsIx_lt hi8)) dX8_mayHold_28 ?_
    refine v_aload_n C dX8_mayHold_31 rfl rfl ?_
    refine gf_X8_205 C (by decide) (Nat.lt_succ_of_lt (bsIx_lt hi8)) dX8_mayHold_32 ?_
    refine v_icmp_le (tgt := 42) C dX8_mayHold_35 (by decide) (fun h9 => ?_) (fun h9 => ?_)
    · replace hf := bs_pos h9 hf
      refine v_iconst (v := 0) C dX8_mayHold_42 (by decide) ?_
      refine v_widen (k := 2) (n := 12) (Nat.le_of_ble_eq_true rfl) (Nat.le_of_ble_eq_true rfl) ?_
      refine v_sub [2, 1, 0] rfl ?_
      exact wX8_mayHold_43   C T0 hst  _ _ _ _ (bsIx_lt hi8) (Nat.lt_succ_of_lt (bsIx_lt hi8)) hf
    · replace hf := bs_neg h9 hf
      refine v_widen (k := 2) (n := 12) (Nat.le_of_ble_eq_true rfl) (Nat.le_of_ble_eq_true rfl) ?_
      refine v_sub [2, 1, 0] rfl ?_
      exact wX8_mayHold_38   C T0 hst  _ _ _ (bsIx_lt hi8) (Nat.lt_succ_of_lt (bsIx_lt hi8)) hf
/-! BootSlots.mostBoots()I -/
def fX8_mostBoots_48 (k8 : Int32 → Int32 → bsX → Option bsXr) (x1 : Int32) (x2 : Int32) (X : bsX) : Option bsXr := k8 x1 (x2 + (1 : Int32)) X
def fX8_mostBoots_8 : Nat → Int32 → Int32 → bsX → Option bsXr
  | 0, _, _, _ => none
  | n + 1, x1, x2, X => if (6 : Int32) ≤ x2 then (some (0, x1, X)) else (if bsIn x2 6 then ((fX3_isBootable 0 (bsIx x2)  X).bind fun r2 => if r2.1 = 0 then (fX8_mostBoots_48  (fX8_mostBoots_8  n) x1 x2 r2.2) else (fX8_mostBoots_48  (fX8_mostBoots_8  n) (x1 + (r2.2 0 5 (bsIx x2) 3)) x2 r2.2)) else none)
def fX8_mostBoots (X : bsX) : Option bsXr := (fX8_requireLoaded   X).bind fun r7 => if r7.1 = 0 then (fX8_mostBoots_8   bsF (0 : Int32) (0 : Int32) r7.2.2) else some (r7.1, (0 : Int32), r7.2.2)
abbrev rmX8_mostBoots : Room := { frames := 7, cells := 1, slots := 6, locals := 101 }
set_option maxHeartbeats 4000000 in
set_option maxRecDepth 100000 in
theorem wX8_mostBoots_48 {p : Program} {l : Launch} {e : Env} {s : State} {m : MethodId} {args : Array Value} {below : List Frame} {meth : Method} {c : Code} {ρ : bsR} {cA : Nat → ClassId} {dC : Nat → ClassId} {dI : Nat → Nat → Nat} {Rz : va_W} {Ts : List Cond}  (k8 : Int32 → Int32 → bsX → Option bsXr)  {z : bsXr} (C : bsCx p m c cX8_mostBoots 3 s args Ts RX8 ρ cA dC dI Rz meth (some .int)) (T0 : ∀ x ∈ c.exceptionTable.toList, False) (hst : l.stackTraces = false) (hk8 : ∀ (x1 : Int32) (x2 : Int32) (X : bsX), k8 x1 x2 X = some z → bsV p l e rmX8_mostBoots s m args below meth c 1 6 (vx_MQ below (bsXQi ρ cA dC dI Rz z s.heap.size) (bsXX ρ cA dC dI Rz z s.heap.size) args s rmX8_mostBoots.cells rmX8_mostBoots.slots (bsA ρ cA Rz s.heap.size)) ρ cA dC dI Rz 3 8 [(0, .ref (ρ 13 0 0)), (1, .int x1), (2, .int x2)] [] X)  (x1 : Int32) (x2 : Int32) (X : bsX) (hf : fX8_mostBoots_48 k8 x1 x2 X = some z) : bsV p l e rmX8_mostBoots s m args below meth c 1 6 (vx_MQ below (bsXQi ρ cA dC dI Rz z s.heap.size) (bsXX ρ cA dC dI Rz z s.heap.size) args s rmX8_mostBoots.cells rmX8_mostBoots.slots (bsA ρ cA Rz s.heap.size)) ρ cA dC dI Rz 3 48 [(0, .ref (ρ 13 0 0)), (1, .int x1), (2, .int x2)] [] X := by
  rw [fX8_mostBoots_48] at hf
  refine v_iinc (k0 := 2) (v := (x2 + (1 : Int32))) (lv' := [(2, .int (x2 + (1 : Int32))), (0, .ref (ρ 13 0 0)), (1, .int x1)]) C dX8_mostBoots_48 rfl rfl (by decide) rfl ?_
  refine v_goto (tgt := 8) C dX8_mostBoots_51 (by decide) ?_
  refine v_widen (k := 1) (n := 6) (Nat.le_of_ble_eq_true rfl) (Nat.le_of_ble_eq_true rfl) ?_
  refine v_sub [1, 2, 0] rfl ?_
  exact hk8 _ _ _  hf
set_option maxHeartbeats 4000000 in
set_option maxRecDepth 100000 in
theorem wX8_mostBoots_8 {p : Program} {l : Launch} {e : Env} {s : State} {m : MethodId} {args : Array Value} {below : List Frame} {meth : Method} {c : Code} {ρ : bsR} {cA : Nat → ClassId} {dC : Nat → ClassId} {dI : Nat → Nat → Nat} {Rz : va_W} {Ts : List Cond}   {z : bsXr} (C : bsCx p m c cX8_mostBoots 3 s args Ts RX8 ρ cA dC dI Rz meth (some .int)) (T0 : ∀ x ∈ c.exceptionTable.toList, False) (hst : l.stackTraces = false) : ∀ (n : Nat) (x1 : Int32) (x2 : Int32) (X : bsX), fX8_mostBoots_8  n x1 x2 X = some z → bsV p l e rmX8_mostBoots s m args below meth c 1 6 (vx_MQ below (bsXQi ρ cA dC dI Rz z s.heap.size) (bsXX ρ cA dC dI Rz z s.heap.size) args s rmX8_mostBoots.cells rmX8_mostBoots.slots (bsA ρ cA Rz s.heap.size)) ρ cA dC dI Rz 3 8 [(0, .ref (ρ 13 0 0)), (1, .int x1), (2, .int x2)] [] X := by
  intro n
  induction n with
  | zero => intro x1 x2 X hf; exact (nomatch hf)
  | succ n ih =>
    intro x1 x2 X hf
    rw [fX8_mostBoots_8] at hf
    refine v_iload_n C dX8_mostBoots_8 rfl rfl ?_
    refine v_bipush (v := 6) C dX8_mostBoots_9 (by decide) ?_
    refine v_icmp_ge (tgt := 54) C dX8_mostBoots_11 (by decide) (fun h6 => ?_) (fun h6 => ?_)
    · replace hf := bs_pos h6 hf
      refine v_iload_n C dX8_mostBoots_54 rfl rfl ?_
      exact v_tiret C hf (Nat.le_of_ble_eq_true rfl) (Nat.le_of_ble_eq_true rfl) dX8_mostBoots_55
    · replace hf := bs_neg h6 hf
      refine v_aload_n C dX8_mostBoots_14 rfl rfl ?_
      refine gf_X8_19 C dX8_mostBoots_15 ?_
      refine v_aload_n C dX8_mostBoots_18 rfl rfl ?_
      refine gf_X8_19 C dX8_mostBoots_19 ?_
      refine gf_X8_158 C (by decide) dX8_mostBoots_22 ?_
      refine v_iload_n C dX8_mostBoots_25 rfl rfl ?_
      obtain ⟨hi1, hf⟩ := bs_if hf
      refine v_aald (t0 := 3) (n := 6) C (bsm_K1 (by decide)) (bsc_K1 (by decide)) rfl hi1 rfl dX8_mostBoots_26 ?_
      obtain ⟨r2, hc3, hf⟩ := bs_bind hf
      refine v_callVi (y := yX3_isBootable) (As := [.ref (ρ 0 5 (bsIx x2))]) (rest := []) C (cX3_isBootable_ok (by decide) (bsIx_lt hi1) hc3) ml_X8_189 wyX3_isBootable (bsm_X3 (by decide)) (bsc_X3 (by decide)) rfl dpX3_isBootable ⟨Nat.le_of_ble_eq_true rfl, Nat.le_of_ble_eq_true rfl⟩ ⟨rfl, rfl⟩ ⟨Nat.le_of_ble_eq_true rfl, Nat.le_of_ble_eq_true rfl⟩ rfl (Nat.le_of_ble_eq_true rfl) dX8_mostBoots_27 ?_
      refine v_if_eq (tgt := 48) C dX8_mostBoots_30 (by decide) (fun h5 => ?_) (fun h5 => ?_)
      · replace hf := bs_pos h5 hf
        refine v_widen (k := 1) (n := 6) (Nat.le_of_ble_eq_true rfl) (Nat.le_of_ble_eq_true rfl) ?_
        refine v_sub [0, 1, 2] rfl ?_
        exact wX8_mostBoots_48  (fX8_mostBoots_8  n) C T0 hst (fun b0 b1 X  h => ih b0 b1 X  h) _ _ _  hf
      · replace hf := bs_neg h5 hf
        refine v_iload_n C dX8_mostBoots_33 rfl rfl ?_
        refine v_aload_n C dX8_mostBoots_34 rfl rfl ?_
        refine gf_X8_19 C dX8_mostBoots_35 ?_
        refine gf_X8_158 C (by decide) dX8_mostBoots_38 ?_
        refine v_iload_n C dX8_mostBoots_41 rfl rfl ?_
        refine v_aald (t0 := 3) (n := 6) C (bsm_K1 (by decide)) (bsc_K1 (by decide)) rfl hi1 rfl dX8_mostBoots_42 ?_
        refine gf_X8_180 C (by decide) (bsIx_lt hi1) dX8_mostBoots_43 ?_
        refine v_iadd C dX8_mostBoots_46 ?_
        refine v_istore_n (lv' := [(1, .int (x1 + (r2.2 0 5 (bsIx x2) 3))), (0, .ref (ρ 13 0 0)), (2, .int x2)]) C dX8_mostBoots_47 rfl (by decide) rfl ?_
        refine v_widen (k := 1) (n := 6) (Nat.le_of_ble_eq_true rfl) (Nat.le_of_ble_eq_true rfl) ?_
        refine v_sub [1, 0, 2] rfl ?_
        exact wX8_mostBoots_48  (fX8_mostBoots_8  n) C T0 hst (fun b0 b1 X  h => ih b0 b1 X  h) _ _ _  hf
set_option maxHeartbeats 4000000 in
set_option maxRecDepth 100000 in
theorem cX8_mostBoots_ok {l : Launch} {ρ : bsR} {cA : Nat → ClassId} {dC : Nat → ClassId} {dI : Nat → Nat → Nat} {Rz : va_W} (hst : l.stackTraces = false)  {X : bsX} {z : bsXr} (hf : fX8_mostBoots  X = some z) : bsTi l yX8_mostBoots cX8_mostBoots 3 (some .int) rmX8_mostBoots ρ cA dC dI Rz [.ref (ρ 13 0 0)] X z := by
  refine bsTi_of (by decide) (Nat.le_of_ble_eq_true rfl) (fun p e s m args below meth c C T0 => ?_)
  have C : bsCx p m c cX8_mostBoots 3 s args (Cond.code yX8_mostBoots cX8_mostBoots 3 (some .int) :: bsG) RX8 ρ cA dC dI Rz meth (some .int) := C
  rw [fX8_mostBoots] at hf
  refine v_sub [0] rfl ?_
  refine v_aload_n C dX8_mostBoots_0 rfl rfl ?_
  obtain ⟨r7, hc8, hf⟩ := bs_bind hf
  refine v_ticallVv (y := yX8_requireLoaded) (As := []) (rest := []) C T0 (cX8_requireLoaded_ok hst  hc8) ml_X8_82 wyX8_requireLoaded (bsm_X8) (bsc_X8) rfl dpX8_requireLoaded ⟨Nat.le_of_ble_eq_true rfl, Nat.le_of_ble_eq_true rfl⟩ ⟨Nat.le_of_ble_eq_true rfl, Nat.le_of_ble_eq_true rfl⟩ (Nat.le_of_ble_eq_true rfl) (Nat.le_of_ble_eq_true rfl) rfl (Nat.le_of_ble_eq_true rfl) dX8_mostBoots_1 (fun h => bs_neg h hf) (fun h9 => ?_)
  replace hf := bs_pos h9 hf
  refine v_iconst (v := 0) C dX8_mostBoots_4 (by decide) ?_
  refine v_istore_n (lv' := [(1, .int (0 : Int32)), (0, .ref (ρ 13 0 0))]) C dX8_mostBoots_5 rfl (by decide) rfl ?_
  refine v_iconst (v := 0) C dX8_mostBoots_6 (by decide) ?_
  refine v_istore_n (lv' := [(2, .int (0 : Int32)), (1, .int (0 : Int32)), (0, .ref (ρ 13 0 0))]) C dX8_mostBoots_7 rfl (by decide) rfl ?_
  refine v_widen (k := 1) (n := 6) (Nat.le_of_ble_eq_true rfl) (Nat.le_of_ble_eq_true rfl) ?_
  refine v_sub [2, 1, 0] rfl ?_
  exact wX8_mostBoots_8   C T0 hst  bsF _ _ _  hf
/-! BootSlots.bootsOf(I)I -/
def fX8_bootsOf_42 (k9 : Int32 → Int32 → Int32 → bsX → Option bsXr) (x1 : Int32) (x2 : Int32) (x3 : Int32) (X : bsX) : Option bsXr := k9 x1 x2 (x3 + (1 : Int32)) X
def fX8_bootsOf_9 : Nat → Int32 → Int32 → Int32 → bsX → Option bsXr
  | 0, _, _, _, _ => none
  | n + 1, x1, x2, x3, X => (fX0_kept 0  X).bind fun r1 => if r1.1 ≤ x3 then (some (0, x2, r1.2)) else (if bsIn x3 12 then (if (r1.2 0 10 0 (bsIx x3)) = x1 then (fX8_bootsOf_42  (fX8_bootsOf_9  n) x1 (x2 + (1 : Int32)) x3 r1.2) else (fX8_bootsOf_42  (fX8_bootsOf_9  n) x1 x2 x3 r1.2)) else none)
def fX8_bootsOf (a1 : Int32) (X : bsX) : Option bsXr := (fX8_requireSlot  a1 X).bind fun r6 => if r6.1 = 0 then (fX8_bootsOf_9   bsF a1 (0 : Int32) (0 : Int32) r6.2.2) else some (r6.1, (0 : Int32), r6.2.2)
abbrev rmX8_bootsOf : Room := { frames := 8, cells := 2, slots := 12, locals := 122 }
set_option maxHeartbeats 4000000 in
set_option maxRecDepth 100000 in
theorem wX8_bootsOf_42 {p : Program} {l : Launch} {e : Env} {s : State} {m : MethodId} {args : Array Value} {below : List Frame} {meth : Method} {c : Code} {ρ : bsR} {cA : Nat → ClassId} {dC : Nat → ClassId} {dI : Nat → Nat → Nat} {Rz : va_W} {Ts : List Cond}  (k9 : Int32 → Int32 → Int32 → bsX → Option bsXr)  {z : bsXr} (C : bsCx p m c cX8_bootsOf 4 s args Ts RX8 ρ cA dC dI Rz meth (some .int)) (T0 : ∀ x ∈ c.exceptionTable.toList, False) (hst : l.stackTraces = false) (hk9 : ∀ (x1 : Int32) (x2 : Int32) (x3 : Int32) (X : bsX), k9 x1 x2 x3 X = some z → bsV p l e rmX8_bootsOf s m args below meth c 2 12 (vx_MQ below (bsXQi ρ cA dC dI Rz z s.heap.size) (bsXX ρ cA dC dI Rz z s.heap.size) args s rmX8_bootsOf.cells rmX8_bootsOf.slots (bsA ρ cA Rz s.heap.size)) ρ cA dC dI Rz 4 9 [(0, .ref (ρ 13 0 0)), (1, .int x1), (2, .int x2), (3, .int x3)] [] X)  (x1 : Int32) (x2 : Int32) (x3 : Int32) (X : bsX) (hf : fX8_bootsOf_42 k9 x1 x2 x3 X = some z) : bsV p l e rmX8_bootsOf s m args below meth c 2 12 (vx_MQ below (bsXQi ρ cA dC dI Rz z s.heap.size) (bsXX ρ cA dC dI Rz z s.heap.size) args s rmX8_bootsOf.cells rmX8_bootsOf.slots (bsA ρ cA Rz s.heap.size)) ρ cA dC dI Rz 4 42 [(0, .ref (ρ 13 0 0)), (1, .int x1), (2, .int x2), (3, .int x3)] [] X := by
  rw [fX8_bootsOf_42] at hf
  refine v_iinc (k0 := 3) (v := (x3 + (1 : Int32))) (lv' := [(3, .int (x3 + (1 : Int32))), (0, .ref (ρ 13 0 0)), (1, .int x1), (2, .int x2)]) C dX8_bootsOf_42 rfl rfl (by decide) rfl ?_
  refine v_goto (tgt := 9) C dX8_bootsOf_45 (by decide) ?_
  refine v_widen (k := 2) (n := 12) (Nat.le_of_ble_eq_true rfl) (Nat.le_of_ble_eq_true rfl) ?_
  refine v_sub [1, 2, 3, 0] rfl ?_
  exact hk9 _ _ _ _  hf
set_option maxHeartbeats 4000000 in
set_option maxRecDepth 100000 in
theorem wX8_bootsOf_9 {p : Program} {l : Launch} {e : Env} {s : State} {m : MethodId} {args : Array Value} {below : List Frame} {meth : Method} {c : Code} {ρ : bsR} {cA : Nat → ClassId} {dC : Nat → ClassId} {dI : Nat → Nat → Nat} {Rz : va_W} {Ts : List Cond}   {z : bsXr} (C : bsCx p m c cX8_bootsOf 4 s args Ts RX8 ρ cA dC dI Rz meth (some .int)) (T0 : ∀ x ∈ c.exceptionTable.toList, False) (hst : l.stackTraces = false) : ∀ (n : Nat) (x1 : Int32) (x2 : Int32) (x3 : Int32) (X : bsX), fX8_bootsOf_9  n x1 x2 x3 X = some z → bsV p l e rmX8_bootsOf s m args below meth c 2 12 (vx_MQ below (bsXQi ρ cA dC dI Rz z s.heap.size) (bsXX ρ cA dC dI Rz z s.heap.size) args s rmX8_bootsOf.cells rmX8_bootsOf.slots (bsA ρ cA Rz s.heap.size)) ρ cA dC dI Rz 4 9 [(0, .ref (ρ 13 0 0)), (1, .int x1), (2, .int x2), (3, .int x3)] [] X := by
  intro n
  induction n with
  | zero => intro x1 x2 x3 X hf; exact (nomatch hf)
  | succ n ih =>
    intro x1 x2 x3 X hf
    rw [fX8_bootsOf_9] at hf
    refine v_iload_n C dX8_bootsOf_9 rfl rfl ?_
    refine v_aload_n C dX8_bootsOf_10 rfl rfl ?_
    refine gf_X8_19 C dX8_bootsOf_11 ?_
    refine gf_X8_119 C (by decide) dX8_bootsOf_14 ?_
    obtain ⟨r1, hc2, hf⟩ := bs_bind hf
    refine v_callVi (y := yX0_kept) (As := []) (rest := [.int x3]) C (cX0_kept_ok (by decide) hc2) ml_X8_274 wyX0_kept (bsm_X0 (by decide)) (bsc_X0 (by decide)) rfl dpX0_kept ⟨Nat.le_of_ble_eq_true rfl, Nat.le_of_ble_eq_true rfl⟩ ⟨rfl, rfl⟩ ⟨Nat.le_of_ble_eq_true rfl, Nat.le_of_ble_eq_true rfl⟩ rfl (Nat.le_of_ble_eq_true rfl) dX8_bootsOf_17 ?_
    refine v_icmp_ge (tgt := 48) C dX8_bootsOf_20 (by decide) (fun h5 => ?_) (fun h5 => ?_)
    · replace hf := bs_pos h5 hf
      refine v_iload_n C dX8_bootsOf_48 rfl rfl ?_
      exact v_tiret C hf (Nat.le_of_ble_eq_true rfl) (Nat.le_of_ble_eq_true rfl) dX8_bootsOf_49
    · replace hf := bs_neg h5 hf
      refine v_aload_n C dX8_bootsOf_23 rfl rfl ?_
      refine gf_X8_19 C dX8_bootsOf_24 ?_
      refine gf_X8_119 C (by decide) dX8_bootsOf_27 ?_
      refine gf_X8_248 C (by decide) dX8_bootsOf_30 ?_
      refine v_iload_n C dX8_bootsOf_33 rfl rfl ?_
      obtain ⟨hi3, hf⟩ := bs_if hf
      refine v_iald (n := 12) C (bsm_K10 (by decide)) (bsc_K10 (by decide)) hi3 dX8_bootsOf_34 ?_
      refine v_iload_n C dX8_bootsOf_35 rfl rfl ?_
      refine v_icmp_ne (tgt := 42) C dX8_bootsOf_36 (by decide) (fun h4 => ?_) (fun h4 => ?_)
      · replace hf := bs_neg h4 hf
        refine v_widen (k := 2) (n := 12) (Nat.le_of_ble_eq_true rfl) (Nat.le_of_ble_eq_true rfl) ?_
        refine v_sub [0, 1, 2, 3] rfl ?_
        exact wX8_bootsOf_42  (fX8_bootsOf_9  n) C T0 hst (fun b0 b1 b2 X  h => ih b0 b1 b2 X  h) _ _ _ _  hf
      · replace hf := bs_pos h4 hf
        refine v_iinc (k0 := 2) (v := (x2 + (1 : Int32))) (lv' := [(2, .int (x2 + (1 : Int32))), (0, .ref (ρ 13 0 0)), (1, .int x1), (3, .int x3)]) C dX8_bootsOf_39 rfl rfl (by decide) rfl ?_
        refine v_widen (k := 2) (n := 12) (Nat.le_of_ble_eq_true rfl) (Nat.le_of_ble_eq_true rfl) ?_
        refine v_sub [1, 2, 0, 3] rfl ?_
        exact wX8_bootsOf_42  (fX8_bootsOf_9  n) C T0 hst (fun b0 b1 b2 X  h => ih b0 b1 b2 X  h) _ _ _ _  hf
set_option maxHeartbeats 4000000 in
set_option maxRecDepth 100000 in
theorem cX8_bootsOf_ok {l : Launch} {ρ : bsR} {cA : Nat → ClassId} {dC : Nat → ClassId} {dI : Nat → Nat → Nat} {Rz : va_W} (hst : l.stackTraces = false)  {a1 : Int32} {X : bsX} {z : bsXr} (hf : fX8_bootsOf a1 X = some z) : bsTi l yX8_bootsOf cX8_bootsOf 4 (some .int) rmX8_bootsOf ρ cA dC dI Rz [.ref (ρ 13 0 0), .int a1] X z := by
  refine bsTi_of (by decide) (Nat.le_of_ble_eq_true rfl) (fun p e s m args below meth c C T0 => ?_)
  have C : bsCx p m c cX8_bootsOf 4 s args (Cond.code yX8_bootsOf cX8_bootsOf 4 (some .int) :: bsG) RX8 ρ cA dC dI Rz meth (some .int) := C
  rw [fX8_bootsOf] at hf
  refine v_sub [0, 1] rfl ?_
  refine v_aload_n C dX8_bootsOf_0 rfl rfl ?_
  refine v_iload_n C dX8_bootsOf_1 rfl rfl ?_
  obtain ⟨r6, hc7, hf⟩ := bs_bind hf
  refine v_ticallVv (y := yX8_requireSlot) (As := [.int a1]) (rest := []) C T0 (cX8_requireSlot_ok hst  hc7) ml_X8_155 wyX8_requireSlot (bsm_X8) (bsc_X8) rfl dpX8_requireSlot ⟨Nat.le_of_ble_eq_true rfl, Nat.le_of_ble_eq_true rfl⟩ ⟨Nat.le_of_ble_eq_true rfl, Nat.le_of_ble_eq_true rfl⟩ (Nat.le_of_ble_eq_true rfl) (Nat.le_of_ble_eq_true rfl) rfl (Nat.le_of_ble_eq_true rfl) dX8_bootsOf_2 (fun h => bs_neg h hf) (fun h8 => ?_)
  replace hf := bs_pos h8 hf
  refine v_iconst (v := 0) C dX8_bootsOf_5 (by decide) ?_
  refine v_istore_n (lv' := [(2, .int (0 : Int32)), (0, .ref (ρ 13 0 0)), (1, .int a1)]) C dX8_bootsOf_6 rfl (by decide) rfl ?_
  refine v_iconst (v := 0) C dX8_bootsOf_7 (by decide) ?_
  refine v_istore_n (lv' := [(3, .int (0 : Int32)), (2, .int (0 : Int32)), (0, .ref (ρ 13 0 0)), (1, .int a1)]) C dX8_bootsOf_8 rfl (by decide) rfl ?_
  refine v_widen (k := 2) (n := 12) (Nat.le_of_ble_eq_true rfl) (Nat.le_of_ble_eq_true rfl) ?_
  refine v_sub [2, 3, 1, 0] rfl ?_
  exact wX8_bootsOf_9   C T0 hst  bsF _ _ _ _  hf
/-! BootSlots.lookAhead(I)V -/
def fX8_lookAhead (a1 : Int32) (X : bsX) : Option bsXr := (fX8_requireLoaded   X).bind fun r1 => if r1.1 = 0 then ((fX8_requireWithin  a1 (0 : Int32) (300 : Int32) r1.2.2).bind fun r4 => if r4.1 = 0 then ((fX3_copyFrom 1 0  r4.2.2).bind fun r7 => (fX3_settle 1 a1 r7).bind fun r9 => some (0, (0 : Int32), r9)) else some (r4.1, (0 : Int32), r4.2.2)) else some (r1.1, (0 : Int32), r1.2.2)
abbrev rmX8_lookAhead : Room := { frames := 7, cells := 2, slots := 12, locals := 130 }
set_option maxHeartbeats 4000000 in
set_option maxRecDepth 100000 in
theorem cX8_lookAhead_ok {l : Launch} {ρ : bsR} {cA : Nat → ClassId} {dC : Nat → ClassId} {dI : Nat → Nat → Nat} {Rz : va_W} (hst : l.stackTraces = false)  {a1 : Int32} {X : bsX} {z : bsXr} (hf : fX8_lookAhead a1 X = some z) : bsTv l yX8_lookAhead cX8_lookAhead 2 none rmX8_lookAhead ρ cA dC dI Rz [.ref (ρ 13 0 0), .int a1] X z := by
  refine bsTv_of (by decide) (Nat.le_of_ble_eq_true rfl) (fun p e s m args below meth c C T0 => ?_)
  have C : bsCx p m c cX8_lookAhead 2 s args (Cond.code yX8_lookAhead cX8_lookAhead 2 none :: bsG) RX8 ρ cA dC dI Rz meth none := C
  rw [fX8_lookAhead] at hf
  refine v_sub [0, 1] rfl ?_
  refine v_aload_n C dX8_lookAhead_0 rfl rfl ?_
  obtain ⟨r1, hc2, hf⟩ := bs_bind hf
  refine v_tvcallVv (y := yX8_requireLoaded) (As := []) (rest := []) C T0 (cX8_requireLoaded_ok hst  hc2) ml_X8_82 wyX8_requireLoaded (bsm_X8) (bsc_X8) rfl dpX8_requireLoaded ⟨Nat.le_of_ble_eq_true rfl, Nat.le_of_ble_eq_true rfl⟩ ⟨Nat.le_of_ble_eq_true rfl, Nat.le_of_ble_eq_true rfl⟩ (Nat.le_of_ble_eq_true rfl) (Nat.le_of_ble_eq_true rfl) rfl (Nat.le_of_ble_eq_true rfl) dX8_lookAhead_1 (fun h => bs_neg h hf) (fun h3 => ?_)
  replace hf := bs_pos h3 hf
  refine v_iload_n C dX8_lookAhead_4 rfl rfl ?_
  refine v_iconst (v := 0) C dX8_lookAhead_5 (by decide) ?_
  refine v_sipush (v := 300) C dX8_lookAhead_6 (by decide) ?_
  obtain ⟨r4, hc5, hf⟩ := bs_bind hf
  refine v_tvcallSv (y := yX8_requireWithin) (As := [.int a1, .int (0 : Int32), .int (300 : Int32)]) (rest := []) C T0 (cX8_requireWithin_ok hst  hc5) ml_X8_198 wzX8_requireWithin dpX8_requireWithin ⟨Nat.le_of_ble_eq_true rfl, Nat.le_of_ble_eq_true rfl⟩ ⟨Nat.le_of_ble_eq_true rfl, Nat.le_of_ble_eq_true rfl⟩ (Nat.le_of_ble_eq_true rfl) (Nat.le_of_ble_eq_true rfl) rfl (Nat.le_of_ble_eq_true rfl) dX8_lookAhead_9 (fun h => bs_neg h hf) (fun h6 => ?_)
  replace hf := bs_pos h6 hf
  refine v_aload_n C dX8_lookAhead_12 rfl rfl ?_
  refine gf_X8_23 C dX8_lookAhead_13 ?_
  refine v_aload_n C dX8_lookAhead_16 rfl rfl ?_
  refine gf_X8_19 C dX8_lookAhead_17 ?_
  obtain ⟨r7, hc8, hf⟩ := bs_bind hf
  refine v_callVv (y := yX3_copyFrom) (As := [.ref (ρ 0 0 0)]) (rest := []) C (cX3_copyFrom_ok (by decide) (by decide) hc8) ml_X8_65 wyX3_copyFrom (bsm_X3 (by decide)) (bsc_X3 (by decide)) rfl dpX3_copyFrom ⟨Nat.le_of_ble_eq_true rfl, Nat.le_of_ble_eq_true rfl⟩ ⟨rfl, rfl⟩ ⟨Nat.le_of_ble_eq_true rfl, Nat.le_of_ble_eq_true rfl⟩ rfl (Nat.le_of_ble_eq_true rfl) dX8_lookAhead_20 ?_
  refine v_aload_n C dX8_lookAhead_23 rfl rfl ?_
  refine gf_X8_23 C dX8_lookAhead_24 ?_
  refine v_iload_n C dX8_lookAhead_27 rfl rfl ?_
  obtain ⟨r9, hc10, hf⟩ := bs_bind hf
  refine v_callVv (y := yX3_settle) (As := [.int a1]) (rest := []) C (cX3_settle_ok (by decide) hc10) ml_X8_295 wyX3_settle (bsm_X3 (by decide)) (bsc_X3 (by decide)) rfl dpX3_settle ⟨Nat.le_of_ble_eq_true rfl, Nat.le_of_ble_eq_true rfl⟩ ⟨rfl, rfl⟩ ⟨Nat.le_of_ble_eq_true rfl, Nat.le_of_ble_eq_true rfl⟩ rfl (Nat.le_of_ble_eq_true rfl) dX8_lookAhead_28 ?_
  exact v_tvret C hf (Nat.le_of_ble_eq_true rfl) (Nat.le_of_ble_eq_true rfl) dX8_lookAhead_31
/-! BootSlots.stateIn(I)I -/
def fX8_stateIn (a1 : Int32) (X : bsX) : Option bsXr := (fX8_lookAhead  a1 X).bind fun r1 => if r1.1 = 0 then ((fX3_state 1  r1.2.2).bind fun r4 => some (0, r4.1, r4.2)) else some (r1.1, (0 : Int32), r1.2.2)
abbrev rmX8_stateIn : Room := { frames := 8, cells := 2, slots := 12, locals := 151 }
set_option maxHeartbeats 4000000 in
set_option maxRecDepth 100000 in
theorem cX8_stateIn_ok {l : Launch} {ρ : bsR} {cA : Nat → ClassId} {dC : Nat → ClassId} {dI : Nat → Nat → Nat} {Rz : va_W} (hst : l.stackTraces = false)  {a1 : Int32} {X : bsX} {z : bsXr} (hf : fX8_stateIn a1 X = some z) : bsTi l yX8_stateIn cX8_stateIn 2 (some .int) rmX8_stateIn ρ cA dC dI Rz [.ref (ρ 13 0 0), .int a1] X z := by
  refine bsTi_of (by decide) (Nat.le_of_ble_eq_true rfl) (fun p e s m args below meth c C T0 => ?_)
  have C : bsCx p m c cX8_stateIn 2 s args (Cond.code yX8_stateIn cX8_stateIn 2 (some .int) :: bsG) RX8 ρ cA dC dI Rz meth (some .int) := C
  rw [fX8_stateIn] at hf
  refine v_sub [0, 1] rfl ?_
  refine v_aload_n C dX8_stateIn_0 rfl rfl ?_
  refine v_iload_n C dX8_stateIn_1 rfl rfl ?_
  obtain ⟨r1, hc2, hf⟩ := bs_bind hf
  refine v_ticallVv (y := yX8_lookAhead) (As := [.int a1]) (rest := []) C T0 (cX8_lookAhead_ok hst  hc2) ml_X8_277 wyX8_lookAhead (bsm_X8) (bsc_X8) rfl dpX8_lookAhead ⟨Nat.le_of_ble_eq_true rfl, Nat.le_of_ble_eq_true rfl⟩ ⟨Nat.le_of_ble_eq_true rfl, Nat.le_of_ble_eq_true rfl⟩ (Nat.le_of_ble_eq_true rfl) (Nat.le_of_ble_eq_true rfl) rfl (Nat.le_of_ble_eq_true rfl) dX8_stateIn_2 (fun h => bs_neg h hf) (fun h3 => ?_)
  replace hf := bs_pos h3 hf
  refine v_aload_n C dX8_stateIn_5 rfl rfl ?_
  refine gf_X8_23 C dX8_stateIn_6 ?_
  obtain ⟨r4, hc5, hf⟩ := bs_bind hf
  refine v_callVi (y := yX3_state) (As := []) (rest := []) C (cX3_state_ok (by decide) hc5) ml_X8_100 wyX3_state (bsm_X3 (by decide)) (bsc_X3 (by decide)) rfl dpX3_state ⟨Nat.le_of_ble_eq_true rfl, Nat.le_of_ble_eq_true rfl⟩ ⟨rfl, rfl⟩ ⟨Nat.le_of_ble_eq_true rfl, Nat.le_of_ble_eq_true rfl⟩ rfl (Nat.le_of_ble_eq_true rfl) dX8_stateIn_9 ?_
  exact v_tiret C hf (Nat.le_of_ble_eq_true rfl) (Nat.le_of_ble_eq_true rfl) dX8_stateIn_12
