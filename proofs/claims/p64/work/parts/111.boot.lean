theorem ml_X8_286 : Cond.methodLink RX8 286 yX3_passTick ∈ bsG := bsG_in 1165 (by decide +kernel) rfl
theorem ml_X8_298 : Cond.methodLink RX8 298 yX3_bootBy ∈ bsG := bsG_in 1112 (by decide +kernel) rfl
theorem ml_X8_301 : Cond.methodLink RX8 301 yX8_bootAndSettle ∈ bsG := bsG_in 1280 (by decide +kernel) rfl
theorem ml_X8_307 : Cond.methodLink RX8 307 yX5_makeEmpty ∈ bsG := bsG_in 1215 (by decide +kernel) rfl
theorem ml_X8_310 : Cond.methodLink RX8 310 yX2_set ∈ bsG := bsG_in 1220 (by decide +kernel) rfl
theorem ml_X8_314 : Cond.methodLink RX8 314 yX1_set ∈ bsG := bsG_in 1224 (by decide +kernel) rfl
theorem ml_X8_316 : Cond.methodLink RX8 316 yX3_takeInstall ∈ bsG := bsG_in 1279 (by decide +kernel) rfl
theorem ml_X8_319 : Cond.methodLink RX8 319 yX5_isBootableFrom ∈ bsG := bsG_in 1419 (by decide +kernel) rfl
theorem ml_X8_326 : Cond.methodLink RX8 326 yX7_clear ∈ bsG := bsG_in 1483 (by decide +kernel) rfl
theorem ml_X8_329 : Cond.methodLink RX8 329 yX7_put ∈ bsG := bsG_in 1487 (by decide +kernel) rfl
theorem ml_X8_333 : Cond.methodLink RX8 333 yX8_writeSlot ∈ bsG := bsG_in 1491 (by decide +kernel) rfl
theorem ml_X8_340 : Cond.methodLink RX8 340 yX7_putNumber ∈ bsG := bsG_in 1495 (by decide +kernel) rfl
theorem ml_X8_346 : Cond.methodLink RX8 346 yX8_writeBoot ∈ bsG := bsG_in 1576 (by decide +kernel) rfl
theorem ml_X8_351 : Cond.methodLink RX8 351 yJ0_length_8abf5 ∈ bsG := bsG_in 1581 (by decide +kernel) rfl
theorem ml_X8_355 : Cond.methodLink RX8 355 yJ0_charAt_5068e ∈ bsG := bsG_in 1582 (by decide +kernel) rfl
theorem ml_X8_360 : Cond.methodLink RX8 360 yX7_putWord ∈ bsG := bsG_in 1589 (by decide +kernel) rfl
theorem ml_X8_364 : Cond.methodLink RX8 364 yX7_putBlankAndNumber ∈ bsG := bsG_in 1595 (by decide +kernel) rfl
theorem ml_X8_369 : Cond.methodLink RX8 369 yX8_writeImageLine ∈ bsG := bsG_in 1601 (by decide +kernel) rfl
theorem ml_X8_372 : Cond.methodLink RX8 372 yX8_writeMarkLine ∈ bsG := bsG_in 1608 (by decide +kernel) rfl
theorem ml_X8_392 : Cond.methodLink RX8 392 yX8_remember ∈ bsG := bsG_in 1107 (by decide +kernel) rfl
theorem ml_X8_395 : Cond.methodLink RX8 395 yX8_requireOn ∈ bsG := bsG_in 1140 (by decide +kernel) rfl
theorem ml_X8_398 : Cond.methodLink RX8 398 yX3_switchOff ∈ bsG := bsG_in 1144 (by decide +kernel) rfl
theorem ml_X8_401 : Cond.methodLink RX8 401 yX8_setWatch ∈ bsG := bsG_in 1241 (by decide +kernel) rfl
theorem ml_X8_404 : Cond.methodLink RX8 404 yX8_setLimit ∈ bsG := bsG_in 1245 (by decide +kernel) rfl
theorem ml_X8_407 : Cond.methodLink RX8 407 yX8_setRetry ∈ bsG := bsG_in 1249 (by decide +kernel) rfl
theorem ml_X8_410 : Cond.methodLink RX8 410 yX8_setFloor ∈ bsG := bsG_in 1253 (by decide +kernel) rfl
theorem dpX2_set : (parseMethodDescriptor yX2_set.desc).map (fun d => d.parameters.length) = some 2 := by decide +kernel
theorem wyX2_set : bsWy yX2_set cX2_set 3 none := ⟨bsG_in 1221 (by decide +kernel) rfl, bsG_in 1222 (by decide +kernel) rfl, bsG_in 55 (by decide +kernel) rfl, bsG_in 1223 (by decide +kernel) rfl, by decide +kernel, by decide +kernel⟩
theorem dpX3_switchOff : (parseMethodDescriptor yX3_switchOff.desc).map (fun d => d.parameters.length) = some 0 := by decide +kernel
theorem wyX3_switchOff : bsWy yX3_switchOff cX3_switchOff 1 none := ⟨bsG_in 1145 (by decide +kernel) rfl, bsG_in 1146 (by decide +kernel) rfl, bsG_in 54 (by decide +kernel) rfl, bsG_in 1147 (by decide +kernel) rfl, by decide +kernel, by decide +kernel⟩
theorem dpX5_makeEmpty : (parseMethodDescriptor yX5_makeEmpty.desc).map (fun d => d.parameters.length) = some 0 := by decide +kernel
theorem wyX5_makeEmpty : bsWy yX5_makeEmpty cX5_makeEmpty 1 none := ⟨bsG_in 1216 (by decide +kernel) rfl, bsG_in 1217 (by decide +kernel) rfl, bsG_in 59 (by decide +kernel) rfl, bsG_in 1218 (by decide +kernel) rfl, by decide +kernel, by decide +kernel⟩
theorem dpX7_clear : (parseMethodDescriptor yX7_clear.desc).map (fun d => d.parameters.length) = some 0 := by decide +kernel
theorem wyX7_clear : bsWy yX7_clear cX7_clear 1 none := ⟨bsG_in 1484 (by decide +kernel) rfl, bsG_in 1485 (by decide +kernel) rfl, bsG_in 60 (by decide +kernel) rfl, bsG_in 1486 (by decide +kernel) rfl, by decide +kernel, by decide +kernel⟩
theorem dpX7_putBlankAndNumber : (parseMethodDescriptor yX7_putBlankAndNumber.desc).map (fun d => d.parameters.length) = some 1 := by decide +kernel
theorem wyX7_putBlankAndNumber : bsWy yX7_putBlankAndNumber cX7_putBlankAndNumber 2 none := ⟨bsG_in 1596 (by decide +kernel) rfl, bsG_in 1597 (by decide +kernel) rfl, bsG_in 60 (by decide +kernel) rfl, bsG_in 1598 (by decide +kernel) rfl, by decide +kernel, by decide +kernel⟩
theorem dpX7_putWord : (parseMethodDescriptor yX7_putWord.desc).map (fun d => d.parameters.length) = some 1 := by decide +kernel
theorem wyX7_putWord : bsWy yX7_putWord cX7_putWord 3 none := ⟨bsG_in 1590 (by decide +kernel) rfl, bsG_in 1591 (by decide +kernel) rfl, bsG_in 60 (by decide +kernel) rfl, bsG_in 1592 (by decide +kernel) rfl, by decide +kernel, by decide +kernel⟩
theorem dpX8_bootAndSettle : (parseMethodDescriptor yX8_bootAndSettle.desc).map (fun d => d.parameters.length) = some 0 := by decide +kernel
theorem wyX8_bootAndSettle : bsWy yX8_bootAndSettle cX8_bootAndSettle 1 (some .int) := ⟨bsG_in 1282 (by decide +kernel) rfl, bsG_in 29 (by decide +kernel) rfl, bsG_in 52 (by decide +kernel) rfl, bsG_in 1283 (by decide +kernel) rfl, by decide +kernel, by decide +kernel⟩
theorem dpX8_remember : (parseMethodDescriptor yX8_remember.desc).map (fun d => d.parameters.length) = some 0 := by decide +kernel
theorem wyX8_remember : bsWy yX8_remember cX8_remember 1 none := ⟨bsG_in 1109 (by decide +kernel) rfl, bsG_in 16 (by decide +kernel) rfl, bsG_in 52 (by decide +kernel) rfl, bsG_in 1110 (by decide +kernel) rfl, by decide +kernel, by decide +kernel⟩
theorem dpX8_requireOn : (parseMethodDescriptor yX8_requireOn.desc).map (fun d => d.parameters.length) = some 0 := by decide +kernel
theorem wyX8_requireOn : bsWy yX8_requireOn cX8_requireOn 1 none := ⟨bsG_in 1142 (by decide +kernel) rfl, bsG_in 18 (by decide +kernel) rfl, bsG_in 52 (by decide +kernel) rfl, bsG_in 1143 (by decide +kernel) rfl, by decide +kernel, by decide +kernel⟩
theorem dpX8_setFloor : (parseMethodDescriptor yX8_setFloor.desc).map (fun d => d.parameters.length) = some 1 := by decide +kernel
theorem wyX8_setFloor : bsWy yX8_setFloor cX8_setFloor 3 (some .int) := ⟨bsG_in 1255 (by decide +kernel) rfl, bsG_in 27 (by decide +kernel) rfl, bsG_in 52 (by decide +kernel) rfl, bsG_in 1256 (by decide +kernel) rfl, by decide +kernel, by decide +kernel⟩
theorem dpX8_setLimit : (parseMethodDescriptor yX8_setLimit.desc).map (fun d => d.parameters.length) = some 1 := by decide +kernel
theorem wyX8_setLimit : bsWy yX8_setLimit cX8_setLimit 3 (some .int) := ⟨bsG_in 1247 (by decide +kernel) rfl, bsG_in 25 (by decide +kernel) rfl, bsG_in 52 (by decide +kernel) rfl, bsG_in 1248 (by decide +kernel) rfl, by decide +kernel, by decide +kernel⟩
theorem dpX8_setRetry : (parseMethodDescriptor yX8_setRetry.desc).map (fun d => d.parameters.length) = some 1 := by decide +kernel
theorem wyX8_setRetry : bsWy yX8_setRetry cX8_setRetry 3 (some .int) := ⟨bsG_in 1251 (by decide +kernel) rfl, bsG_in 26 (by decide +kernel) rfl, bsG_in 52 (by decide +kernel) rfl, bsG_in 1252 (by decide +kernel) rfl, by decide +kernel, by decide +kernel⟩
theorem dpX8_setWatch : (parseMethodDescriptor yX8_setWatch.desc).map (fun d => d.parameters.length) = some 1 := by decide +kernel
theorem wyX8_setWatch : bsWy yX8_setWatch cX8_setWatch 3 (some .int) := ⟨bsG_in 1243 (by decide +kernel) rfl, bsG_in 24 (by decide +kernel) rfl, bsG_in 52 (by decide +kernel) rfl, bsG_in 1244 (by decide +kernel) rfl, by decide +kernel, by decide +kernel⟩
theorem dpX8_writeBoot : (parseMethodDescriptor yX8_writeBoot.desc).map (fun d => d.parameters.length) = some 1 := by decide +kernel
theorem wyX8_writeBoot : bsWy yX8_writeBoot cX8_writeBoot 3 none := ⟨bsG_in 1578 (by decide +kernel) rfl, bsG_in 34 (by decide +kernel) rfl, bsG_in 52 (by decide +kernel) rfl, bsG_in 1579 (by decide +kernel) rfl, by decide +kernel, by decide +kernel⟩
theorem dpX8_writeImageLine : (parseMethodDescriptor yX8_writeImageLine.desc).map (fun d => d.parameters.length) = some 1 := by decide +kernel
theorem wyX8_writeImageLine : bsWy yX8_writeImageLine cX8_writeImageLine 2 none := ⟨bsG_in 1603 (by decide +kernel) rfl, bsG_in 35 (by decide +kernel) rfl, bsG_in 52 (by decide +kernel) rfl, bsG_in 1604 (by decide +kernel) rfl, by decide +kernel, by decide +kernel⟩
theorem dpX8_writeMarkLine : (parseMethodDescriptor yX8_writeMarkLine.desc).map (fun d => d.parameters.length) = some 1 := by decide +kernel
theorem wyX8_writeMarkLine : bsWy yX8_writeMarkLine cX8_writeMarkLine 2 none := ⟨bsG_in 1610 (by decide +kernel) rfl, bsG_in 36 (by decide +kernel) rfl, bsG_in 52 (by decide +kernel) rfl, bsG_in 1611 (by decide +kernel) rfl, by decide +kernel, by decide +kernel⟩
theorem dpX8_writeSlot : (parseMethodDescriptor yX8_writeSlot.desc).map (fun d => d.parameters.length) = some 1 := by decide +kernel
theorem wyX8_writeSlot : bsWy yX8_writeSlot cX8_writeSlot 2 none := ⟨bsG_in 1493 (by decide +kernel) rfl, bsG_in 33 (by decide +kernel) rfl, bsG_in 52 (by decide +kernel) rfl, bsG_in 1494 (by decide +kernel) rfl, by decide +kernel, by decide +kernel⟩
theorem mm_X8_422 : Cond.methodLink RX8 422 Lib.Math.min.name ∈ bsG := bsG_in 1111 (by decide +kernel) rfl
/-! BootSlots.bootAndSettle()I -/
def fX8_bootAndSettle (X : bsX) : Option (Int32 × bsX) := (fX3_bootBy 1 (1 : Int32) X).bind fun r1 => (fX3_settle 1 (300 : Int32) r1.2).bind fun r3 => some ((r3 1 0 0 11), r3)
abbrev rmX8_bootAndSettle : Room := { frames := 6, cells := 0, slots := 0, locals := 130 }
set_option maxHeartbeats 4000000 in
set_option maxRecDepth 100000 in
theorem cX8_bootAndSettle_ok {l : Launch} {ρ : bsR} {cA : Nat → ClassId} {dC : Nat → ClassId} {dI : Nat → Nat → Nat} {Rz : va_W}  {X : bsX} {z : (Int32 × bsX)} (hf : fX8_bootAndSettle  X = some z) : bsMi l yX8_bootAndSettle cX8_bootAndSettle 1 (some .int) rmX8_bootAndSettle ρ cA dC dI Rz [.ref (ρ 13 0 0)] X z := by
  refine bsMi_of (by decide) (Nat.le_of_ble_eq_true rfl) (fun p e s m args below meth c C => ?_)
  have C : bsCx p m c cX8_bootAndSettle 1 s args (Cond.code yX8_bootAndSettle cX8_bootAndSettle 1 (some .int) :: bsG) RX8 ρ cA dC dI Rz meth (some .int) := C
  rw [fX8_bootAndSettle] at hf
  refine v_sub [0] rfl ?_
  refine v_aload_n C dX8_bootAndSettle_0 rfl rfl ?_
  refine gf_X8_23 C dX8_bootAndSettle_1 ?_
  refine v_iconst (v := 1) C dX8_bootAndSettle_4 (by decide) ?_
  obtain ⟨r1, hc2, hf⟩ := bs_bind hf
  refine v_callVi (y := yX3_bootBy) (As := [.int (1 : Int32)]) (rest := []) C (cX3_bootBy_ok (by decide) hc2) ml_X8_298 wyX3_bootBy (bsm_X3 (by decide)) (bsc_X3 (by decide)) rfl dpX3_bootBy ⟨Nat.le_of_ble_eq_true rfl, Nat.le_of_ble_eq_true rfl⟩ ⟨rfl, rfl⟩ ⟨Nat.le_of_ble_eq_true rfl, Nat.le_of_ble_eq_true rfl⟩ rfl (Nat.le_of_ble_eq_true rfl) dX8_bootAndSettle_5 ?_
  refine v_pop C dX8_bootAndSettle_8 rfl ?_
  refine v_aload_n C dX8_bootAndSettle_9 rfl rfl ?_
  refine gf_X8_23 C dX8_bootAndSettle_10 ?_
  refine v_sipush (v := 300) C dX8_bootAndSettle_13 (by decide) ?_
  obtain ⟨r3, hc4, hf⟩ := bs_bind hf
  refine v_callVv (y := yX3_settle) (As := [.int (300 : Int32)]) (rest := []) C (cX3_settle_ok (by decide) hc4) ml_X8_295 wyX3_settle (bsm_X3 (by decide)) (bsc_X3 (by decide)) rfl dpX3_settle ⟨Nat.le_of_ble_eq_true rfl, Nat.le_of_ble_eq_true rfl⟩ ⟨rfl, rfl⟩ ⟨Nat.le_of_ble_eq_true rfl, Nat.le_of_ble_eq_true rfl⟩ rfl (Nat.le_of_ble_eq_true rfl) dX8_bootAndSettle_16 ?_
  refine v_aload_n C dX8_bootAndSettle_19 rfl rfl ?_
  refine gf_X8_23 C dX8_bootAndSettle_20 ?_
  refine gf_X8_104 C (by decide) dX8_bootAndSettle_23 ?_
  exact v_iret C hf dX8_bootAndSettle_26
/-! BootSlots.ifInstalled(III)I -/
def fX8_ifInstalled (a1 : Int32) (a2 : Int32) (a3 : Int32) (X : bsX) : Option bsXr := (fX8_requireSlot  a1 X).bind fun r1 => if r1.1 = 0 then ((fX8_requireWithin  a2 (0 : Int32) (99 : Int32) r1.2.2).bind fun r4 => if r4.1 = 0 then ((fX8_requireWithin  a3 (1 : Int32) (99 : Int32) r4.2.2).bind fun r7 => if r7.1 = 0 then ((fX3_copyFrom 1 0  r7.2.2).bind fun r10 => (fX2_set 1 a1 (1 : Int32) r10).bind fun r12 => (fX1_set 1 6 a2 a3 (0 : Int32) r12).bind fun r14 => (fX3_takeInstall 1  r14).bind fun r16 => (fX8_bootAndSettle   r16).bind fun r18 => some (0, r18.1, r18.2)) else some (r7.1, (0 : Int32), r7.2.2)) else some (r4.1, (0 : Int32), r4.2.2)) else some (r1.1, (0 : Int32), r1.2.2)
abbrev rmX8_ifInstalled : Room := { frames := 8, cells := 4, slots := 24, locals := 150 }
set_option maxHeartbeats 4000000 in
set_option maxRecDepth 100000 in
theorem cX8_ifInstalled_ok {l : Launch} {ρ : bsR} {cA : Nat → ClassId} {dC : Nat → ClassId} {dI : Nat → Nat → Nat} {Rz : va_W} (hst : l.stackTraces = false)  {a1 : Int32} {a2 : Int32} {a3 : Int32} {X : bsX} {z : bsXr} (hf : fX8_ifInstalled a1 a2 a3 X = some z) : bsTi l yX8_ifInstalled cX8_ifInstalled 4 (some .int) rmX8_ifInstalled ρ cA dC dI Rz [.ref (ρ 13 0 0), .int a1, .int a2, .int a3] X z := by
  refine bsTi_of (by decide) (Nat.le_of_ble_eq_true rfl) (fun p e s m args below meth c C T0 => ?_)
  have C : bsCx p m c cX8_ifInstalled 4 s args (Cond.code yX8_ifInstalled cX8_ifInstalled 4 (some .int) :: bsG) RX8 ρ cA dC dI Rz meth (some .int) := C
  rw [fX8_ifInstalled] at hf
  refine v_sub [0, 1, 2, 3] rfl ?_
  refine v_aload_n C dX8_ifInstalled_0 rfl rfl ?_
  refine v_iload_n C dX8_ifInstalled_1 rfl rfl ?_
  obtain ⟨r1, hc2, hf⟩ := bs_bind hf
  refine v_ticallVv (y := yX8_requireSlot) (As := [.int a1]) (rest := []) C T0 (cX8_requireSlot_ok hst  hc2) ml_X8_155 wyX8_requireSlot (bsm_X8) (bsc_X8) rfl dpX8_requireSlot ⟨Nat.le_of_ble_eq_true rfl, Nat.le_of_ble_eq_true rfl⟩ ⟨Nat.le_of_ble_eq_true rfl, Nat.le_of_ble_eq_true rfl⟩ (Nat.le_of_ble_eq_true rfl) (Nat.le_of_ble_eq_true rfl) rfl (Nat.le_of_ble_eq_true rfl) dX8_ifInstalled_2 (fun h => bs_neg h hf) (fun h3 => ?_)
  replace hf := bs_pos h3 hf
  refine v_iload_n C dX8_ifInstalled_5 rfl rfl ?_
  refine v_iconst (v := 0) C dX8_ifInstalled_6 (by decide) ?_
  refine v_bipush (v := 99) C dX8_ifInstalled_7 (by decide) ?_
  obtain ⟨r4, hc5, hf⟩ := bs_bind hf
  refine v_ticallSv (y := yX8_requireWithin) (As := [.int a2, .int (0 : Int32), .int (99 : Int32)]) (rest := []) C T0 (cX8_requireWithin_ok hst  hc5) ml_X8_198 wzX8_requireWithin dpX8_requireWithin ⟨Nat.le_of_ble_eq_true rfl, Nat.le_of_ble_eq_true rfl⟩ ⟨Nat.le_of_ble_eq_true rfl, Nat.le_of_ble_eq_true rfl⟩ (Nat.le_of_ble_eq_true rfl) (Nat.le_of_ble_eq_true rfl) rfl (Nat.le_of_ble_eq_true rfl) dX8_ifInstalled_9 (fun h => bs_neg h hf) (fun h6 => ?_)
  replace hf := bs_pos h6 hf
  refine v_iload_n C dX8_ifInstalled_12 rfl rfl ?_
  refine v_iconst (v := 1) C dX8_ifInstalled_13 (by decide) ?_
  refine v_bipush (v := 99) C dX8_ifInstalled_14 (by decide) ?_
  obtain ⟨r7, hc8, hf⟩ := bs_bind hf
  refine v_ticallSv (y := yX8_requireWithin) (As := [.int a3, .int (1 : Int32), .int (99 : Int32)]) (rest := []) C T0 (cX8_requireWithin_ok hst  hc8) ml_X8_198 wzX8_requireWithin dpX8_requireWithin ⟨Nat.le_of_ble_eq_true rfl, Nat.le_of_ble_eq_true rfl⟩ ⟨Nat.le_of_ble_eq_true rfl, Nat.le_of_ble_eq_true rfl⟩ (Nat.le_of_ble_eq_true rfl) (Nat.le_of_ble_eq_true rfl) rfl (Nat.le_of_ble_eq_true rfl) dX8_ifInstalled_16 (fun h => bs_neg h hf) (fun h9 => ?_)
  replace hf := bs_pos h9 hf
  refine v_aload_n C dX8_ifInstalled_19 rfl rfl ?_
  refine gf_X8_23 C dX8_ifInstalled_20 ?_
  refine v_aload_n C dX8_ifInstalled_23 rfl rfl ?_
  refine gf_X8_19 C dX8_ifInstalled_24 ?_
  obtain ⟨r10, hc11, hf⟩ := bs_bind hf
  refine v_callVv (y := yX3_copyFrom) (As := [.ref (ρ 0 0 0)]) (rest := []) C (cX3_copyFrom_ok (by decide) (by decide) hc11) ml_X8_65 wyX3_copyFrom (bsm_X3 (by decide)) (bsc_X3 (by decide)) rfl dpX3_copyFrom ⟨Nat.le_of_ble_eq_true rfl, Nat.le_of_ble_eq_true rfl⟩ ⟨rfl, rfl⟩ ⟨Nat.le_of_ble_eq_true rfl, Nat.le_of_ble_eq_true rfl⟩ rfl (Nat.le_of_ble_eq_true rfl) dX8_ifInstalled_27 ?_
  refine v_aload_n C dX8_ifInstalled_30 rfl rfl ?_
  refine gf_X8_23 C dX8_ifInstalled_31 ?_
  refine gf_X8_217 C (by decide) dX8_ifInstalled_34 ?_
  refine v_iload_n C dX8_ifInstalled_37 rfl rfl ?_
  refine v_iconst (v := 1) C dX8_ifInstalled_38 (by decide) ?_
  obtain ⟨r12, hc13, hf⟩ := bs_bind hf
  refine v_callVv (y := yX2_set) (As := [.int a1, .int (1 : Int32)]) (rest := []) C (cX2_set_ok (by decide) hc13) ml_X8_310 wyX2_set (bsm_X2 (by decide)) (bsc_X2 (by decide)) rfl dpX2_set ⟨Nat.le_of_ble_eq_true rfl, Nat.le_of_ble_eq_true rfl⟩ ⟨rfl, rfl⟩ ⟨Nat.le_of_ble_eq_true rfl, Nat.le_of_ble_eq_true rfl⟩ rfl (Nat.le_of_ble_eq_true rfl) dX8_ifInstalled_39 ?_
  refine v_aload_n C dX8_ifInstalled_42 rfl rfl ?_
  refine gf_X8_23 C dX8_ifInstalled_43 ?_
  refine gf_X8_217 C (by decide) dX8_ifInstalled_46 ?_
  refine gf_X8_233 C (by decide) dX8_ifInstalled_49 ?_
  refine v_iload_n C dX8_ifInstalled_52 rfl rfl ?_
  refine v_iload_n C dX8_ifInstalled_53 rfl rfl ?_
  refine v_iconst (v := 0) C dX8_ifInstalled_54 (by decide) ?_
  obtain ⟨r14, hc15, hf⟩ := bs_bind hf
  refine v_callVv (y := yX1_set) (As := [.int a2, .int a3, .int (0 : Int32)]) (rest := []) C (cX1_set_ok (by decide) (by decide) hc15) ml_X8_314 wyX1_set (bsm_X1 (by decide) (by decide)) (bsc_X1 (by decide)) rfl dpX1_set ⟨Nat.le_of_ble_eq_true rfl, Nat.le_of_ble_eq_true rfl⟩ ⟨rfl, rfl⟩ ⟨Nat.le_of_ble_eq_true rfl, Nat.le_of_ble_eq_true rfl⟩ rfl (Nat.le_of_ble_eq_true rfl) dX8_ifInstalled_55 ?_
  refine v_aload_n C dX8_ifInstalled_58 rfl rfl ?_
  refine gf_X8_23 C dX8_ifInstalled_59 ?_
  obtain ⟨r16, hc17, hf⟩ := bs_bind hf
  refine v_callVv (y := yX3_takeInstall) (As := []) (rest := []) C (cX3_takeInstall_ok (by decide) hc17) ml_X8_316 wyX3_takeInstall (bsm_X3 (by decide)) (bsc_X3 (by decide)) rfl dpX3_takeInstall ⟨Nat.le_of_ble_eq_true rfl, Nat.le_of_ble_eq_true rfl⟩ ⟨rfl, rfl⟩ ⟨Nat.le_of_ble_eq_true rfl, Nat.le_of_ble_eq_true rfl⟩ rfl (Nat.le_of_ble_eq_true rfl) dX8_ifInstalled_62 ?_
  refine v_aload_n C dX8_ifInstalled_65 rfl rfl ?_
  obtain ⟨r18, hc19, hf⟩ := bs_bind hf
  refine v_callVi (y := yX8_bootAndSettle) (As := []) (rest := []) C (cX8_bootAndSettle_ok  hc19) ml_X8_301 wyX8_bootAndSettle (bsm_X8) (bsc_X8) rfl dpX8_bootAndSettle ⟨Nat.le_of_ble_eq_true rfl, Nat.le_of_ble_eq_true rfl⟩ ⟨rfl, rfl⟩ ⟨Nat.le_of_ble_eq_true rfl, Nat.le_of_ble_eq_true rfl⟩ rfl (Nat.le_of_ble_eq_true rfl) dX8_ifInstalled_66 ?_
  exact v_tiret C hf (Nat.le_of_ble_eq_true rfl) (Nat.le_of_ble_eq_true rfl) dX8_ifInstalled_69
/-! BootSlots.highestFloor()I -/
def fX8_highestFloor_51 (k8 : Int32 → Int32 → bsX → Option bsXr) (x1 : Int32) (x2 : Int32) (X : bsX) : Option bsXr := k8 x1 (x2 + (1 : Int32)) X
def fX8_highestFloor_8 : Nat → Int32 → Int32 → bsX → Option bsXr
  | 0, _, _, _ => none
  | n + 1, x1, x2, X => if (6 : Int32) ≤ x2 then (some (0, x1, X)) else (if bsIn x2 6 then ((fX5_isBootableFrom 0 (bsIx x2) (0 : Int32) X).bind fun r2 => if r2.1 = 0 then (fX8_highestFloor_51  (fX8_highestFloor_8  n) x1 x2 r2.2) else (if (r2.2 0 6 (bsIx x2) 1) ≤ x1 then (fX8_highestFloor_51  (fX8_highestFloor_8  n) x1 x2 r2.2) else (fX8_highestFloor_51  (fX8_highestFloor_8  n) (r2.2 0 6 (bsIx x2) 1) x2 r2.2))) else none)
def fX8_highestFloor (X : bsX) : Option bsXr := (fX8_requireLoaded   X).bind fun r7 => if r7.1 = 0 then (fX8_highestFloor_8   bsF (-1 : Int32) (0 : Int32) r7.2.2) else some (r7.1, (0 : Int32), r7.2.2)
abbrev rmX8_highestFloor : Room := { frames := 7, cells := 1, slots := 6, locals := 101 }
set_option maxHeartbeats 4000000 in
set_option maxRecDepth 100000 in
theorem wX8_highestFloor_51 {p : Program} {l : Launch} {e : Env} {s : State} {m : MethodId} {args : Array Value} {below : List Frame} {meth : Method} {c : Code} {ρ : bsR} {cA : Nat → ClassId} {dC : Nat → ClassId} {dI : Nat → Nat → Nat} {Rz : va_W} {Ts : List Cond}  (k8 : Int32 → Int32 → bsX → Option bsXr)  {z : bsXr} (C : bsCx p m c cX8_highestFloor 4 s args Ts RX8 ρ cA dC dI Rz meth (some .int)) (T0 : ∀ x ∈ c.exceptionTable.toList, False) (hst : l.stackTraces = false) (hk8 : ∀ (x1 : Int32) (x2 : Int32) (X : bsX), k8 x1 x2 X = some z → bsV p l e rmX8_highestFloor s m args below meth c 1 6 (vx_MQ below (bsXQi ρ cA dC dI Rz z s.heap.size) (bsXX ρ cA dC dI Rz z s.heap.size) args s rmX8_highestFloor.cells rmX8_highestFloor.slots (bsA ρ cA Rz s.heap.size)) ρ cA dC dI Rz 4 8 [(0, .ref (ρ 13 0 0)), (1, .int x1), (2, .int x2)] [] X)  (x1 : Int32) (x2 : Int32) (X : bsX) (hf : fX8_highestFloor_51 k8 x1 x2 X = some z) : bsV p l e rmX8_highestFloor s m args below meth c 1 6 (vx_MQ below (bsXQi ρ cA dC dI Rz z s.heap.size) (bsXX ρ cA dC dI Rz z s.heap.size) args s rmX8_highestFloor.cells rmX8_highestFloor.slots (bsA ρ cA Rz s.heap.size)) ρ cA dC dI Rz 4 51 [(0, .ref (ρ 13 0 0)), (1, .int x1), (2, .int x2)] [] X := by
  rw [fX8_highestFloor_51] at hf
  refine v_iinc (k0 := 2) (v := (x2 + (1 : Int32))) (lv' := [(2, .int (x2 + (1 : Int32))), (0, .ref (ρ 13 0 0)), (1, .int x1)]) C dX8_highestFloor_51 rfl rfl (by decide) rfl ?_
  refine v_goto (tgt := 8) C dX8_highestFloor_54 (by decide) ?_
  refine v_widen (k := 1) (n := 6) (Nat.le_of_ble_eq_true rfl) (Nat.le_of_ble_eq_true rfl) ?_
  refine v_sub [1, 2, 0] rfl ?_
  exact hk8 _ _ _  hf
set_option maxHeartbeats 4000000 in
set_option maxRecDepth 100000 in
theorem wX8_highestFloor_8 {p : Program} {l : Launch} {e : Env} {s : State} {m : MethodId} {args : Array Value} {below : List Frame} {meth : Method} {c : Code} {ρ : bsR} {cA : Nat → ClassId} {dC : Nat → ClassId} {dI : Nat → Nat → Nat} {Rz : va_W} {Ts : List Cond}   {z : bsXr} (C : bsCx p m c cX8_highestFloor 4 s args Ts RX8 ρ cA dC dI Rz meth (some .int)) (T0 : ∀ x ∈ c.exceptionTable.toList, False) (hst : l.stackTraces = false) : ∀ (n : Nat) (x1 : Int32) (x2 : Int32) (X : bsX), fX8_highestFloor_8  n x1 x2 X = some z → bsV p l e rmX8_highestFloor s m args below meth c 1 6 (vx_MQ below (bsXQi ρ cA dC dI Rz z s.heap.size) (bsXX ρ cA dC dI Rz z s.heap.size) args s rmX8_highestFloor.cells rmX8_highestFloor.slots (bsA ρ cA Rz s.heap.size)) ρ cA dC dI Rz 4 8 [(0, .ref (ρ 13 0 0)), (1, .int x1), (2, .int x2)] [] X := by
  intro n
  induction n with
  | zero => intro x1 x2 X hf; exact (nomatch hf)
  | succ n ih =>
    intro x1 x2 X hf
    rw [fX8_highestFloor_8] at hf
    refine v_iload_n C dX8_highestFloor_8 rfl rfl ?_
    refine v_bipush (v := 6) C dX8_highestFloor_9 (by decide) ?_
    refine v_icmp_ge (tgt := 57) C dX8_highestFloor_11 (by decide) (fun h6 => ?_) (fun h6 => ?_)
    · replace hf := bs_pos h6 hf
      refine v_iload_n C dX8_highestFloor_57 rfl rfl ?_
      exact v_tiret C hf (Nat.le_of_ble_eq_true rfl) (Nat.le_of_ble_eq_true rfl) dX8_highestFloor_58
    · replace hf := bs_neg h6 hf
      refine v_aload_n C dX8_highestFloor_14 rfl rfl ?_
      refine gf_X8_19 C dX8_highestFloor_15 ?_
      refine gf_X8_158 C (by decide) dX8_highestFloor_18 ?_
      refine v_iload_n C dX8_highestFloor_21 rfl rfl ?_
      obtain ⟨hi1, hf⟩ := bs_if hf
      refine v_aald (t0 := 3) (n := 6) C (bsm_K1 (by decide)) (bsc_K1 (by decide)) rfl hi1 rfl dX8_highestFloor_22 ?_
      refine v_astore_n (lv' := [(3, .ref (ρ 0 5 (bsIx x2))), (0, .ref (ρ 13 0 0)), (1, .int x1), (2, .int x2)]) C dX8_highestFloor_23 rfl (by decide) rfl ?_
      refine v_aload_n C dX8_highestFloor_24 rfl rfl ?_
      refine v_iconst (v := 0) C dX8_highestFloor_25 (by decide) ?_
      obtain ⟨r2, hc3, hf⟩ := bs_bind hf
      refine v_callVi (y := yX5_isBootableFrom) (As := [.int (0 : Int32)]) (rest := []) C (cX5_isBootableFrom_ok (by decide) (bsIx_lt hi1) hc3) ml_X8_319 wyX5_isBootableFrom (bsm_X5 (by decide) (bsIx_lt hi1)) (bsc_X5 (by decide)) rfl dpX5_isBootableFrom ⟨Nat.le_of_ble_eq_true rfl, Nat.le_of_ble_eq_true rfl⟩ ⟨rfl, rfl⟩ ⟨Nat.le_of_ble_eq_true rfl, Nat.le_of_ble_eq_true rfl⟩ rfl (Nat.le_of_ble_eq_true rfl) dX8_highestFloor_26 ?_
      refine v_if_eq (tgt := 51) C dX8_highestFloor_29 (by decide) (fun h5 => ?_) (fun h5 => ?_)
      · replace hf := bs_pos h5 hf
        refine v_widen (k := 1) (n := 6) (Nat.le_of_ble_eq_true rfl) (Nat.le_of_ble_eq_true rfl) ?_
        refine v_sub [1, 2, 3] rfl ?_
        exact wX8_highestFloor_51  (fX8_highestFloor_8  n) C T0 hst (fun b0 b1 X  h => ih b0 b1 X  h) _ _ _  hf
      · replace hf := bs_neg h5 hf
        refine v_aload_n C dX8_highestFloor_32 rfl rfl ?_
        refine gf_X8_162 C (by decide) (bsIx_lt hi1) dX8_highestFloor_33 ?_
        refine gf_X8_202 C (by decide) (Nat.lt_succ_of_lt (bsIx_lt hi1)) dX8_highestFloor_36 ?_
        refine v_iload_n C dX8_highestFloor_39 rfl rfl ?_
        refine v_icmp_le (tgt := 51) C dX8_highestFloor_40 (by decide) (fun h4 => ?_) (fun h4 => ?_)
        · replace hf := bs_pos h4 hf
          refine v_widen (k := 1) (n := 6) (Nat.le_of_ble_eq_true rfl) (Nat.le_of_ble_eq_true rfl) ?_
          refine v_sub [1, 2, 3] rfl ?_
          exact wX8_highestFloor_51  (fX8_highestFloor_8  n) C T0 hst (fun b0 b1 X  h => ih b0 b1 X  h) _ _ _  hf
        · replace hf := bs_neg h4 hf
          refine v_aload_n C dX8_highestFloor_43 rfl rfl ?_
          refine gf_X8_162 C (by decide) (bsIx_lt hi1) dX8_highestFloor_44 ?_
          refine gf_X8_202 C (by decide) (Nat.lt_succ_of_lt (bsIx_lt hi1)) dX8_highestFloor_47 ?_
          refine v_istore_n (lv' := [(1, .int (r2.2 0 6 (bsIx x2) 1)), (3, .ref (ρ 0 5 (bsIx x2))), (0, .ref (ρ 13 0 0)), (2, .int x2)]) C dX8_highestFloor_50 rfl (by decide) rfl ?_
          refine v_widen (k := 1) (n := 6) (Nat.le_of_ble_eq_true rfl) (Nat.le_of_ble_eq_true rfl) ?_
          refine v_sub [2, 0, 3] rfl ?_
          exact wX8_highestFloor_51  (fX8_highestFloor_8  n) C T0 hst (fun b0 b1 X  h => ih b0 b1 X  h) _ _ _  hf
set_option maxHeartbeats 4000000 in
set_option maxRecDepth 100000 in
theorem cX8_highestFloor_ok {l : Launch} {ρ : bsR} {cA : Nat → ClassId} {dC : Nat → ClassId} {dI : Nat → Nat → Nat} {Rz : va_W} (hst : l.stackTraces = false)  {X : bsX} {z : bsXr} (hf : fX8_highestFloor  X = some z) : bsTi l yX8_highestFloor cX8_highestFloor 4 (some .int) rmX8_highestFloor ρ cA dC dI Rz [.ref (ρ 13 0 0)] X z := by
  refine bsTi_of (by decide) (Nat.le_of_ble_eq_true rfl) (fun p e s m args below meth c C T0 => ?_)
  have C : bsCx p m c cX8_highestFloor 4 s args (Cond.code yX8_highestFloor cX8_highestFloor 4 (some .int) :: bsG) RX8 ρ cA dC dI Rz meth (some .int) := C
  rw [fX8_highestFloor] at hf
  refine v_sub [0] rfl ?_
  refine v_aload_n C dX8_highestFloor_0 rfl rfl ?_
  obtain ⟨r7, hc8, hf⟩ := bs_bind hf
  refine v_ticallVv (y := yX8_requireLoaded) (As := []) (rest := []) C T0 (cX8_requireLoaded_ok hst  hc8) ml_X8_82 wyX8_requireLoaded (bsm_X8) (bsc_X8) rfl dpX8_requireLoaded ⟨Nat.le_of_ble_eq_true rfl, Nat.le_of_ble_eq_true rfl⟩ ⟨Nat.le_of_ble_eq_true rfl, Nat.le_of_ble_eq_true rfl⟩ (Nat.le_of_ble_eq_true rfl) (Nat.le_of_ble_eq_true rfl) rfl (Nat.le_of_ble_eq_true rfl) dX8_highestFloor_1 (fun h => bs_neg h hf) (fun h9 => ?_)
  replace hf := bs_pos h9 hf
  refine v_iconst (v := -1) C dX8_highestFloor_4 (by decide) ?_
  refine v_istore_n (lv' := [(1, .int (-1 : Int32)), (0, .ref (ρ 13 0 0))]) C dX8_highestFloor_5 rfl (by decide) rfl ?_
  refine v_iconst (v := 0) C dX8_highestFloor_6 (by decide) ?_
  refine v_istore_n (lv' := [(2, .int (0 : Int32)), (1, .int (-1 : Int32)), (0, .ref (ρ 13 0 0))]) C dX8_highestFloor_7 rfl (by decide) rfl ?_
  refine v_widen (k := 1) (n := 6) (Nat.le_of_ble_eq_true rfl) (Nat.le_of_ble_eq_true rfl) ?_
  refine v_sub [2, 1, 0] rfl ?_
  exact wX8_highestFloor_8   C T0 hst  bsF _ _ _  hf
/-! BootSlots.writeSlot(LBootSlots$Slot;)V -/
def fX8_writeSlot_90 (j1 : Nat) (X : bsX) : Option bsX := if (nI j1) = (X 0 0 0 11) then ((fX7_put  (42 : Int32) X).bind fun r1 => some r1) else (some X)
def fX8_writeSlot (j1 : Nat) (X : bsX) : Option bsX := if (X 0 6 j1 0) = 0 then ((fX7_put  (45 : Int32) X).bind fun r17 => some r17) else ((fX7_putNumber  (X 0 6 j1 1) X).bind fun r4 => (fX7_put  (58 : Int32) r4).bind fun r6 => (fX7_putNumber  (r6 0 5 j1 2) r6).bind fun r8 => (fX7_put  (47 : Int32) r8).bind fun r10 => (fX7_putNumber  (r10 0 5 j1 3) r10).bind fun r12 => if (r12 0 5 j1 4) = 0 then (fX8_writeSlot_90 j1   r12) else ((fX7_put  (33 : Int32) r12).bind fun r14 => fX8_writeSlot_90 j1   r14))
abbrev rmX8_writeSlot : Room := { frames := 2, cells := 0, slots := 0, locals := 43 }
set_option maxHeartbeats 4000000 in
set_option maxRecDepth 100000 in
theorem wX8_writeSlot_90 {p : Program} {l : Launch} {e : Env} {s : State} {m : MethodId} {args : Array Value} {below : List Frame} {meth : Method} {c : Code} {ρ : bsR} {cA : Nat → ClassId} {dC : Nat → ClassId} {dI : Nat → Nat → Nat} {Rz : va_W} {Ts : List Cond} {j1 : Nat} (hj1 : j1 < 6)  {z : bsX} (C : bsCx p m c cX8_writeSlot 2 s args Ts RX8 ρ cA dC dI Rz meth none) (X : bsX) (hf : fX8_writeSlot_90 j1 X = some z) : bsV p l e rmX8_writeSlot s m args below meth c 0 0 (MQ below (bsQv ρ cA dC dI Rz z s.heap.size) args s 0 0 (bsA ρ cA Rz s.heap.size)) ρ cA dC dI Rz 2 90 [(0, .ref (ρ 13 0 0)), (1, .ref (ρ 0 5 j1))] [] X := by
  rw [fX8_writeSlot_90] at hf
  refine v_aload_n C dX8_writeSlot_90 rfl rfl ?_
  refine gf_X8_343 C (by decide) hj1 dX8_writeSlot_91 ?_
  refine v_aload_n C dX8_writeSlot_94 rfl rfl ?_
  refine gf_X8_19 C dX8_writeSlot_95 ?_
  refine gf_X8_104 C (by decide) dX8_writeSlot_98 ?_
  refine v_icmp_ne (tgt := 113) C dX8_writeSlot_101 (by decide) (fun h3 => ?_) (fun h3 => ?_)
  · replace hf := bs_neg h3 hf
    exact v_vret C hf dX8_writeSlot_113
  · replace hf := bs_pos h3 hf
    refine v_aload_n C dX8_writeSlot_104 rfl rfl ?_
    refine gf_X8_40 C dX8_writeSlot_105 ?_
    refine v_bipush (v := 42) C dX8_writeSlot_108 (by decide) ?_
    obtain ⟨r1, hc2, hf⟩ := bs_bind hf
    refine v_callVv (y := yX7_put) (As := [.int (42 : Int32)]) (rest := []) C (cX7_put_ok  hc2) ml_X8_329 wyX7_put (bsm_X7) (bsc_X7) rfl dpX7_put ⟨Nat.le_of_ble_eq_true rfl, Nat.le_of_ble_eq_true rfl⟩ ⟨rfl, rfl⟩ ⟨Nat.le_of_ble_eq_true rfl, Nat.le_of_ble_eq_true rfl⟩ rfl (Nat.le_of_ble_eq_true rfl) dX8_writeSlot_110 ?_
    exact v_vret C hf dX8_writeSlot_113
set_option maxHeartbeats 4000000 in
set_option maxRecDepth 100000 in
theorem cX8_writeSlot_ok {l : Launch} {ρ : bsR} {cA : Nat → ClassId} {dC : Nat → ClassId} {dI : Nat → Nat → Nat} {Rz : va_W} {j1 : Nat} (hj1 : j1 < 6) {X : bsX} {z : bsX} (hf : fX8_writeSlot j1 X = some z) : bsMv l yX8_writeSlot cX8_writeSlot 2 none rmX8_writeSlot ρ cA dC dI Rz [.ref (ρ 13 0 0), .ref (ρ 0 5 j1)] X z := by
  refine bsMv_of (by decide) (Nat.le_of_ble_eq_true rfl) (fun p e s m args below meth c C => ?_)
  have C : bsCx p m c cX8_writeSlot 2 s args (Cond.code yX8_writeSlot cX8_writeSlot 2 none :: bsG) RX8 ρ cA dC dI Rz meth none := C
  rw [fX8_writeSlot] at hf
  refine v_sub [0, 1] rfl ?_
  refine v_aload_n C dX8_writeSlot_0 rfl rfl ?_
  refine gf_X8_162 C (by decide) hj1 dX8_writeSlot_1 ?_
  refine gf_X8_168 C (by decide) (Nat.lt_succ_of_lt hj1) dX8_writeSlot_4 ?_
  refine v_if_ne (tgt := 20) C dX8_writeSlot_7 (by decide) (fun h19 => ?_) (fun h19 => ?_)
  · replace hf := bs_neg h19 hf
    refine v_aload_n C dX8_writeSlot_20 rfl rfl ?_
    refine gf_X8_40 C dX8_writeSlot_21 ?_
    refine v_aload_n C dX8_writeSlot_24 rfl rfl ?_
    refine gf_X8_162 C (by decide) hj1 dX8_writeSlot_25 ?_
    refine gf_X8_202 C (by decide) (Nat.lt_succ_of_lt hj1) dX8_writeSlot_28 ?_
    obtain ⟨r4, hc5, hf⟩ := bs_bind hf
    refine v_callVv (y := yX7_putNumber) (As := [.int (X 0 6 j1 1)]) (rest := []) C (cX7_putNumber_ok  hc5) ml_X8_340 wyX7_putNumber (bsm_X7) (bsc_X7) rfl dpX7_putNumber ⟨Nat.le_of_ble_eq_true rfl, Nat.le_of_ble_eq_true rfl⟩ ⟨rfl, rfl⟩ ⟨Nat.le_of_ble_eq_true rfl, Nat.le_of_ble_eq_true rfl⟩ rfl (Nat.le_of_ble_eq_true rfl) dX8_writeSlot_31 ?_
    refine v_aload_n C dX8_writeSlot_34 rfl rfl ?_
    refine gf_X8_40 C dX8_writeSlot_35 ?_
    refine v_bipush (v := 58) C dX8_writeSlot_38 (by decide) ?_
    obtain ⟨r6, hc7, hf⟩ := bs_bind hf
    refine v_callVv (y := yX7_put) (As := [.int (58 : Int32)]) (rest := []) C (cX7_put_ok  hc7) ml_X8_329 wyX7_put (bsm_X7) (bsc_X7) rfl dpX7_put ⟨Nat.le_of_ble_eq_true rfl, Nat.le_of_ble_eq_true rfl⟩ ⟨rfl, rfl⟩ ⟨Nat.le_of_ble_eq_true rfl, Nat.le_of_ble_eq_true rfl⟩ rfl (Nat.le_of_ble_eq_true rfl) dX8_writeSlot_40 ?_
    refine v_aload_n C dX8_writeSlot_43 rfl rfl ?_
    refine gf_X8_40 C dX8_writeSlot_44 ?_
    refine v_aload_n C dX8_writeSlot_47 rfl rfl ?_
    refine gf_X8_177 C (by decide) hj1 dX8_writeSlot_48 ?_
    obtain ⟨r8, hc9, hf⟩ := bs_bind hf
    refine v_callVv (y := yX7_putNumber) (As := [.int (r6 0 5 j1 2)]) (rest := []) C (cX7_putNumber_ok  hc9) ml_X8_340 wyX7_putNumber (bsm_X7) (bsc_X7) rfl dpX7_putNumber ⟨Nat.le_of_ble_eq_true rfl, Nat.le_of_ble_eq_true rfl⟩ ⟨rfl, rfl⟩ ⟨Nat.le_of_ble_eq_true rfl, Nat.le_of_ble_eq_true rfl⟩ rfl (Nat.le_of_ble_eq_true rfl) dX8_writeSlot_51 ?_
    refine v_aload_n C dX8_writeSlot_54 rfl rfl ?_
    refine gf_X8_40 C dX8_writeSlot_55 ?_
    refine v_bipush (v := 47) C dX8_writeSlot_58 (by decide) ?_
    obtain ⟨r10, hc11, hf⟩ := bs_bind hf
    refine v_callVv (y := yX7_put) (As := [.int (47 : Int32)]) (rest := []) C (cX7_put_ok  hc11) ml_X8_329 wyX7_put (bsm_X7) (bsc_X7) rfl dpX7_put ⟨Nat.le_of_ble_eq_true rfl, Nat.le_of_ble_eq_true rfl⟩ ⟨rfl, rfl⟩ ⟨Nat.le_of_ble_eq_true rfl, Nat.le_of_ble_eq_true rfl⟩ rfl (Nat.le_of_ble_eq_true rfl) dX8_writeSlot_60 ?_
    refine v_aload_n C dX8_writeSlot_63 rfl rfl ?_
    refine gf_X8_40 C dX8_writeSlot_64 ?_
    refine v_aload_n C dX8_writeSlot_67 rfl rfl ?_
    refine gf_X8_180 C (by decide) hj1 dX8_writeSlot_68 ?_
    obtain ⟨r12, hc13, hf⟩ := bs_bind hf
    refine v_callVv (y := yX7_putNumber) (As := [.int (r10 0 5 j1 3)]) (rest := []) C (cX7_putNumber_ok  hc13) ml_X8_340 wyX7_putNumber (bsm_X7) (bsc_X7) rfl dpX7_putNumber ⟨Nat.le_of_ble_eq_true rfl, Nat.le_of_ble_eq_true rfl⟩ ⟨rfl, rfl⟩ ⟨Nat.le_of_ble_eq_true rfl, Nat.le_of_ble_eq_true rfl⟩ rfl (Nat.le_of_ble_eq_true rfl) dX8_writeSlot_71 ?_
    refine v_aload_n C dX8_writeSlot_74 rfl rfl ?_
    refine gf_X8_183 C (by decide) hj1 dX8_writeSlot_75 ?_
    refine v_if_eq (tgt := 90) C dX8_writeSlot_78 (by decide) (fun h16 => ?_) (fun h16 => ?_)
    · replace hf := bs_pos h16 hf
      refine v_sub [0, 1] rfl ?_
      exact wX8_writeSlot_90 hj1  C  _  hf
    · replace hf := bs_neg h16 hf
      refine v_aload_n C dX8_writeSlot_81 rfl rfl ?_
      refine gf_X8_40 C dX8_writeSlot_82 ?_
      refine v_bipush (v := 33) C dX8_writeSlot_85 (by decide) ?_
      obtain ⟨r14, hc15, hf⟩ := bs_bind hf
      refine v_callVv (y := yX7_put) (As := [.int (33 : Int32)]) (rest := []) C (cX7_put_ok  hc15) ml_X8_329 wyX7_put (bsm_X7) (bsc_X7) rfl dpX7_put ⟨Nat.le_of_ble_eq_true rfl, Nat.le_of_ble_eq_true rfl⟩ ⟨rfl, rfl⟩ ⟨Nat.le_of_ble_eq_true rfl, Nat.le_of_ble_eq_true rfl⟩ rfl (Nat.le_of_ble_eq_true rfl) dX8_writeSlot_87 ?_
      refine v_sub [0, 1] rfl ?_
      exact wX8_writeSlot_90 hj1  C  _  hf
  · replace hf := bs_pos h19 hf
    refine v_aload_n C dX8_writeSlot_10 rfl rfl ?_
    refine gf_X8_40 C dX8_writeSlot_11 ?_
    refine v_bipush (v := 45) C dX8_writeSlot_14 (by decide) ?_
    obtain ⟨r17, hc18, hf⟩ := bs_bind hf
    refine v_callVv (y := yX7_put) (As := [.int (45 : Int32)]) (rest := []) C (cX7_put_ok  hc18) ml_X8_329 wyX7_put (bsm_X7) (bsc_X7) rfl dpX7_put ⟨Nat.le_of_ble_eq_true rfl, Nat.le_of_ble_eq_true rfl⟩ ⟨rfl, rfl⟩ ⟨Nat.le_of_ble_eq_true rfl, Nat.le_of_ble_eq_true rfl⟩ rfl (Nat.le_of_ble_eq_true rfl) dX8_writeSlot_16 ?_
    exact v_vret C hf dX8_writeSlot_19
/-! BootSlots.writeSlots()I -/
def fX8_writeSlots_43 (k13 : Int32 → bsX → Option bsXr) (x1 : Int32) (X : bsX) : Option bsXr := if bsIn x1 6 then ((fX8_writeSlot (bsIx x1)  X).bind fun r2 => k13 (x1 + (1 : Int32)) r2) else none
def fX8_writeSlots_13 : Nat → Int32 → bsX → Option bsXr
  | 0, _, _ => none
  | n + 1, x1, X => if (6 : Int32) ≤ x1 then (some (0, (X 13 2 0 1), X)) else (if (X 0 0 0 4) ≤ x1 then (some (0, (X 13 2 0 1), X)) else (if x1 ≤ 0 then (fX8_writeSlots_43  (fX8_writeSlots_13  n) x1 X) else ((fX7_put  (32 : Int32) X).bind fun r4 => fX8_writeSlots_43  (fX8_writeSlots_13  n) x1 r4)))
def fX8_writeSlots (X : bsX) : Option bsXr := (fX8_requireLoaded   X).bind fun r9 => if r9.1 = 0 then ((fX7_clear   r9.2.2).bind fun r12 => fX8_writeSlots_13   bsF (0 : Int32) r12) else some (r9.1, (0 : Int32), r9.2.2)
abbrev rmX8_writeSlots : Room := { frames := 7, cells := 1, slots := 6, locals := 101 }
set_option maxHeartbeats 4000000 in
set_option maxRecDepth 100000 in
theorem wX8_writeSlots_43 {p : Program} {l : Launch} {e : Env} {s : State} {m : MethodId} {args : Array Value} {below : List Frame} {meth : Method} {c : Code} {ρ : bsR} {cA : Nat → ClassId} {dC : Nat → ClassId} {dI : Nat → Nat → Nat} {Rz : va_W} {Ts : List Cond}  (k13 : Int32 → bsX → Option bsXr)  {z : bsXr} (C : bsCx p m c cX8_writeSlots 2 s args Ts RX8 ρ cA dC dI Rz meth (some .int)) (T0 : ∀ x ∈ c.exceptionTable.toList, False) (hst : l.stackTraces = false) (hk13 : ∀ (x1 : Int32) (X : bsX), k13 x1 X = some z → bsV p l e rmX8_writeSlots s m args below meth c 1 6 (vx_MQ below (bsXQi ρ cA dC dI Rz z s.heap.size) (bsXX ρ cA dC dI Rz z s.heap.size) args s rmX8_writeSlots.cells rmX8_writeSlots.slots (bsA ρ cA Rz s.heap.size)) ρ cA dC dI Rz 2 13 [(0, .ref (ρ 13 0 0)), (1, .int x1)] [] X)  (x1 : Int32) (X : bsX) (hf : fX8_writeSlots_43 k13 x1 X = some z) : bsV p l e rmX8_writeSlots s m args below meth c 1 6 (vx_MQ below (bsXQi ρ cA dC dI Rz z s.heap.size) (bsXX ρ cA dC dI Rz z s.heap.size) args s rmX8_writeSlots.cells rmX8_writeSlots.slots (bsA ρ cA Rz s.heap.size)) ρ cA dC dI Rz 2 43 [(0, .ref (ρ 13 0 0)), (1, .int x1)] [] X := by
  rw [fX8_writeSlots_43] at hf
  refine v_aload_n C dX8_writeSlots_43 rfl rfl ?_
  refine v_aload_n C dX8_writeSlots_44 rfl rfl ?_
  refine gf_X8_19 C dX8_writeSlots_45 ?_
  refine gf_X8_158 C (by decide) dX8_writeSlots_48 ?_
  refine v_iload_n C dX8_writeSlots_51 rfl rfl ?_
  obtain ⟨hi1, hf⟩ := bs_if hf
  refine v_aald (t0 := 3) (n := 6) C (bsm_K1 (by decide)) (bsc_K1 (by decide)) rfl hi1 rfl dX8_writeSlots_52 ?_
  obtain ⟨r2, hc3, hf⟩ := bs_bind hf
  refine v_callVv (y := yX8_writeSlot) (As := [.ref (ρ 0 5 (bsIx x1))]) (rest := []) C (cX8_writeSlot_ok (bsIx_lt hi1) hc3) ml_X8_333 wyX8_writeSlot (bsm_X8) (bsc_X8) rfl dpX8_writeSlot ⟨Nat.le_of_ble_eq_true rfl, Nat.le_of_ble_eq_true rfl⟩ ⟨rfl, rfl⟩ ⟨Nat.le_of_ble_eq_true rfl, Nat.le_of_ble_eq_true rfl⟩ rfl (Nat.le_of_ble_eq_true rfl) dX8_writeSlots_53 ?_
  refine v_iinc (k0 := 1) (v := (x1 + (1 : Int32))) (lv' := [(1, .int (x1 + (1 : Int32))), (0, .ref (ρ 13 0 0))]) C dX8_writeSlots_56 rfl rfl (by decide) rfl ?_
  refine v_goto (tgt := 13) C dX8_writeSlots_59 (by decide) ?_
  refine v_widen (k := 1) (n := 6) (Nat.le_of_ble_eq_true rfl) (Nat.le_of_ble_eq_true rfl) ?_
  refine v_sub [1, 0] rfl ?_
  exact hk13 _ _  hf
set_option maxHeartbeats 4000000 in
set_option maxRecDepth 100000 in
theorem wX8_writeSlots_13 {p : Program} {l : Launch} {e : Env} {s : State} {m : MethodId} {args : Array Value} {below : List Frame} {meth : Method} {c : Code} {ρ : bsR} {cA : Nat → ClassId} {dC : Nat → ClassId} {dI : Nat → Nat → Nat} {Rz : va_W} {Ts : List Cond}   {z : bsXr} (C : bsCx p m c cX8_writeSlots 2 s args Ts RX8 ρ cA dC dI Rz meth (some .int)) (T0 : ∀ x ∈ c.exceptionTable.toList, False) (hst : l.stackTraces = false) : ∀ (n : Nat) (x1 : Int32) (X : bsX), fX8_writeSlots_13  n x1 X = some z → bsV p l e rmX8_writeSlots s m args below meth c 1 6 (vx_MQ below (bsXQi ρ cA dC dI Rz z s.heap.size) (bsXX ρ cA dC dI Rz z s.heap.size) args s rmX8_writeSlots.cells rmX8_writeSlots.slots (bsA ρ cA Rz s.heap.size)) ρ cA dC dI Rz 2 13 [(0, .ref (ρ 13 0 0)), (1, .int x1)] [] X := by
  intro n
  induction n with
  | zero => intro x1 X hf; exact (nomatch hf)
  | succ n ih =>
    intro x1 X hf
    rw [fX8_writeSlots_13] at hf
    refine v_iload_n C dX8_writeSlots_13 rfl rfl ?_
    refine v_bipush (v := 6) C dX8_writeSlots_14 (by decide) ?_
    refine v_icmp_ge (tgt := 62) C dX8_writeSlots_16 (by decide) (fun h8 => ?_) (fun h8 => ?_)
    · replace hf := bs_pos h8 hf
      refine v_aload_n C dX8_writeSlots_62 rfl rfl ?_
      refine gf_X8_40 C dX8_writeSlots_63 ?_
      refine gf_X8_337 C dX8_writeSlots_66 ?_
      exact v_tiret C hf (Nat.le_of_ble_eq_true rfl) (Nat.le_of_ble_eq_true rfl) dX8_writeSlots_69
    · replace hf := bs_neg h8 hf
      refine v_iload_n C dX8_writeSlots_19 rfl rfl ?_
      refine v_aload_n C dX8_writeSlots_20 rfl rfl ?_
      refine gf_X8_19 C dX8_writeSlots_21 ?_
      refine gf_X8_76 C (by decide) dX8_writeSlots_24 ?_
      refine v_icmp_ge (tgt := 62) C dX8_writeSlots_27 (by decide) (fun h7 => ?_) (fun h7 => ?_)
      · replace hf := bs_pos h7 hf
        refine v_aload_n C dX8_writeSlots_62 rfl rfl ?_
        refine gf_X8_40 C dX8_writeSlots_63 ?_
        refine gf_X8_337 C dX8_writeSlots_66 ?_
        exact v_tiret C hf (Nat.le_of_ble_eq_true rfl) (Nat.le_of_ble_eq_true rfl) dX8_writeSlots_69
      · replace hf := bs_neg h7 hf
        refine v_iload_n C dX8_writeSlots_30 rfl rfl ?_
        refine v_if_le (tgt := 43) C dX8_writeSlots_31 (by decide) (fun h6 => ?_) (fun h6 => ?_)
        · replace hf := bs_pos h6 hf
          refine v_widen (k := 1) (n := 6) (Nat.le_of_ble_eq_true rfl) (Nat.le_of_ble_eq_true rfl) ?_
          refine v_sub [0, 1] rfl ?_
          exact wX8_writeSlots_43  (fX8_writeSlots_13  n) C T0 hst (fun b0 X  h => ih b0 X  h) _ _  hf
        · replace hf := bs_neg h6 hf
          refine v_aload_n C dX8_writeSlots_34 rfl rfl ?_
          refine gf_X8_40 C dX8_writeSlots_35 ?_
          refine v_bipush (v := 32) C dX8_writeSlots_38 (by decide) ?_
          obtain ⟨r4, hc5, hf⟩ := bs_bind hf
          refine v_callVv (y := yX7_put) (As := [.int (32 : Int32)]) (rest := []) C (cX7_put_ok  hc5) ml_X8_329 wyX7_put (bsm_X7) (bsc_X7) rfl dpX7_put ⟨Nat.le_of_ble_eq_true rfl, Nat.le_of_ble_eq_true rfl⟩ ⟨rfl, rfl⟩ ⟨Nat.le_of_ble_eq_true rfl, Nat.le_of_ble_eq_true rfl⟩ rfl (Nat.le_of_ble_eq_true rfl) dX8_writeSlots_40 ?_
          refine v_widen (k := 1) (n := 6) (Nat.le_of_ble_eq_true rfl) (Nat.le_of_ble_eq_true rfl) ?_
          refine v_sub [0, 1] rfl ?_
          exact wX8_writeSlots_43  (fX8_writeSlots_13  n) C T0 hst (fun b0 X  h => ih b0 X  h) _ _  hf
set_option maxHeartbeats 4000000 in
set_option maxRecDepth 100000 in
theorem cX8_writeSlots_ok {l : Launch} {ρ : bsR} {cA : Nat → ClassId} {dC : Nat → ClassId} {dI : Nat → Nat → Nat} {Rz : va_W} (hst : l.stackTraces = false)  {X : bsX} {z : bsXr} (hf : fX8_writeSlots  X = some z) : bsTi l yX8_writeSlots cX8_writeSlots 2 (some .int) rmX8_writeSlots ρ cA dC dI Rz [.ref (ρ 13 0 0)] X z := by
  refine bsTi_of (by decide) (Nat.le_of_ble_eq_true rfl) (fun p e s m args below meth c C T0 => ?_)
  have C : bsCx p m c cX8_writeSlots 2 s args (Cond.code yX8_writeSlots cX8_writeSlots 2 (some .int) :: bsG) RX8 ρ cA dC dI Rz meth (some .int) := C
  rw [fX8_writeSlots] at hf
  refine v_sub [0] rfl ?_
  refine v_aload_n C dX8_writeSlots_0 rfl rfl ?_
  obtain ⟨r9, hc10, hf⟩ := bs_bind hf
  refine v_ticallVv (y := yX8_requireLoaded) (As := []) (rest := []) C T0 (cX8_requireLoaded_ok hst  hc10) ml_X8_82 wyX8_requireLoaded (bsm_X8) (bsc_X8) rfl dpX8_requireLoaded ⟨Nat.le_of_ble_eq_true rfl, Nat.le_of_ble_eq_true rfl⟩ ⟨Nat.le_of_ble_eq_true rfl, Nat.le_of_ble_eq_true rfl⟩ (Nat.le_of_ble_eq_true rfl) (Nat.le_of_ble_eq_true rfl) rfl (Nat.le_of_ble_eq_true rfl) dX8_writeSlots_1 (fun h => bs_neg h hf) (fun h11 => ?_)
  replace hf := bs_pos h11 hf
  refine v_aload_n C dX8_writeSlots_4 rfl rfl ?_
  refine gf_X8_40 C dX8_writeSlots_5 ?_
  obtain ⟨r12, hc13, hf⟩ := bs_bind hf
  refine v_callVv (y := yX7_clear) (As := []) (rest := []) C (cX7_clear_ok  hc13) ml_X8_326 wyX7_clear (bsm_X7) (bsc_X7) rfl dpX7_clear ⟨Nat.le_of_ble_eq_true rfl, Nat.le_of_ble_eq_true rfl⟩ ⟨rfl, rfl⟩ ⟨Nat.le_of_ble_eq_true rfl, Nat.le_of_ble_eq_true rfl⟩ rfl (Nat.le_of_ble_eq_true rfl) dX8_writeSlots_8 ?_
  refine v_iconst (v := 0) C dX8_writeSlots_11 (by decide) ?_
  refine v_istore_n (lv' := [(1, .int (0 : Int32)), (0, .ref (ρ 13 0 0))]) C dX8_writeSlots_12 rfl (by decide) rfl ?_
  refine v_widen (k := 1) (n := 6) (Nat.le_of_ble_eq_true rfl) (Nat.le_of_ble_eq_true rfl) ?_
  refine v_sub [1, 0] rfl ?_
  exact wX8_writeSlots_13   C T0 hst  bsF _ _  hf
/-! BootSlots.writeBoot(I)V -/
def fX8_writeBoot_71 (x1 : Int32) (X : bsX) : Option bsX := if bsIn x1 12 then (if 0 ≤ (X 0 10 0 (bsIx x1)) then ((fX7_putNumber  (X 0 10 0 (bsIx x1)) X).bind fun r3 => some r3) else ((fX7_put  (114 : Int32) X).bind fun r5 => some r5)) else none
def fX8_writeBoot (a1 : Int32) (X : bsX) : Option bsX := if a1 < 0 then (some X) else (if a1 < (12 : Int32) then (if bsIn a1 12 then ((fX7_putNumber  (X 0 7 0 (bsIx a1)) X).bind fun r9 => if (r9 0 8 0 (bsIx a1)) < 0 then (fX8_writeBoot_71   a1 r9) else (if (bsLen 7) ≤ (r9 0 8 0 (bsIx a1)) then (fX8_writeBoot_71   a1 r9) else (if bsIn (r9 0 8 0 (bsIx a1)) (bsSl.getD 7 0) then ((fX7_put  (bsChr 7 (bsIx (r9 0 8 0 (bsIx a1)))) r9).bind fun r13 => fX8_writeBoot_71   a1 r13) else none))) else none) else (some X))
abbrev rmX8_writeBoot : Room := { frames := 4, cells := 0, slots := 0, locals := 85 }
set_option maxHeartbeats 4000000 in
set_option maxRecDepth 100000 in
theorem wX8_writeBoot_71 {p : Program} {l : Launch} {e : Env} {s : State} {m : MethodId} {args : Array Value} {below : List Frame} {meth : Method} {c : Code} {ρ : bsR} {cA : Nat → ClassId} {dC : Nat → ClassId} {dI : Nat → Nat → Nat} {Rz : va_W} {Ts : List Cond}   {z : bsX} (C : bsCx p m c cX8_writeBoot 3 s args Ts RX8 ρ cA dC dI Rz meth none) (x1 : Int32) (X : bsX) (hf : fX8_writeBoot_71 x1 X = some z) : bsV p l e rmX8_writeBoot s m args below meth c 0 0 (MQ below (bsQv ρ cA dC dI Rz z s.heap.size) args s 0 0 (bsA ρ cA Rz s.heap.size)) ρ cA dC dI Rz 3 71 [(0, .ref (ρ 13 0 0)), (1, .int x1)] [] X := by
  rw [fX8_writeBoot_71] at hf
  refine v_aload_n C dX8_writeBoot_71 rfl rfl ?_
  refine gf_X8_19 C dX8_writeBoot_72 ?_
  refine gf_X8_119 C (by decide) dX8_writeBoot_75 ?_
  refine gf_X8_248 C (by decide) dX8_writeBoot_78 ?_
  refine v_iload_n C dX8_writeBoot_81 rfl rfl ?_
  obtain ⟨hi1, hf⟩ := bs_if hf
  refine v_iald (n := 12) C (bsm_K10 (by decide)) (bsc_K10 (by decide)) hi1 dX8_writeBoot_82 ?_
  refine v_if_ge (tgt := 98) C dX8_writeBoot_83 (by decide) (fun h7 => ?_) (fun h7 => ?_)
  · replace hf := bs_pos h7 hf
    refine v_aload_n C dX8_writeBoot_98 rfl rfl ?_
    refine gf_X8_40 C dX8_writeBoot_99 ?_
    refine v_aload_n C dX8_writeBoot_102 rfl rfl ?_
    refine gf_X8_19 C dX8_writeBoot_103 ?_
    refine gf_X8_119 C (by decide) dX8_writeBoot_106 ?_
    refine gf_X8_248 C (by decide) dX8_writeBoot_109 ?_
    refine v_iload_n C dX8_writeBoot_112 rfl rfl ?_
    refine v_iald (n := 12) C (bsm_K10 (by decide)) (bsc_K10 (by decide)) hi1 dX8_writeBoot_113 ?_
    obtain ⟨r3, hc4, hf⟩ := bs_bind hf
    refine v_callVv (y := yX7_putNumber) (As := [.int (X 0 10 0 (bsIx x1))]) (rest := []) C (cX7_putNumber_ok  hc4) ml_X8_340 wyX7_putNumber (bsm_X7) (bsc_X7) rfl dpX7_putNumber ⟨Nat.le_of_ble_eq_true rfl, Nat.le_of_ble_eq_true rfl⟩ ⟨rfl, rfl⟩ ⟨Nat.le_of_ble_eq_true rfl, Nat.le_of_ble_eq_true rfl⟩ rfl (Nat.le_of_ble_eq_true rfl) dX8_writeBoot_114 ?_
    exact v_vret C hf dX8_writeBoot_117
  · replace hf := bs_neg h7 hf
    refine v_aload_n C dX8_writeBoot_86 rfl rfl ?_
    refine gf_X8_40 C dX8_writeBoot_87 ?_
    refine v_bipush (v := 114) C dX8_writeBoot_90 (by decide) ?_
    obtain ⟨r5, hc6, hf⟩ := bs_bind hf
    refine v_callVv (y := yX7_put) (As := [.int (114 : Int32)]) (rest := []) C (cX7_put_ok  hc6) ml_X8_329 wyX7_put (bsm_X7) (bsc_X7) rfl dpX7_put ⟨Nat.le_of_ble_eq_true rfl, Nat.le_of_ble_eq_true rfl⟩ ⟨rfl, rfl⟩ ⟨Nat.le_of_ble_eq_true rfl, Nat.le_of_ble_eq_true rfl⟩ rfl (Nat.le_of_ble_eq_true rfl) dX8_writeBoot_92 ?_
    refine v_goto (tgt := 117) C dX8_writeBoot_95 (by decide) ?_
    exact v_vret C hf dX8_writeBoot_117
set_option maxHeartbeats 4000000 in
set_option maxRecDepth 100000 in
theorem cX8_writeBoot_ok {l : Launch} {ρ : bsR} {cA : Nat → ClassId} {dC : Nat → ClassId} {dI : Nat → Nat → Nat} {Rz : va_W}  {a1 : Int32} {X : bsX} {z : bsX} (hf : fX8_writeBoot a1 X = some z) : bsMv l yX8_writeBoot cX8_writeBoot 3 none rmX8_writeBoot ρ cA dC dI Rz [.ref (ρ 13 0 0), .int a1] X z := by
  refine bsMv_of (by decide) (Nat.le_of_ble_eq_true rfl) (fun p e s m args below meth c C => ?_)
  have C : bsCx p m c cX8_writeBoot 3 s args (Cond.code yX8_writeBoot cX8_writeBoot 3 none :: bsG) RX8 ρ cA dC dI Rz meth none := C
  rw [fX8_writeBoot] at hf
  refine v_sub [0, 1] rfl ?_
  refine v_iload_n C dX8_writeBoot_0 rfl rfl ?_
  refine v_if_lt (tgt := 10) C dX8_writeBoot_1 (by decide) (fun h18 => ?_) (fun h18 => ?_)
  · replace hf := bs_pos h18 hf
    exact v_vret C hf dX8_writeBoot_10
  · replace hf := bs_neg h18 hf
    refine v_iload_n C dX8_writeBoot_4 rfl rfl ?_
    refine v_bipush (v := 12) C dX8_writeBoot_5 (by decide) ?_
    refine v_icmp_lt (tgt := 11) C dX8_writeBoot_7 (by decide) (fun h17 => ?_) (fun h17 => ?_)
    · replace hf := bs_pos h17 hf
      refine v_aload_n C dX8_writeBoot_11 rfl rfl ?_
      refine gf_X8_40 C dX8_writeBoot_12 ?_
      refine v_aload_n C dX8_writeBoot_15 rfl rfl ?_
      refine gf_X8_19 C dX8_writeBoot_16 ?_
      refine gf_X8_119 C (by decide) dX8_writeBoot_19 ?_
      refine gf_X8_239 C (by decide) dX8_writeBoot_22 ?_
      refine v_iload_n C dX8_writeBoot_25 rfl rfl ?_
      obtain ⟨hi8, hf⟩ := bs_if hf
      refine v_iald (n := 12) C (bsm_K7 (by decide)) (bsc_K7 (by decide)) hi8 dX8_writeBoot_26 ?_
      obtain ⟨r9, hc10, hf⟩ := bs_bind hf
      refine v_callVv (y := yX7_putNumber) (As := [.int (X 0 7 0 (bsIx a1))]) (rest := []) C (cX7_putNumber_ok  hc10) ml_X8_340 wyX7_putNumber (bsm_X7) (bsc_X7) rfl dpX7_putNumber ⟨Nat.le_of_ble_eq_true rfl, Nat.le_of_ble_eq_true rfl⟩ ⟨rfl, rfl⟩ ⟨Nat.le_of_ble_eq_true rfl, Nat.le_of_ble_eq_true rfl⟩ rfl (Nat.le_of_ble_eq_true rfl) dX8_writeBoot_27 ?_
      refine v_aload_n C dX8_writeBoot_30 rfl rfl ?_
      refine gf_X8_19 C dX8_writeBoot_31 ?_
      refine gf_X8_119 C (by decide) dX8_writeBoot_34 ?_
      refine gf_X8_243 C (by decide) dX8_writeBoot_37 ?_
      refine v_iload_n C dX8_writeBoot_40 rfl rfl ?_
      refine v_iald (n := 12) C (bsm_K8 (by decide)) (bsc_K8 (by decide)) hi8 dX8_writeBoot_41 ?_
      refine v_istore_n (lv' := [(2, .int (r9 0 8 0 (bsIx a1))), (0, .ref (ρ 13 0 0)), (1, .int a1)]) C dX8_writeBoot_42 rfl (by decide) rfl ?_
      refine v_iload_n C dX8_writeBoot_43 rfl rfl ?_
      refine v_if_lt (tgt := 71) C dX8_writeBoot_44 (by decide) (fun h16 => ?_) (fun h16 => ?_)
      · replace hf := bs_pos h16 hf
        refine v_sub [1, 2] rfl ?_
        exact wX8_writeBoot_71   C  _ _  hf
      · replace hf := bs_neg h16 hf
        refine v_iload_n C dX8_writeBoot_47 rfl rfl ?_
        refine v_ldcSw (tx := "prchi") (t := 7) C (by decide +kernel) dX8_writeBoot_48 ?_
        refine v_callTi (y := yJ0_length_8abf5) (As := []) (rest := [.int (r9 0 8 0 (bsIx a1))]) C (by decide) rfl (cJ0_length_8abf5_ok (by decide)) ml_X8_351 wyJ0_length_8abf5 dpJ0_length_8abf5 ⟨Nat.le_of_ble_eq_true rfl, Nat.le_of_ble_eq_true rfl⟩ ⟨rfl, rfl⟩ ⟨Nat.zero_le _, Nat.zero_le _⟩ rfl (Nat.le_of_ble_eq_true rfl) dX8_writeBoot_51 ?_
        refine v_icmp_ge (tgt := 71) C dX8_writeBoot_54 (by decide) (fun h15 => ?_) (fun h15 => ?_)
        · replace hf := bs_pos h15 hf
          refine v_sub [1, 2] rfl ?_
          exact wX8_writeBoot_71   C  _ _  hf
        · replace hf := bs_neg h15 hf
          refine v_aload_n C dX8_writeBoot_57 rfl rfl ?_
          refine gf_X8_40 C dX8_writeBoot_58 ?_
          refine v_ldcSw (tx := "prchi") (t := 7) C (by decide +kernel) dX8_writeBoot_61 ?_
          refine v_iload_n C dX8_writeBoot_64 rfl rfl ?_
          obtain ⟨hi12, hf⟩ := bs_if hf
          refine v_callTi (y := yJ0_charAt_5068e) (As := [.int (r9 0 8 0 (bsIx a1))]) (rest := [.ref (ρ 13 2 0)]) C (by decide) rfl (cJ0_charAt_5068e_ok (by decide) hi12) ml_X8_355 wyJ0_charAt_5068e dpJ0_charAt_5068e ⟨Nat.le_of_ble_eq_true rfl, Nat.le_of_ble_eq_true rfl⟩ ⟨rfl, rfl⟩ ⟨Nat.zero_le _, Nat.zero_le _⟩ rfl (Nat.le_of_ble_eq_true rfl) dX8_writeBoot_65 ?_
          obtain ⟨r13, hc14, hf⟩ := bs_bind hf
          refine v_callVv (y := yX7_put) (As := [.int (bsChr 7 (bsIx (r9 0 8 0 (bsIx a1))))]) (rest := []) C (cX7_put_ok  hc14) ml_X8_329 wyX7_put (bsm_X7) (bsc_X7) rfl dpX7_put ⟨Nat.le_of_ble_eq_true rfl, Nat.le_of_ble_eq_true rfl⟩ ⟨rfl, rfl⟩ ⟨Nat.le_of_ble_eq_true rfl, Nat.le_of_ble_eq_true rfl⟩ rfl (Nat.le_of_ble_eq_true rfl) dX8_writeBoot_68 ?_
          refine v_sub [1, 2] rfl ?_
          exact wX8_writeBoot_71   C  _ _  hf
    · replace hf := bs_neg h17 hf
      exact v_vret C hf dX8_writeBoot_10
/-! BootSlots.writeBoots()I -/
def fX8_writeBoots_58 (k26 : Int32 → Int32 → bsX → Option bsXr) (x1 : Int32) (x2 : Int32) (X : bsX) : Option bsXr := k26 x1 (x2 + (-1 : Int32)) X
def fX8_writeBoots_26 : Nat → Int32 → Int32 → bsX → Option bsXr
  | 0, _, _, _ => none
  | n + 1, x1, x2, X => if x2 < 0 then (if x1 = 0 then ((fX7_put  (45 : Int32) X).bind fun r1 => some (0, (r1 13 2 0 1), r1)) else (some (0, (X 13 2 0 1), X))) else ((fX0_rowOf 0 x2 X).bind fun r4 => (fX8_writeBoot  r4.1 r4.2).bind fun r6 => if x2 ≤ 0 then (fX8_writeBoots_58  (fX8_writeBoots_26  n) x1 x2 r6) else ((fX7_put  (32 : Int32) r6).bind fun r8 => fX8_writeBoots_58  (fX8_writeBoots_26  n) x1 x2 r8))
def fX8_writeBoots (X : bsX) : Option bsXr := (fX8_requireLoaded   X).bind fun r12 => if r12.1 = 0 then ((fX7_clear   r12.2.2).bind fun r15 => (fX0_kept 0  r15).bind fun r17 => fX8_writeBoots_26   bsF r17.1 (r17.1 - (1 : Int32)) r17.2) else some (r12.1, (0 : Int32), r12.2.2)
abbrev rmX8_writeBoots : Room := { frames := 7, cells := 1, slots := 6, locals := 107 }
set_option maxHeartbeats 4000000 in
set_option maxRecDepth 100000 in
theorem wX8_writeBoots_58 {p : Program} {l : Launch} {e : Env} {s : State} {m : MethodId} {args : Array Value} {below : List Frame} {meth : Method} {c : Code} {ρ : bsR} {cA : Nat → ClassId} {dC : Nat → ClassId} {dI : Nat → Nat → Nat} {Rz : va_W} {Ts : List Cond}  (k26 : Int32 → Int32 → bsX → Option bsXr)  {z : bsXr} (C : bsCx p m c cX8_writeBoots 3 s args Ts RX8 ρ cA dC dI Rz meth (some .int)) (T0 : ∀ x ∈ c.exceptionTable.toList, False) (hst : l.stackTraces = false) (hk26 : ∀ (x1 : Int32) (x2 : Int32) (X : bsX), k26 x1 x2 X = some z → bsV p l e rmX8_writeBoots s m args below meth c 1 6 (vx_MQ below (bsXQi ρ cA dC dI Rz z s.heap.size) (bsXX ρ cA dC dI Rz z s.heap.size) args s rmX8_writeBoots.cells rmX8_writeBoots.slots (bsA ρ cA Rz s.heap.size)) ρ cA dC dI Rz 3 26 [(0, .ref (ρ 13 0 0)), (1, .int x1), (2, .int x2)] [] X)  (x1 : Int32) (x2 : Int32) (X : bsX) (hf : fX8_writeBoots_58 k26 x1 x2 X = some z) : bsV p l e rmX8_writeBoots s m args below meth c 1 6 (vx_MQ below (bsXQi ρ cA dC dI Rz z s.heap.size) (bsXX ρ cA dC dI Rz z s.heap.size) args s rmX8_writeBoots.cells rmX8_writeBoots.slots (bsA ρ cA Rz s.heap.size)) ρ cA dC dI Rz 3 58 [(0, .ref (ρ 13 0 0)), (1, .int x1), (2, .int x2)] [] X := by
  rw [fX8_writeBoots_58] at hf
  refine v_iinc (k0 := 2) (v := (x2 + (-1 : Int32))) (lv' := [(2, .int (x2 + (-1 : Int32))), (0, .ref (ρ 13 0 0)), (1, .int x1)]) C dX8_writeBoots_58 rfl rfl (by decide) rfl ?_
  refine v_goto (tgt := 26) C dX8_writeBoots_61 (by decide) ?_
  refine v_widen (k := 1) (n := 6) (Nat.le_of_ble_eq_true rfl) (Nat.le_of_ble_eq_true rfl) ?_
  refine v_sub [1, 2, 0] rfl ?_
  exact hk26 _ _ _  hf
set_option maxHeartbeats 4000000 in
set_option maxRecDepth 100000 in
theorem wX8_writeBoots_26 {p : Program} {l : Launch} {e : Env} {s : State} {m : MethodId} {args : Array Value} {below : List Frame} {meth : Method} {c : Code} {ρ : bsR} {cA : Nat → ClassId} {dC : Nat → ClassId} {dI : Nat → Nat → Nat} {Rz : va_W} {Ts : List Cond}   {z : bsXr} (C : bsCx p m c cX8_writeBoots 3 s args Ts RX8 ρ cA dC dI Rz meth (some .int)) (T0 : ∀ x ∈ c.exceptionTable.toList, False) (hst : l.stackTraces = false) : ∀ (n : Nat) (x1 : Int32) (x2 : Int32) (X : bsX), fX8_writeBoots_26  n x1 x2 X = some z → bsV p l e rmX8_writeBoots s m args below meth c 1 6 (vx_MQ below (bsXQi ρ cA dC dI Rz z s.heap.size) (bsXX ρ cA dC dI Rz z s.heap.size) args s rmX8_writeBoots.cells rmX8_writeBoots.slots (bsA ρ cA Rz s.heap.size)) ρ cA dC dI Rz 3 26 [(0, .ref (ρ 13 0 0)), (1, .int x1), (2, .int x2)] [] X := by
  intro n
  induction n with
  | zero => intro x1 x2 X hf; exact (nomatch hf)
  | succ n ih =>
    intro x1 x2 X hf
    rw [fX8_writeBoots_26] at hf
    refine v_iload_n C dX8_writeBoots_26 rfl rfl ?_
    refine v_if_lt (tgt := 64) C dX8_writeBoots_27 (by decide) (fun h11 => ?_) (fun h11 => ?_)
    · replace hf := bs_pos h11 hf
      refine v_iload_n C dX8_writeBoots_64 rfl rfl ?_
      refine v_if_ne (tgt := 77) C dX8_writeBoots_65 (by decide) (fun h3 => ?_) (fun h3 => ?_)
      · replace hf := bs_neg h3 hf
        refine v_aload_n C dX8_writeBoots_77 rfl rfl ?_
        refine gf_X8_40 C dX8_writeBoots_78 ?_
        refine gf_X8_337 C dX8_writeBoots_81 ?_
        exact v_tiret C hf (Nat.le_of_ble_eq_true rfl) (Nat.le_of_ble_eq_true rfl) dX8_writeBoots_84
      · replace hf := bs_pos h3 hf
        refine v_aload_n C dX8_writeBoots_68 rfl rfl ?_
        refine gf_X8_40 C dX8_writeBoots_69 ?_
        refine v_bipush (v := 45) C dX8_writeBoots_72 (by decide) ?_
        obtain ⟨r1, hc2, hf⟩ := bs_bind hf
        refine v_callVv (y := yX7_put) (As := [.int (45 : Int32)]) (rest := []) C (cX7_put_ok  hc2) ml_X8_329 wyX7_put (bsm_X7) (bsc_X7) rfl dpX7_put ⟨Nat.le_of_ble_eq_true rfl, Nat.le_of_ble_eq_true rfl⟩ ⟨rfl, rfl⟩ ⟨Nat.le_of_ble_eq_true rfl, Nat.le_of_ble_eq_true rfl⟩ rfl (Nat.le_of_ble_eq_true rfl) dX8_writeBoots_74 ?_
        refine v_aload_n C dX8_writeBoots_77 rfl rfl ?_
        refine gf_X8_40 C dX8_writeBoots_78 ?_
        refine gf_X8_337 C dX8_writeBoots_81 ?_
        exact v_tiret C hf (Nat.le_of_ble_eq_true rfl) (Nat.le_of_ble_eq_true rfl) dX8_writeBoots_84
    · replace hf := bs_neg h11 hf
      refine v_aload_n C dX8_writeBoots_30 rfl rfl ?_
      refine v_aload_n C dX8_writeBoots_31 rfl rfl ?_
      refine gf_X8_19 C dX8_writeBoots_32 ?_
      refine gf_X8_119 C (by decide) dX8_writeBoots_35 ?_
      refine v_iload_n C dX8_writeBoots_38 rfl rfl ?_
      obtain ⟨r4, hc5, hf⟩ := bs_bind hf
      refine v_callVi (y := yX0_rowOf) (As := [.int x2]) (rest := [.ref (ρ 13 0 0)]) C (cX0_rowOf_ok (by decide) hc5) ml_X8_235 wyX0_rowOf (bsm_X0 (by decide)) (bsc_X0 (by decide)) rfl dpX0_rowOf ⟨Nat.le_of_ble_eq_true rfl, Nat.le_of_ble_eq_true rfl⟩ ⟨rfl, rfl⟩ ⟨Nat.le_of_ble_eq_true rfl, Nat.le_of_ble_eq_true rfl⟩ rfl (Nat.le_of_ble_eq_true rfl) dX8_writeBoots_39 ?_
      obtain ⟨r6, hc7, hf⟩ := bs_bind hf
      refine v_callVv (y := yX8_writeBoot) (As := [.int r4.1]) (rest := []) C (cX8_writeBoot_ok  hc7) ml_X8_346 wyX8_writeBoot (bsm_X8) (bsc_X8) rfl dpX8_writeBoot ⟨Nat.le_of_ble_eq_true rfl, Nat.le_of_ble_eq_true rfl⟩ ⟨rfl, rfl⟩ ⟨Nat.le_of_ble_eq_true rfl, Nat.le_of_ble_eq_true rfl⟩ rfl (Nat.le_of_ble_eq_true rfl) dX8_writeBoots_42 ?_
      refine v_iload_n C dX8_writeBoots_45 rfl rfl ?_
      refine v_if_le (tgt := 58) C dX8_writeBoots_46 (by decide) (fun h10 => ?_) (fun h10 => ?_)
      · replace hf := bs_pos h10 hf
        refine v_widen (k := 1) (n := 6) (Nat.le_of_ble_eq_true rfl) (Nat.le_of_ble_eq_true rfl) ?_
        refine v_sub [0, 1, 2] rfl ?_
        exact wX8_writeBoots_58  (fX8_writeBoots_26  n) C T0 hst (fun b0 b1 X  h => ih b0 b1 X  h) _ _ _  hf
      · replace hf := bs_neg h10 hf
        refine v_aload_n C dX8_writeBoots_49 rfl rfl ?_
        refine gf_X8_40 C dX8_writeBoots_50 ?_
        refine v_bipush (v := 32) C dX8_writeBoots_53 (by decide) ?_
        obtain ⟨r8, hc9, hf⟩ := bs_bind hf
        refine v_callVv (y := yX7_put) (As := [.int (32 : Int32)]) (rest := []) C (cX7_put_ok  hc9) ml_X8_329 wyX7_put (bsm_X7) (bsc_X7) rfl dpX7_put ⟨Nat.le_of_ble_eq_true rfl, Nat.le_of_ble_eq_true rfl⟩ ⟨rfl, rfl⟩ ⟨Nat.le_of_ble_eq_true rfl, Nat.le_of_ble_eq_true rfl⟩ rfl (Nat.le_of_ble_eq_true rfl) dX8_writeBoots_55 ?_
        refine v_widen (k := 1) (n := 6) (Nat.le_of_ble_eq_true rfl) (Nat.le_of_ble_eq_true rfl) ?_
        refine v_sub [0, 1, 2] rfl ?_
        exact wX8_writeBoots_58  (fX8_writeBoots_26  n) C T0 hst (fun b0 b1 X  h => ih b0 b1 X  h) _ _ _  hf
set_option maxHeartbeats 4000000 in
set_option maxRecDepth 100000 in
theorem cX8_writeBoots_ok {l : Launch} {ρ : bsR} {cA : Nat → ClassId} {dC : Nat → ClassId} {dI : Nat → Nat → Nat} {Rz : va_W} (hst : l.stackTraces = false)  {X : bsX} {z : bsXr} (hf : fX8_writeBoots  X = some z) : bsTi l yX8_writeBoots cX8_writeBoots 3 (some .int) rmX8_writeBoots ρ cA dC dI Rz [.ref (ρ 13 0 0)] X z := by
  refine bsTi_of (by decide) (Nat.le_of_ble_eq_true rfl) (fun p e s m args below meth c C T0 => ?_)
  have C : bsCx p m c cX8_writeBoots 3 s args (Cond.code yX8_writeBoots cX8_writeBoots 3 (some .int) :: bsG) RX8 ρ cA dC dI Rz meth (some .int) := C
  rw [fX8_writeBoots] at hf
  refine v_sub [0] rfl ?_
  refine v_aload_n C dX8_writeBoots_0 rfl rfl ?_
  obtain ⟨r12, hc13, hf⟩ := bs_bind hf
  refine v_ticallVv (y := yX8_requireLoaded) (As := []) (rest := []) C T0 (cX8_requireLoaded_ok hst  hc13) ml_X8_82 wyX8_requireLoaded (bsm_X8) (bsc_X8) rfl dpX8_requireLoaded ⟨Nat.le_of_ble_eq_true rfl, Nat.le_of_ble_eq_true rfl⟩ ⟨Nat.le_of_ble_eq_true rfl, Nat.le_of_ble_eq_true rfl⟩ (Nat.le_of_ble_eq_true rfl) (Nat.le_of_ble_eq_true rfl) rfl (Nat.le_of_ble_eq_true rfl) dX8_writeBoots_1 (fun h => bs_neg h hf) (fun h14 => ?_)
  replace hf := bs_pos h14 hf
  refine v_aload_n C dX8_writeBoots_4 rfl rfl ?_
  refine gf_X8_40 C dX8_writeBoots_5 ?_
  obtain ⟨r15, hc16, hf⟩ := bs_bind hf
  refine v_callVv (y := yX7_clear) (As := []) (rest := []) C (cX7_clear_ok  hc16) ml_X8_326 wyX7_clear (bsm_X7) (bsc_X7) rfl dpX7_clear ⟨Nat.le_of_ble_eq_true rfl, Nat.le_of_ble_eq_true rfl⟩ ⟨rfl, rfl⟩ ⟨Nat.le_of_ble_eq_true rfl, Nat.le_of_ble_eq_true rfl⟩ rfl (Nat.le_of_ble_eq_true rfl) dX8_writeBoots_8 ?_
  refine v_aload_n C dX8_writeBoots_11 rfl rfl ?_
  refine gf_X8_19 C dX8_writeBoots_12 ?_
  refine gf_X8_119 C (by decide) dX8_writeBoots_15 ?_
  obtain ⟨r17, hc18, hf⟩ := bs_bind hf
  refine v_callVi (y := yX0_kept) (As := []) (rest := []) C (cX0_kept_ok (by decide) hc18) ml_X8_274 wyX0_kept (bsm_X0 (by decide)) (bsc_X0 (by decide)) rfl dpX0_kept ⟨Nat.le_of_ble_eq_true rfl, Nat.le_of_ble_eq_true rfl⟩ ⟨rfl, rfl⟩ ⟨Nat.le_of_ble_eq_true rfl, Nat.le_of_ble_eq_true rfl⟩ rfl (Nat.le_of_ble_eq_true rfl) dX8_writeBoots_18 ?_
  refine v_istore_n (lv' := [(1, .int r17.1), (0, .ref (ρ 13 0 0))]) C dX8_writeBoots_21 rfl (by decide) rfl ?_
  refine v_iload_n C dX8_writeBoots_22 rfl rfl ?_
  refine v_iconst (v := 1) C dX8_writeBoots_23 (by decide) ?_
  refine v_isub C dX8_writeBoots_24 ?_
  refine v_istore_n (lv' := [(2, .int (r17.1 - (1 : Int32))), (1, .int r17.1), (0, .ref (ρ 13 0 0))]) C dX8_writeBoots_25 rfl (by decide) rfl ?_
  refine v_widen (k := 1) (n := 6) (Nat.le_of_ble_eq_true rfl) (Nat.le_of_ble_eq_true rfl) ?_
  refine v_sub [2, 1, 0] rfl ?_
  exact wX8_writeBoots_26   C T0 hst  bsF _ _ _  hf
/-! BootSlots.writeImageLine(LBootSlots$Slot;)V -/
def fX8_writeImageLine_83 (j1 : Nat) (X : bsX) : Option bsX := if (X 0 6 j1 5) = 0 then (some X) else ((fX7_putWord 11  X).bind fun r1 => some r1)
def fX8_writeImageLine (j1 : Nat) (X : bsX) : Option bsX := (fX7_putWord 9  X).bind fun r4 => (fX7_putBlankAndNumber  (nI j1) r4).bind fun r6 => (fX7_putBlankAndNumber  (r6 0 6 j1 1) r6).bind fun r8 => (fX7_putBlankAndNumber  (r8 0 6 j1 2) r8).bind fun r10 => (fX7_putBlankAndNumber  (r10 0 6 j1 3) r10).bind fun r12 => if (r12 0 6 j1 4) = 0 then (fX8_writeImageLine_83 j1   r12) else ((fX7_putWord 10  r12).bind fun r14 => fX8_writeImageLine_83 j1   r14)
abbrev rmX8_writeImageLine : Room := { frames := 5, cells := 0, slots := 0, locals := 107 }
set_option maxHeartbeats 4000000 in
set_option maxRecDepth 100000 in
theorem wX8_writeImageLine_83 {p : Program} {l : Launch} {e : Env} {s : State} {m : MethodId} {args : Array Value} {below : List Frame} {meth : Method} {c : Code} {ρ : bsR} {cA : Nat → ClassId} {dC : Nat → ClassId} {dI : Nat → Nat → Nat} {Rz : va_W} {Ts : List Cond} {j1 : Nat} (hj1 : j1 < 6)  {z : bsX} (C : bsCx p m c cX8_writeImageLine 2 s args Ts RX8 ρ cA dC dI Rz meth none) (X : bsX) (hf : fX8_writeImageLine_83 j1 X = some z) : bsV p l e rmX8_writeImageLine s m args below meth c 0 0 (MQ below (bsQv ρ cA dC dI Rz z s.heap.size) args s 0 0 (bsA ρ cA Rz s.heap.size)) ρ cA dC dI Rz 2 83 [(0, .ref (ρ 13 0 0)), (1, .ref (ρ 0 5 j1))] [] X := by
  rw [fX8_writeImageLine_83] at hf
  refine v_aload_n C dX8_writeImageLine_83 rfl rfl ?_
  refine gf_X8_162 C (by decide) hj1 dX8_writeImageLine_84 ?_
  refine gf_X8_214 C (by decide) (Nat.lt_succ_of_lt hj1) dX8_writeImageLine_87 ?_
  refine v_if_eq (tgt := 103) C dX8_writeImageLine_90 (by decide) (fun h3 => ?_) (fun h3 => ?_)
  · replace hf := bs_pos h3 hf
    exact v_vret C hf dX8_writeImageLine_103
  · replace hf := bs_neg h3 hf
    refine v_aload_n C dX8_writeImageLine_93 rfl rfl ?_
    refine gf_X8_40 C dX8_writeImageLine_94 ?_
    refine v_ldcSw (tx := " damaged") (t := 11) C (by decide +kernel) dX8_writeImageLine_97 ?_
    obtain ⟨r1, hc2, hf⟩ := bs_bind hf
    refine v_callVv (y := yX7_putWord) (As := [.ref (ρ 16 0 11)]) (rest := []) C (cX7_putWord_ok (by decide) hc2) ml_X8_360 wyX7_putWord (bsm_X7) (bsc_X7) rfl dpX7_putWord ⟨Nat.le_of_ble_eq_true rfl, Nat.le_of_ble_eq_true rfl⟩ ⟨rfl, rfl⟩ ⟨Nat.le_of_ble_eq_true rfl, Nat.le_of_ble_eq_true rfl⟩ rfl (Nat.le_of_ble_eq_true rfl) dX8_writeImageLine_100 ?_
    exact v_vret C hf dX8_writeImageLine_103
set_option maxHeartbeats 4000000 in
set_option maxRecDepth 100000 in
theorem cX8_writeImageLine_ok {l : Launch} {ρ : bsR} {cA : Nat → ClassId} {dC : Nat → ClassId} {dI : Nat → Nat → Nat} {Rz : va_W} {j1 : Nat} (hj1 : j1 < 6) {X : bsX} {z : bsX} (hf : fX8_writeImageLine j1 X = some z) : bsMv l yX8_writeImageLine cX8_writeImageLine 2 none rmX8_writeImageLine ρ cA dC dI Rz [.ref (ρ 13 0 0), .ref (ρ 0 5 j1)] X z := by
  refine bsMv_of (by decide) (Nat.le_of_ble_eq_true rfl) (fun p e s m args below meth c C => ?_)
  have C : bsCx p m c cX8_writeImageLine 2 s args (Cond.code yX8_writeImageLine cX8_writeImageLine 2 none :: bsG) RX8 ρ cA dC dI Rz meth none := C
  rw [fX8_writeImageLine] at hf
  refine v_sub [0, 1] rfl ?_
  refine v_aload_n C dX8_writeImageLine_0 rfl rfl ?_
  refine gf_X8_40 C dX8_writeImageLine_1 ?_
  refine v_ldcSw (tx := ";image") (t := 9) C (by decide +kernel) dX8_writeImageLine_4 ?_
  obtain ⟨r4, hc5, hf⟩ := bs_bind hf
  refine v_callVv (y := yX7_putWord) (As := [.ref (ρ 16 0 9)]) (rest := []) C (cX7_putWord_ok (by decide) hc5) ml_X8_360 wyX7_putWord (bsm_X7) (bsc_X7) rfl dpX7_putWord ⟨Nat.le_of_ble_eq_true rfl, Nat.le_of_ble_eq_true rfl⟩ ⟨rfl, rfl⟩ ⟨Nat.le_of_ble_eq_true rfl, Nat.le_of_ble_eq_true rfl⟩ rfl (Nat.le_of_ble_eq_true rfl) dX8_writeImageLine_7 ?_
  refine v_aload_n C dX8_writeImageLine_10 rfl rfl ?_
  refine gf_X8_40 C dX8_writeImageLine_11 ?_
  refine v_aload_n C dX8_writeImageLine_14 rfl rfl ?_
  refine gf_X8_343 C (by decide) hj1 dX8_writeImageLine_15 ?_
  obtain ⟨r6, hc7, hf⟩ := bs_bind hf
  refine v_callVv (y := yX7_putBlankAndNumber) (As := [.int (nI j1)]) (rest := []) C (cX7_putBlankAndNumber_ok  hc7) ml_X8_364 wyX7_putBlankAndNumber (bsm_X7) (bsc_X7) rfl dpX7_putBlankAndNumber ⟨Nat.le_of_ble_eq_true rfl, Nat.le_of_ble_eq_true rfl⟩ ⟨rfl, rfl⟩ ⟨Nat.le_of_ble_eq_true rfl, Nat.le_of_ble_eq_true rfl⟩ rfl (Nat.le_of_ble_eq_true rfl) dX8_writeImageLine_18 ?_
  refine v_aload_n C dX8_writeImageLine_21 rfl rfl ?_
  refine gf_X8_40 C dX8_writeImageLine_22 ?_
  refine v_aload_n C dX8_writeImageLine_25 rfl rfl ?_
  refine gf_X8_162 C (by decide) hj1 dX8_writeImageLine_26 ?_
  refine gf_X8_202 C (by decide) (Nat.lt_succ_of_lt hj1) dX8_writeImageLine_29 ?_
  obtain ⟨r8, hc9, hf⟩ := bs_bind hf
  refine v_callVv (y := yX7_putBlankAndNumber) (As := [.int (r6 0 6 j1 1)]) (rest := []) C (cX7_putBlankAndNumber_ok  hc9) ml_X8_364 wyX7_putBlankAndNumber (bsm_X7) (bsc_X7) rfl dpX7_putBlankAndNumber ⟨Nat.le_of_ble_eq_true rfl, Nat.le_of_ble_eq_true rfl⟩ ⟨rfl, rfl⟩ ⟨Nat.le_of_ble_eq_true rfl, Nat.le_of_ble_eq_true rfl⟩ rfl (Nat.le_of_ble_eq_true rfl) dX8_writeImageLine_32 ?_
  refine v_aload_n C dX8_writeImageLine_35 rfl rfl ?_
  refine gf_X8_40 C dX8_writeImageLine_36 ?_
  refine v_aload_n C dX8_writeImageLine_39 rfl rfl ?_
  refine gf_X8_162 C (by decide) hj1 dX8_writeImageLine_40 ?_
  refine gf_X8_205 C (by decide) (Nat.lt_succ_of_lt hj1) dX8_writeImageLine_43 ?_
  obtain ⟨r10, hc11, hf⟩ := bs_bind hf
  refine v_callVv (y := yX7_putBlankAndNumber) (As := [.int (r8 0 6 j1 2)]) (rest := []) C (cX7_putBlankAndNumber_ok  hc11) ml_X8_364 wyX7_putBlankAndNumber (bsm_X7) (bsc_X7) rfl dpX7_putBlankAndNumber ⟨Nat.le_of_ble_eq_true rfl, Nat.le_of_ble_eq_true rfl⟩ ⟨rfl, rfl⟩ ⟨Nat.le_of_ble_eq_true rfl, Nat.le_of_ble_eq_true rfl⟩ rfl (Nat.le_of_ble_eq_true rfl) dX8_writeImageLine_46 ?_
  refine v_aload_n C dX8_writeImageLine_49 rfl rfl ?_
  refine gf_X8_40 C dX8_writeImageLine_50 ?_
  refine v_aload_n C dX8_writeImageLine_53 rfl rfl ?_
  refine gf_X8_162 C (by decide) hj1 dX8_writeImageLine_54 ?_
  refine gf_X8_208 C (by decide) (Nat.lt_succ_of_lt hj1) dX8_writeImageLine_57 ?_
  obtain ⟨r12, hc13, hf⟩ := bs_bind hf
  refine v_callVv (y := yX7_putBlankAndNumber) (As := [.int (r10 0 6 j1 3)]) (rest := []) C (cX7_putBlankAndNumber_ok  hc13) ml_X8_364 wyX7_putBlankAndNumber (bsm_X7) (bsc_X7) rfl dpX7_putBlankAndNumber ⟨Nat.le_of_ble_eq_true rfl, Nat.le_of_ble_eq_true rfl⟩ ⟨rfl, rfl⟩ ⟨Nat.le_of_ble_eq_true rfl, Nat.le_of_ble_eq_true rfl⟩ rfl (Nat.le_of_ble_eq_true rfl) dX8_writeImageLine_60 ?_
  refine v_aload_n C dX8_writeImageLine_63 rfl rfl ?_
  refine gf_X8_162 C (by decide) hj1 dX8_writeImageLine_64 ?_
  refine gf_X8_211 C (by decide) (Nat.lt_succ_of_lt hj1) dX8_writeImageLine_67 ?_
  refine v_if_eq (tgt := 83) C dX8_writeImageLine_70 (by decide) (fun h16 => ?_) (fun h16 => ?_)
  · replace hf := bs_pos h16 hf
    refine v_sub [0, 1] rfl ?_
    exact wX8_writeImageLine_83 hj1  C  _  hf
  · replace hf := bs_neg h16 hf
    refine v_aload_n C dX8_writeImageLine_73 rfl rfl ?_
    refine gf_X8_40 C dX8_writeImageLine_74 ?_
    refine v_ldcSw (tx := " unsigned") (t := 10) C (by decide +kernel) dX8_writeImageLine_77 ?_
    obtain ⟨r14, hc15, hf⟩ := bs_bind hf
    refine v_callVv (y := yX7_putWord) (As := [.ref (ρ 16 0 10)]) (rest := []) C (cX7_putWord_ok (by decide) hc15) ml_X8_360 wyX7_putWord (bsm_X7) (bsc_X7) rfl dpX7_putWord ⟨Nat.le_of_ble_eq_true rfl, Nat.le_of_ble_eq_true rfl⟩ ⟨rfl, rfl⟩ ⟨Nat.le_of_ble_eq_true rfl, Nat.le_of_ble_eq_true rfl⟩ rfl (Nat.le_of_ble_eq_true rfl) dX8_writeImageLine_80 ?_
    refine v_sub [0, 1] rfl ?_
    exact wX8_writeImageLine_83 hj1  C  _  hf
/-! BootSlots.writeMarkLine(LBootSlots$Slot;)V -/
def fX8_writeMarkLine (j1 : Nat) (X : bsX) : Option bsX := (fX7_putWord 12  X).bind fun r1 => (fX7_putBlankAndNumber  (nI j1) r1).bind fun r3 => (fX7_putBlankAndNumber  (r3 0 5 j1 2) r3).bind fun r5 => (fX7_putBlankAndNumber  (r5 0 5 j1 3) r5).bind fun r7 => if (r7 0 5 j1 4) = 0 then (some r7) else ((fX7_putWord 13  r7).bind fun r9 => some r9)
abbrev rmX8_writeMarkLine : Room := { frames := 5, cells := 0, slots := 0, locals := 107 }
set_option maxHeartbeats 4000000 in
set_option maxRecDepth 100000 in
theorem cX8_writeMarkLine_ok {l : Launch} {ρ : bsR} {cA : Nat → ClassId} {dC : Nat → ClassId} {dI : Nat → Nat → Nat} {Rz : va_W} {j1 : Nat} (hj1 : j1 < 6) {X : bsX} {z : bsX} (hf : fX8_writeMarkLine j1 X = some z) : bsMv l yX8_writeMarkLine cX8_writeMarkLine 2 none rmX8_writeMarkLine ρ cA dC dI Rz [.ref (ρ 13 0 0), .ref (ρ 0 5 j1)] X z := by
  refine bsMv_of (by decide) (Nat.le_of_ble_eq_true rfl) (fun p e s m args below meth c C => ?_)
  have C : bsCx p m c cX8_writeMarkLine 2 s args (Cond.code yX8_writeMarkLine cX8_writeMarkLine 2 none :: bsG) RX8 ρ cA dC dI Rz meth none := C
  rw [fX8_writeMarkLine] at hf
  refine v_sub [0, 1] rfl ?_
  refine v_aload_n C dX8_writeMarkLine_0 rfl rfl ?_
  refine gf_X8_40 C dX8_writeMarkLine_1 ?_
  refine v_ldcSw (tx := ";mark") (t := 12) C (by decide +kernel) dX8_writeMarkLine_4 ?_
  obtain ⟨r1, hc2, hf⟩ := bs_bind hf
  refine v_callVv (y := yX7_putWord) (As := [.ref (ρ 16 0 12)]) (rest := []) C (cX7_putWord_ok (by decide) hc2) ml_X8_360 wyX7_putWord (bsm_X7) (bsc_X7) rfl dpX7_putWord ⟨Nat.le_of_ble_eq_true rfl, Nat.le_of_ble_eq_true rfl⟩ ⟨rfl, rfl⟩ ⟨Nat.le_of_ble_eq_true rfl, Nat.le_of_ble_eq_true rfl⟩ rfl (Nat.le_of_ble_eq_true rfl) dX8_writeMarkLine_7 ?_
  refine v_aload_n C dX8_writeMarkLine_10 rfl rfl ?_
  refine gf_X8_40 C dX8_writeMarkLine_11 ?_
  refine v_aload_n C dX8_writeMarkLine_14 rfl rfl ?_
  refine gf_X8_343 C (by decide) hj1 dX8_writeMarkLine_15 ?_
  obtain ⟨r3, hc4, hf⟩ := bs_bind hf
  refine v_callVv (y := yX7_putBlankAndNumber) (As := [.int (nI j1)]) (rest := []) C (cX7_putBlankAndNumber_ok  hc4) ml_X8_364 wyX7_putBlankAndNumber (bsm_X7) (bsc_X7) rfl dpX7_putBlankAndNumber ⟨Nat.le_of_ble_eq_true rfl, Nat.le_of_ble_eq_true rfl⟩ ⟨rfl, rfl⟩ ⟨Nat.le_of_ble_eq_true rfl, Nat.le_of_ble_eq_true rfl⟩ rfl (Nat.le_of_ble_eq_true rfl) dX8_writeMarkLine_18 ?_
  refine v_aload_n C dX8_writeMarkLine_21 rfl rfl ?_
  refine gf_X8_40 C dX8_writeMarkLine_22 ?_
  refine v_aload_n C dX8_writeMarkLine_25 rfl rfl ?_
  refine gf_X8_177 C (by decide) hj1 dX8_writeMarkLine_26 ?_
  obtain ⟨r5, hc6, hf⟩ := bs_bind hf
  refine v_callVv (y := yX7_putBlankAndNumber) (As := [.int (r3 0 5 j1 2)]) (rest := []) C (cX7_putBlankAndNumber_ok  hc6) ml_X8_364 wyX7_putBlankAndNumber (bsm_X7) (bsc_X7) rfl dpX7_putBlankAndNumber ⟨Nat.le_of_ble_eq_true rfl, Nat.le_of_ble_eq_true rfl⟩ ⟨rfl, rfl⟩ ⟨Nat.le_of_ble_eq_true rfl, Nat.le_of_ble_eq_true rfl⟩ rfl (Nat.le_of_ble_eq_true rfl) dX8_writeMarkLine_29 ?_
  refine v_aload_n C dX8_writeMarkLine_32 rfl rfl ?_
  refine gf_X8_40 C dX8_writeMarkLine_33 ?_
  refine v_aload_n C dX8_writeMarkLine_36 rfl rfl ?_
  refine gf_X8_180 C (by decide) hj1 dX8_writeMarkLine_37 ?_
  obtain ⟨r7, hc8, hf⟩ := bs_bind hf
  refine v_callVv (y := yX7_putBlankAndNumber) (As := [.int (r5 0 5 j1 3)]) (rest := []) C (cX7_putBlankAndNumber_ok  hc8) ml_X8_364 wyX7_putBlankAndNumber (bsm_X7) (bsc_X7) rfl dpX7_putBlankAndNumber ⟨Nat.le_of_ble_eq_true rfl, Nat.le_of_ble_eq_true rfl⟩ ⟨rfl, rfl⟩ ⟨Nat.le_of_ble_eq_true rfl, Nat.le_of_ble_eq_true rfl⟩ rfl (Nat.le_of_ble_eq_true rfl) dX8_writeMarkLine_40 ?_
  refine v_aload_n C dX8_writeMarkLine_43 rfl rfl ?_
  refine gf_X8_183 C (by decide) hj1 dX8_writeMarkLine_44 ?_
  refine v_if_eq (tgt := 60) C dX8_writeMarkLine_47 (by decide) (fun h11 => ?_) (fun h11 => ?_)
  · replace hf := bs_pos h11 hf
    exact v_vret C hf dX8_writeMarkLine_60
  · replace hf := bs_neg h11 hf
    refine v_aload_n C dX8_writeMarkLine_50 rfl rfl ?_
    refine gf_X8_40 C dX8_writeMarkLine_51 ?_
    refine v_ldcSw (tx := " good") (t := 13) C (by decide +kernel) dX8_writeMarkLine_54 ?_
    obtain ⟨r9, hc10, hf⟩ := bs_bind hf
    refine v_callVv (y := yX7_putWord) (As := [.ref (ρ 16 0 13)]) (rest := []) C (cX7_putWord_ok (by decide) hc10) ml_X8_360 wyX7_putWord (bsm_X7) (bsc_X7) rfl dpX7_putWord ⟨Nat.le_of_ble_eq_true rfl, Nat.le_of_ble_eq_true rfl⟩ ⟨rfl, rfl⟩ ⟨Nat.le_of_ble_eq_true rfl, Nat.le_of_ble_eq_true rfl⟩ rfl (Nat.le_of_ble_eq_true rfl) dX8_writeMarkLine_57 ?_
    exact v_vret C hf dX8_writeMarkLine_60
/-! BootSlots.writeMachine()I -/
def fX8_writeMachine_158 (k108 : Int32 → bsX → Option bsXr) (x1 : Int32) (X : bsX) : Option bsXr := k108 (x1 + (1 : Int32)) X
def fX8_writeMachine_108 : Nat → Int32 → bsX → Option bsXr
  | 0, _, _ => none
  | n + 1, x1, X => if (6 : Int32) ≤ x1 then (some (0, (X 13 2 0 1), X)) else (if bsIn x1 6 then (if (X 0 6 (bsIx x1) 0) = 0 then (fX8_writeMachine_158  (fX8_writeMachine_108  n) x1 X) else ((fX8_writeImageLine (bsIx x1)  X).bind fun r3 => (fX8_writeMarkLine (bsIx x1)  r3).bind fun r6 => fX8_writeMachine_158  (fX8_writeMachine_108  n) x1 r6)) else none)
def fX8_writeMachine_79 : Nat → Int32 → bsX → Option bsXr
  | 0, _, _ => none
  | n + 1, x1, X => if (X 0 0 0 4) ≤ x1 then (fX8_writeMachine_108   bsF (0 : Int32) X) else ((fX7_putWord 8  X).bind fun r10 => fX8_writeMachine_79 n (x1 + (1 : Int32)) r10)
def fX8_writeMachine (X : bsX) : Option bsXr := (fX8_requireLoaded   X).bind fun r13 => if r13.1 = 0 then ((fX7_clear   r13.2.2).bind fun r16 => (fX7_putWord 0  r16).bind fun r18 => (fX7_putBlankAndNumber  (r18 0 0 0 5) r18).bind fun r20 => (fX7_putBlankAndNumber  (r20 0 0 0 6) r20).bind fun r22 => (fX7_putBlankAndNumber  (r22 0 0 0 7) r22).bind fun r24 => (fX7_putBlankAndNumber  (r24 0 0 0 8) r24).bind fun r26 => fX8_writeMachine_79   bsF (0 : Int32) r26) else some (r13.1, (0 : Int32), r13.2.2)
abbrev rmX8_writeMachine : Room := { frames := 7, cells := 1, slots := 6, locals := 128 }
set_option maxHeartbeats 4000000 in
set_option maxRecDepth 100000 in
theorem wX8_writeMachine_158 {p : Program} {l : Launch} {e : Env} {s : State} {m : MethodId} {args : Array Value} {below : List Frame} {meth : Method} {c : Code} {ρ : bsR} {cA : Nat → ClassId} {dC : Nat → ClassId} {dI : Nat → Nat → Nat} {Rz : va_W} {Ts : List Cond}  (k108 : Int32 → bsX → Option bsXr)  {z : bsXr} (C : bsCx p m c cX8_writeMachine 2 s args Ts RX8 ρ cA dC dI Rz meth (some .int)) (T0 : ∀ x ∈ c.exceptionTable.toList, False) (hst : l.stackTraces = false) (hk108 : ∀ (x1 : Int32) (X : bsX), k108 x1 X = some z → bsV p l e rmX8_writeMachine s m args below meth c 1 6 (vx_MQ below (bsXQi ρ cA dC dI Rz z s.heap.size) (bsXX ρ cA dC dI Rz z s.heap.size) args s rmX8_writeMachine.cells rmX8_writeMachine.slots (bsA ρ cA Rz s.heap.size)) ρ cA dC dI Rz 2 108 [(0, .ref (ρ 13 0 0)), (1, .int x1)] [] X)  (x1 : Int32) (X : bsX) (hf : fX8_writeMachine_158 k108 x1 X = some z) : bsV p l e rmX8_writeMachine s m args below meth c 1 6 (vx_MQ below (bsXQi ρ cA dC dI Rz z s.heap.size) (bsXX ρ cA dC dI Rz z s.heap.size) args s rmX8_writeMachine.cells rmX8_writeMachine.slots (bsA ρ cA Rz s.heap.size)) ρ cA dC dI Rz 2 158 [(0, .ref (ρ 13 0 0)), (1, .int x1)] [] X := by
  rw [fX8_writeMachine_158] at hf
  refine v_iinc (k0 := 1) (v := (x1 + (1 : Int32))) (lv' := [(1, .int (x1 + (1 : Int32))), (0, .ref (ρ 13 0 0))]) C dX8_writeMachine_158 rfl rfl (by decide) rfl ?_
  refine v_goto (tgt := 108) C dX8_writeMachine_161 (by decide) ?_
  refine v_widen (k := 1) (n := 6) (Nat.le_of_ble_eq_true rfl) (Nat.le_of_ble_eq_true rfl) ?_
  refine v_sub [1, 0] rfl ?_
  exact hk108 _ _  hf
set_option maxHeartbeats 4000000 in
set_option maxRecDepth 100000 in
theorem wX8_writeMachine_108 {p : Program} {l : Launch} {e : Env} {s : State} {m : MethodId} {args : Array Value} {below : List Frame} {meth : Method} {c : Code} {ρ : bsR} {cA : Nat → ClassId} {dC : Nat → ClassId} {dI : Nat → Nat → Nat} {Rz : va_W} {Ts : List Cond}   {z : bsXr} (C : bsCx p m c cX8_writeMachine 2 s args Ts RX8 ρ cA dC dI Rz meth (some .int)) (T0 : ∀ x ∈ c.exceptionTable.toList, False) (hst : l.stackTraces = false) : ∀ (n : Nat) (x1 : Int32) (X : bsX), fX8_writeMachine_108  n x1 X = some z → bsV p l e rmX8_writeMachine s m args below meth c 1 6 (vx_MQ below (bsXQi ρ cA dC dI Rz z s.heap.size) (bsXX ρ cA dC dI Rz z s.heap.size) args s rmX8_writeMachine.cells rmX8_writeMachine.slots (bsA ρ cA Rz s.heap.size)) ρ cA dC dI Rz 2 108 [(0, .ref (ρ 13 0 0)), (1, .int x1)] [] X := by
  intro n
  induction n with
  | zero => intro x1 X hf; exact (nomatch hf)
  | succ n ih =>
    intro x1 X hf
    rw [fX8_writeMachine_108] at hf
    refine v_iload_n C dX8_writeMachine_108 rfl rfl ?_
    refine v_bipush (v := 6) C dX8_writeMachine_109 (by decide) ?_
    refine v_icmp_ge (tgt := 164) C dX8_writeMachine_111 (by decide) (fun h9 => ?_) (fun h9 => ?_)
    · replace hf := bs_pos h9 hf
      refine v_aload_n C dX8_writeMachine_164 rfl rfl ?_
      refine gf_X8_40 C dX8_writeMachine_165 ?_
      refine gf_X8_337 C dX8_writeMachine_168 ?_
      exact v_tiret C hf (Nat.le_of_ble_eq_true rfl) (Nat.le_of_ble_eq_true rfl) dX8_writeMachine_171
    · replace hf := bs_neg h9 hf
      refine v_aload_n C dX8_writeMachine_114 rfl rfl ?_
      refine gf_X8_19 C dX8_writeMachine_115 ?_
      refine gf_X8_158 C (by decide) dX8_writeMachine_118 ?_
      refine v_iload_n C dX8_writeMachine_121 rfl rfl ?_
      obtain ⟨hi1, hf⟩ := bs_if hf
      refine v_aald (t0 := 3) (n := 6) C (bsm_K1 (by decide)) (bsc_K1 (by decide)) rfl hi1 rfl dX8_writeMachine_122 ?_
      refine gf_X8_162 C (by decide) (bsIx_lt hi1) dX8_writeMachine_123 ?_
      refine gf_X8_168 C (by decide) (Nat.lt_succ_of_lt (bsIx_lt hi1)) dX8_writeMachine_126 ?_
      refine v_if_eq (tgt := 158) C dX8_writeMachine_129 (by decide) (fun h8 => ?_) (fun h8 => ?_)
      · replace hf := bs_pos h8 hf
        refine v_widen (k := 1) (n := 6) (Nat.le_of_ble_eq_true rfl) (Nat.le_of_ble_eq_true rfl) ?_
        refine v_sub [0, 1] rfl ?_
        exact wX8_writeMachine_158  (fX8_writeMachine_108  n) C T0 hst (fun b0 X  h => ih b0 X  h) _ _  hf
      · replace hf := bs_neg h8 hf
        refine v_aload_n C dX8_writeMachine_132 rfl rfl ?_
        refine v_aload_n C dX8_writeMachine_133 rfl rfl ?_
        refine gf_X8_19 C dX8_writeMachine_134 ?_
        refine gf_X8_158 C (by decide) dX8_writeMachine_137 ?_
        refine v_iload_n C dX8_writeMachine_140 rfl rfl ?_
        refine v_aald (t0 := 3) (n := 6) C (bsm_K1 (by decide)) (bsc_K1 (by decide)) rfl hi1 rfl dX8_writeMachine_141 ?_
        obtain ⟨r3, hc4, hf⟩ := bs_bind hf
        refine v_callVv (y := yX8_writeImageLine) (As := [.ref (ρ 0 5 (bsIx x1))]) (rest := []) C (cX8_writeImageLine_ok (bsIx_lt hi1) hc4) ml_X8_369 wyX8_writeImageLine (bsm_X8) (bsc_X8) rfl dpX8_writeImageLine ⟨Nat.le_of_ble_eq_true rfl, Nat.le_of_ble_eq_true rfl⟩ ⟨rfl, rfl⟩ ⟨Nat.le_of_ble_eq_true rfl, Nat.le_of_ble_eq_true rfl⟩ rfl (Nat.le_of_ble_eq_true rfl) dX8_writeMachine_142 ?_
        refine v_aload_n C dX8_writeMachine_145 rfl rfl ?_
        refine v_aload_n C dX8_writeMachine_146 rfl rfl ?_
        refine gf_X8_19 C dX8_writeMachine_147 ?_
        refine gf_X8_158 C (by decide) dX8_writeMachine_150 ?_
        refine v_iload_n C dX8_writeMachine_153 rfl rfl ?_
        refine v_aald (t0 := 3) (n := 6) C (bsm_K1 (by decide)) (bsc_K1 (by decide)) rfl hi1 rfl dX8_writeMachine_154 ?_
        obtain ⟨r6, hc7, hf⟩ := bs_bind hf
        refine v_callVv (y := yX8_writeMarkLine) (As := [.ref (ρ 0 5 (bsIx x1))]) (rest := []) C (cX8_writeMarkLine_ok (bsIx_lt hi1) hc7) ml_X8_372 wyX8_writeMarkLine (bsm_X8) (bsc_X8) rfl dpX8_writeMarkLine ⟨Nat.le_of_ble_eq_true rfl, Nat.le_of_ble_eq_true rfl⟩ ⟨rfl, rfl⟩ ⟨Nat.le_of_ble_eq_true rfl, Nat.le_of_ble_eq_true rfl⟩ rfl (Nat.le_of_ble_eq_true rfl) dX8_writeMachine_155 ?_
        refine v_widen (k := 1) (n := 6) (Nat.le_of_ble_eq_true rfl) (Nat.le_of_ble_eq_true rfl) ?_
        refine v_sub [0, 1] rfl ?_
        exact wX8_writeMachine_158  (fX8_writeMachine_108  n) C T0 hst (fun b0 X  h => ih b0 X  h) _ _  hf
set_option maxHeartbeats 4000000 in
set_option maxRecDepth 100000 in
theorem wX8_writeMachine_79 {p : Program} {l : Launch} {e : Env} {s : State} {m : MethodId} {args : Array Value} {below : List Frame} {meth : Method} {c : Code} {ρ : bsR} {cA : Nat → ClassId} {dC : Nat → ClassId} {dI : Nat → Nat → Nat} {Rz : va_W} {Ts : List Cond}   {z : bsXr} (C : bsCx p m c cX8_writeMachine 2 s args Ts RX8 ρ cA dC dI Rz meth (some .int)) (T0 : ∀ x ∈ c.exceptionTable.toList, False) (hst : l.stackTraces = false) : ∀ (n : Nat) (x1 : Int32) (X : bsX), fX8_writeMachine_79  n x1 X = some z → bsV p l e rmX8_writeMachine s m args below meth c 1 6 (vx_MQ below (bsXQi ρ cA dC dI Rz z s.heap.size) (bsXX ρ cA dC dI Rz z s.heap.size) args s rmX8_writeMachine.cells rmX8_writeMachine.slots (bsA ρ cA Rz s.heap.size)) ρ cA dC dI Rz 2 79 [(0, .ref (ρ 13 0 0)), (1, .int x1)] [] X := by
  intro n
  induction n with
  | zero => intro x1 X hf; exact (nomatch hf)
  | succ n ih =>
    intro x1 X hf
    rw [fX8_writeMachine_79] at hf
    refine v_iload_n C dX8_writeMachine_79 rfl rfl ?_
    refine v_aload_n C dX8_writeMachine_80 rfl rfl ?_
    refine gf_X8_19 C dX8_writeMachine_81 ?_
    refine gf_X8_76 C (by decide) dX8_writeMachine_84 ?_
    refine v_icmp_ge (tgt := 106) C dX8_writeMachine_87 (by decide) (fun h12 => ?_) (fun h12 => ?_)
    · replace hf := bs_pos h12 hf
      refine v_iconst (v := 0) C dX8_writeMachine_106 (by decide) ?_
      refine v_istore_n (lv' := [(1, .int (0 : Int32)), (0, .ref (ρ 13 0 0))]) C dX8_writeMachine_107 rfl (by decide) rfl ?_
      refine v_widen (k := 1) (n := 6) (Nat.le_of_ble_eq_true rfl) (Nat.le_of_ble_eq_true rfl) ?_
      refine v_sub [1, 0] rfl ?_
      exact wX8_writeMachine_108   C T0 hst  bsF _ _  hf
    · replace hf := bs_neg h12 hf
      refine v_aload_n C dX8_writeMachine_90 rfl rfl ?_
      refine gf_X8_40 C dX8_writeMachine_91 ?_
      refine v_ldcSw (tx := ";slot") (t := 8) C (by decide +kernel) dX8_writeMachine_94 ?_
      obtain ⟨r10, hc11, hf⟩ := bs_bind hf
      refine v_callVv (y := yX7_putWord) (As := [.ref (ρ 16 0 8)]) (rest := []) C (cX7_putWord_ok (by decide) hc11) ml_X8_360 wyX7_putWord (bsm_X7) (bsc_X7) rfl dpX7_putWord ⟨Nat.le_of_ble_eq_true rfl, Nat.le_of_ble_eq_true rfl⟩ ⟨rfl, rfl⟩ ⟨Nat.le_of_ble_eq_true rfl, Nat.le_of_ble_eq_true rfl⟩ rfl (Nat.le_of_ble_eq_true rfl) dX8_writeMachine_97 ?_
      refine v_iinc (k0 := 1) (v := (x1 + (1 : Int32))) (lv' := [(1, .int (x1 + (1 : Int32))), (0, .ref (ρ 13 0 0))]) C dX8_writeMachine_100 rfl rfl (by decide) rfl ?_
      refine v_goto (tgt := 79) C dX8_writeMachine_103 (by decide) ?_
      refine v_widen (k := 1) (n := 6) (Nat.le_of_ble_eq_true rfl) (Nat.le_of_ble_eq_true rfl) ?_
      refine v_sub [1, 0] rfl ?_
      exact ih _ _  hf
set_option maxHeartbeats 4000000 in
set_option maxRecDepth 100000 in
theorem cX8_writeMachine_ok {l : Launch} {ρ : bsR} {cA : Nat → ClassId} {dC : Nat → ClassId} {dI : Nat → Nat → Nat} {Rz : va_W} (hst : l.stackTraces = false)  {X : bsX} {z : bsXr} (hf : fX8_writeMachine  X = some z) : bsTi l yX8_writeMachine cX8_writeMachine 2 (some .int) rmX8_writeMachine ρ cA dC dI Rz [.ref (ρ 13 0 0)] X z := by
  refine bsTi_of (by decide) (Nat.le_of_ble_eq_true rfl) (fun p e s m args below meth c C T0 => ?_)
  have C : bsCx p m c cX8_writeMachine 2 s args (Cond.code yX8_writeMachine cX8_writeMachine 2 (some .int) :: bsG) RX8 ρ cA dC dI Rz meth (some .int) := C
  rw [fX8_writeMachine] at hf
  refine v_sub [0] rfl ?_
  refine v_aload_n C dX8_writeMachine_0 rfl rfl ?_
  obtain ⟨r13, hc14, hf⟩ := bs_bind hf
  refine v_ticallVv (y := yX8_requireLoaded) (As := []) (rest := []) C T0 (cX8_requireLoaded_ok hst  hc14) ml_X8_82 wyX8_requireLoaded (bsm_X8) (bsc_X8) rfl dpX8_requireLoaded ⟨Nat.le_of_ble_eq_true rfl, Nat.le_of_ble_eq_true rfl⟩ ⟨Nat.le_of_ble_eq_true rfl, Nat.le_of_ble_eq_true rfl⟩ (Nat.le_of_ble_eq_true rfl) (Nat.le_of_ble_eq_true rfl) rfl (Nat.le_of_ble_eq_true rfl) dX8_writeMachine_1 (fun h => bs_neg h hf) (fun h15 => ?_)
  replace hf := bs_pos h15 hf
  refine v_aload_n C dX8_writeMachine_4 rfl rfl ?_
  refine gf_X8_40 C dX8_writeMachine_5 ?_
  obtain ⟨r16, hc17, hf⟩ := bs_bind hf
  refine v_callVv (y := yX7_clear) (As := []) (rest := []) C (cX7_clear_ok  hc17) ml_X8_326 wyX7_clear (bsm_X7) (bsc_X7) rfl dpX7_clear ⟨Nat.le_of_ble_eq_true rfl, Nat.le_of_ble_eq_true rfl⟩ ⟨rfl, rfl⟩ ⟨Nat.le_of_ble_eq_true rfl, Nat.le_of_ble_eq_true rfl⟩ rfl (Nat.le_of_ble_eq_true rfl) dX8_writeMachine_8 ?_
  refine v_aload_n C dX8_writeMachine_11 rfl rfl ?_
  refine gf_X8_40 C dX8_writeMachine_12 ?_
  refine v_ldcSw (tx := "machine") (t := 0) C (by decide +kernel) dX8_writeMachine_15 ?_
  obtain ⟨r18, hc19, hf⟩ := bs_bind hf
  refine v_callVv (y := yX7_putWord) (As := [.ref (ρ 16 0 0)]) (rest := []) C (cX7_putWord_ok (by decide) hc19) ml_X8_360 wyX7_putWord (bsm_X7) (bsc_X7) rfl dpX7_putWord ⟨Nat.le_of_ble_eq_true rfl, Nat.le_of_ble_eq_true rfl⟩ ⟨rfl, rfl⟩ ⟨Nat.le_of_ble_eq_true rfl, Nat.le_of_ble_eq_true rfl⟩ rfl (Nat.le_of_ble_eq_true rfl) dX8_writeMachine_18 ?_
  refine v_aload_n C dX8_writeMachine_21 rfl rfl ?_
  refine gf_X8_40 C dX8_writeMachine_22 ?_
  refine v_aload_n C dX8_writeMachine_25 rfl rfl ?_
  refine gf_X8_19 C dX8_writeMachine_26 ?_
  refine gf_X8_88 C (by decide) dX8_writeMachine_29 ?_
  obtain ⟨r20, hc21, hf⟩ := bs_bind hf
  refine v_callVv (y := yX7_putBlankAndNumber) (As := [.int (r18 0 0 0 5)]) (rest := []) C (cX7_putBlankAndNumber_ok  hc21) ml_X8_364 wyX7_putBlankAndNumber (bsm_X7) (bsc_X7) rfl dpX7_putBlankAndNumber ⟨Nat.le_of_ble_eq_true rfl, Nat.le_of_ble_eq_true rfl⟩ ⟨rfl, rfl⟩ ⟨Nat.le_of_ble_eq_true rfl, Nat.le_of_ble_eq_true rfl⟩ rfl (Nat.le_of_ble_eq_true rfl) dX8_writeMachine_32 ?_
  refine v_aload_n C dX8_writeMachine_35 rfl rfl ?_
  refine gf_X8_40 C dX8_writeMachine_36 ?_
  refine v_aload_n C dX8_writeMachine_39 rfl rfl ?_
  refine gf_X8_19 C dX8_writeMachine_40 ?_
  refine gf_X8_91 C (by decide) dX8_writeMachine_43 ?_
  obtain ⟨r22, hc23, hf⟩ := bs_bind hf
  refine v_callVv (y := yX7_putBlankAndNumber) (As := [.int (r20 0 0 0 6)]) (rest := []) C (cX7_putBlankAndNumber_ok  hc23) ml_X8_364 wyX7_putBlankAndNumber (bsm_X7) (bsc_X7) rfl dpX7_putBlankAndNumber ⟨Nat.le_of_ble_eq_true rfl, Nat.le_of_ble_eq_true rfl⟩ ⟨rfl, rfl⟩ ⟨Nat.le_of_ble_eq_true rfl, Nat.le_of_ble_eq_true rfl⟩ rfl (Nat.le_of_ble_eq_true rfl) dX8_writeMachine_46 ?_
  refine v_aload_n C dX8_writeMachine_49 rfl rfl ?_
  refine gf_X8_40 C dX8_writeMachine_50 ?_
  refine v_aload_n C dX8_writeMachine_53 rfl rfl ?_
  refine gf_X8_19 C dX8_writeMachine_54 ?_
  refine gf_X8_94 C (by decide) dX8_writeMachine_57 ?_
  obtain ⟨r24, hc25, hf⟩ := bs_bind hf
  refine v_callVv (y := yX7_putBlankAndNumber) (As := [.int (r22 0 0 0 7)]) (rest := []) C (cX7_putBlankAndNumber_ok  hc25) ml_X8_364 wyX7_putBlankAndNumber (bsm_X7) (bsc_X7) rfl dpX7_putBlankAndNumber ⟨Nat.le_of_ble_eq_true rfl, Nat.le_of_ble_eq_true rfl⟩ ⟨rfl, rfl⟩ ⟨Nat.le_of_ble_eq_true rfl, Nat.le_of_ble_eq_true rfl⟩ rfl (Nat.le_of_ble_eq_true rfl) dX8_writeMachine_60 ?_
  refine v_aload_n C dX8_writeMachine_63 rfl rfl ?_
  refine gf_X8_40 C dX8_writeMachine_64 ?_
  refine v_aload_n C dX8_writeMachine_67 rfl rfl ?_
  refine gf_X8_19 C dX8_writeMachine_68 ?_
  refine gf_X8_97 C (by decide) dX8_writeMachine_71 ?_
  obtain ⟨r26, hc27, hf⟩ := bs_bind hf
  refine v_callVv (y := yX7_putBlankAndNumber) (As := [.int (r24 0 0 0 8)]) (rest := []) C (cX7_putBlankAndNumber_ok  hc27) ml_X8_364 wyX7_putBlankAndNumber (bsm_X7) (bsc_X7) rfl dpX7_putBlankAndNumber ⟨Nat.le_of_ble_eq_true rfl, Nat.le_of_ble_eq_true rfl⟩ ⟨rfl, rfl⟩ ⟨Nat.le_of_ble_eq_true rfl, Nat.le_of_ble_eq_true rfl⟩ rfl (Nat.le_of_ble_eq_true rfl) dX8_writeMachine_74 ?_
  refine v_iconst (v := 0) C dX8_writeMachine_77 (by decide) ?_
  refine v_istore_n (lv' := [(1, .int (0 : Int32)), (0, .ref (ρ 13 0 0))]) C dX8_writeMachine_78 rfl (by decide) rfl ?_
  refine v_widen (k := 1) (n := 6) (Nat.le_of_ble_eq_true rfl) (Nat.le_of_ble_eq_true rfl) ?_
  refine v_sub [1, 0] rfl ?_
  exact wX8_writeMachine_79   C T0 hst  bsF _ _  hf
/-! BootSlots.textByte(I)I -/
def fX8_textByte (a1 : Int32) (X : bsX) : Option bsXr := if a1 < 0 then (some (2, (0 : Int32), X)) else (if a1 < (X 13 2 0 1) then (if bsIn a1 600 then (some (0, (X 13 8 0 (bsIx a1)), X)) else none) else (some (2, (0 : Int32), X)))
abbrev rmX8_textByte : Room := { frames := 6, cells := 1, slots := 6, locals := 81 }
set_option maxHeartbeats 4000000 in
set_option maxRecDepth 100000 in
theorem cX8_textByte_ok {l : Launch} {ρ : bsR} {cA : Nat → ClassId} {dC : Nat → ClassId} {dI : Nat → Nat → Nat} {Rz : va_W} (hst : l.stackTraces = false)  {a1 : Int32} {X : bsX} {z : bsXr} (hf : fX8_textByte a1 X = some z) : bsTi l yX8_textByte cX8_textByte 2 (some .int) rmX8_textByte ρ cA dC dI Rz [.ref (ρ 13 0 0), .int a1] X z := by
  refine bsTi_of (by decide) (Nat.le_of_ble_eq_true rfl) (fun p e s m args below meth c C T0 => ?_)
  have C : bsCx p m c cX8_textByte 2 s args (Cond.code yX8_textByte cX8_textByte 2 (some .int) :: bsG) RX8 ρ cA dC dI Rz meth (some .int) := C
  rw [fX8_textByte] at hf
  refine v_sub [0, 1] rfl ?_
  refine v_iload_n C dX8_textByte_0 rfl rfl ?_
  refine v_if_lt (tgt := 15) C dX8_textByte_1 (by decide) (fun h3 => ?_) (fun h3 => ?_)
  · replace hf := bs_pos h3 hf
    exact v_throwi (k := 2) C T0 hst hf (by decide) (by decide) tw_2 ⟨Nat.le_of_ble_eq_true rfl, Nat.le_of_ble_eq_true rfl⟩ ⟨Nat.le_of_ble_eq_true rfl, Nat.le_of_ble_eq_true rfl⟩ (Nat.le_of_ble_eq_true rfl) (Nat.le_of_ble_eq_true rfl) dX8_textByte_15 dX8_textByte_18 dX8_textByte_19 dX8_textByte_22
  · replace hf := bs_neg h3 hf
    refine v_iload_n C dX8_textByte_4 rfl rfl ?_
    refine v_aload_n C dX8_textByte_5 rfl rfl ?_
    refine gf_X8_40 C dX8_textByte_6 ?_
    refine gf_X8_337 C dX8_textByte_9 ?_
    refine v_icmp_lt (tgt := 23) C dX8_textByte_12 (by decide) (fun h2 => ?_) (fun h2 => ?_)
    · replace hf := bs_pos h2 hf
      refine v_aload_n C dX8_textByte_23 rfl rfl ?_
      refine gf_X8_40 C dX8_textByte_24 ?_
      refine gf_X8_385 C dX8_textByte_27 ?_
      refine v_iload_n C dX8_textByte_30 rfl rfl ?_
      obtain ⟨hi1, hf⟩ := bs_if hf
      refine v_bald (n := 600) C bsm_13_8 bsc_13_8 hi1 dX8_textByte_31 ?_
      exact v_tiret C hf (Nat.le_of_ble_eq_true rfl) (Nat.le_of_ble_eq_true rfl) dX8_textByte_32
    · replace hf := bs_neg h2 hf
      exact v_throwi (k := 2) C T0 hst hf (by decide) (by decide) tw_2 ⟨Nat.le_of_ble_eq_true rfl, Nat.le_of_ble_eq_true rfl⟩ ⟨Nat.le_of_ble_eq_true rfl, Nat.le_of_ble_eq_true rfl⟩ (Nat.le_of_ble_eq_true rfl) (Nat.le_of_ble_eq_true rfl) dX8_textByte_15 dX8_textByte_18 dX8_textByte_19 dX8_textByte_22
/-! BootSlots.remember()V -/
def fX8_remember_32 (X : bsX) : Option bsX := some (bsWr (bsWr X 13 0 0 8 (((X 13 0 0 8) + (1 : Int32)) - ((X 13 0 0 8) + (1 : Int32)) / (8 : Int32) * (8 : Int32))) 13 0 0 9 (bsMin (((bsWr X 13 0 0 8 (((X 13 0 0 8) + (1 : Int32)) - ((X 13 0 0 8) + (1 : Int32)) / (8 : Int32) * (8 : Int32))) 13 0 0 9) + (1 : Int32)) (8 : Int32)))
def fX8_remember (X : bsX) : Option bsX := if (X 13 0 0 8) < 0 then (fX8_remember_32    X) else (if (8 : Int32) ≤ (X 13 0 0 8) then (fX8_remember_32    X) else (if bsIn (X 13 0 0 8) 8 then ((fX3_copyFrom (2 + bsIx (X 13 0 0 8)) 0  X).bind fun r2 => fX8_remember_32    r2) else none))
abbrev rmX8_remember : Room := { frames := 3, cells := 0, slots := 0, locals := 66 }
set_option maxHeartbeats 4000000 in
set_option maxRecDepth 100000 in
theorem wX8_remember_32 {p : Program} {l : Launch} {e : Env} {s : State} {m : MethodId} {args : Array Value} {below : List Frame} {meth : Method} {c : Code} {ρ : bsR} {cA : Nat → ClassId} {dC : Nat → ClassId} {dI : Nat → Nat → Nat} {Rz : va_W} {Ts : List Cond}   {z : bsX} (C : bsCx p m c cX8_remember 1 s args Ts RX8 ρ cA dC dI Rz meth none) (X : bsX) (hf : fX8_remember_32  X = some z) : bsV p l e rmX8_remember s m args below meth c 0 0 (MQ below (bsQv ρ cA dC dI Rz z s.heap.size) args s 0 0 (bsA ρ cA Rz s.heap.size)) ρ cA dC dI Rz 1 32 [(0, .ref (ρ 13 0 0))] [] X := by
  rw [fX8_remember_32] at hf
  refine v_aload_n C dX8_remember_32 rfl rfl ?_
  refine v_aload_n C dX8_remember_33 rfl rfl ?_
  refine gf_X8_419 C dX8_remember_34 ?_
  refine v_iconst (v := 1) C dX8_remember_37 (by decide) ?_
  refine v_iadd C dX8_remember_38 ?_
  refine v_bipush (v := 8) C dX8_remember_39 (by decide) ?_
  refine v_irem C dX8_remember_41 (by decide) ?_
  refine pf_X8_419 C dX8_remember_42 ?_
  refine v_aload_n C dX8_remember_45 rfl rfl ?_
  refine v_aload_n C dX8_remember_46 rfl rfl ?_
  refine gf_X8_413 C dX8_remember_47 ?_
  refine v_iconst (v := 1) C dX8_remember_50 (by decide) ?_
  refine v_iadd C dX8_remember_51 ?_
  refine v_bipush (v := 8) C dX8_remember_52 (by decide) ?_
  refine v_mmin C (Nat.le_of_ble_eq_true rfl) (Nat.le_of_ble_eq_true rfl) (Nat.le_of_ble_eq_true rfl) (Nat.le_of_ble_eq_true rfl) (mm_X8_422) dX8_remember_54 ?_
  refine pf_X8_413 C dX8_remember_57 ?_
  exact v_vret C hf dX8_remember_60
set_option maxHeartbeats 4000000 in
set_option maxRecDepth 100000 in
theorem cX8_remember_ok {l : Launch} {ρ : bsR} {cA : Nat → ClassId} {dC : Nat → ClassId} {dI : Nat → Nat → Nat} {Rz : va_W}  {X : bsX} {z : bsX} (hf : fX8_remember  X = some z) : bsMv l yX8_remember cX8_remember 1 none rmX8_remember ρ cA dC dI Rz [.ref (ρ 13 0 0)] X z := by
  refine bsMv_of (by decide) (Nat.le_of_ble_eq_true rfl) (fun p e s m args below meth c C => ?_)
  have C : bsCx p m c cX8_remember 1 s args (Cond.code yX8_remember cX8_remember 1 none :: bsG) RX8 ρ cA dC dI Rz meth none := C
  rw [fX8_remember] at hf
  refine v_sub [0] rfl ?_
  refine v_aload_n C dX8_remember_0 rfl rfl ?_
  refine gf_X8_419 C dX8_remember_1 ?_
  refine v_if_lt (tgt := 32) C dX8_remember_4 (by decide) (fun h5 => ?_) (fun h5 => ?_)
  · replace hf := bs_pos h5 hf
    refine v_sub [0] rfl ?_
    exact wX8_remember_32   C  _  hf
  · replace hf := bs_neg h5 hf
    refine v_aload_n C dX8_remember_7 rfl rfl ?_
    refine gf_X8_419 C dX8_remember_8 ?_
    refine v_bipush (v := 8) C dX8_remember_11 (by decide) ?_
    refine v_icmp_ge (tgt := 32) C dX8_remember_13 (by decide) (fun h4 => ?_) (fun h4 => ?_)
    · replace hf := bs_pos h4 hf
      refine v_sub [0] rfl ?_
      exact wX8_remember_32   C  _  hf
    · replace hf := bs_neg h4 hf
      refine v_aload_n C dX8_remember_16 rfl rfl ?_
      refine gf_X8_26 C dX8_remember_17 ?_
      refine v_aload_n C dX8_remember_20 rfl rfl ?_
      refine gf_X8_419 C dX8_remember_21 ?_
      obtain ⟨hi1, hf⟩ := bs_if hf
      refine v_aald (t0 := 4) (n := 8) C bsm_13_3 bsc_13_3 rfl hi1 rfl dX8_remember_24 ?_
      refine v_aload_n C dX8_remember_25 rfl rfl ?_
      refine gf_X8_19 C dX8_remember_26 ?_
      obtain ⟨r2, hc3, hf⟩ := bs_bind hf
      refine v_callVv (y := yX3_copyFrom) (As := [.ref (ρ 0 0 0)]) (rest := []) C (cX3_copyFrom_ok (bsIx_lt3 hi1) (by decide) hc3) ml_X8_65 wyX3_copyFrom (bsm_X3 (bsIx_lt3 hi1)) (bsc_X3 (bsIx_lt3 hi1)) rfl dpX3_copyFrom ⟨Nat.le_of_ble_eq_true rfl, Nat.le_of_ble_eq_true rfl⟩ ⟨rfl, rfl⟩ ⟨Nat.le_of_ble_eq_true rfl, Nat.le_of_ble_eq_true rfl⟩ rfl (Nat.le_of_ble_eq_true rfl) dX8_remember_29 ?_
      refine v_sub [0] rfl ?_
      exact wX8_remember_32   C  _  hf
/-! BootSlots.power()I -/
def fX8_power (X : bsX) : Option bsXr := (fX8_requireLoaded   X).bind fun r1 => if r1.1 = 0 then (if (r1.2.2 0 0 0 10) = 0 then ((fX8_remember   r1.2.2).bind fun r4 => (fX3_bootBy 0 (0 : Int32) r4).bind fun r6 => some (0, (r6.2 0 0 0 11), r6.2)) else (some (3, (0 : Int32), r1.2.2))) else some (r1.1, (0 : Int32), r1.2.2)
abbrev rmX8_power : Room := { frames := 7, cells := 2, slots := 12, locals := 101 }
set_option maxHeartbeats 4000000 in
set_option maxRecDepth 100000 in
theorem cX8_power_ok {l : Launch} {ρ : bsR} {cA : Nat → ClassId} {dC : Nat → ClassId} {dI : Nat → Nat → Nat} {Rz : va_W} (hst : l.stackTraces = false)  {X : bsX} {z : bsXr} (hf : fX8_power  X = some z) : bsTi l yX8_power cX8_power 1 (some .int) rmX8_power ρ cA dC dI Rz [.ref (ρ 13 0 0)] X z := by
  refine bsTi_of (by decide) (Nat.le_of_ble_eq_true rfl) (fun p e s m args below meth c C T0 => ?_)
  have C : bsCx p m c cX8_power 1 s args (Cond.code yX8_power cX8_power 1 (some .int) :: bsG) RX8 ρ cA dC dI Rz meth (some .int) := C
  rw [fX8_power] at hf
  refine v_sub [0] rfl ?_
  refine v_aload_n C dX8_power_0 rfl rfl ?_
  obtain ⟨r1, hc2, hf⟩ := bs_bind hf
  refine v_ticallVv (y := yX8_requireLoaded) (As := []) (rest := []) C T0 (cX8_requireLoaded_ok hst  hc2) ml_X8_82 wyX8_requireLoaded (bsm_X8) (bsc_X8) rfl dpX8_requireLoaded ⟨Nat.le_of_ble_eq_true rfl, Nat.le_of_ble_eq_true rfl⟩ ⟨Nat.le_of_ble_eq_true rfl, Nat.le_of_ble_eq_true rfl⟩ (Nat.le_of_ble_eq_true rfl) (Nat.le_of_ble_eq_true rfl) rfl (Nat.le_of_ble_eq_true rfl) dX8_power_1 (fun h => bs_neg h hf) (fun h3 => ?_)
  replace hf := bs_pos h3 hf
  refine v_aload_n C dX8_power_4 rfl rfl ?_
  refine gf_X8_19 C dX8_power_5 ?_
  refine gf_X8_389 C (by decide) dX8_power_8 ?_
  refine v_if_eq (tgt := 22) C dX8_power_11 (by decide) (fun h8 => ?_) (fun h8 => ?_)
  · replace hf := bs_pos h8 hf
    refine v_aload_n C dX8_power_22 rfl rfl ?_
    obtain ⟨r4, hc5, hf⟩ := bs_bind hf
    refine v_callVv (y := yX8_remember) (As := []) (rest := []) C (cX8_remember_ok  hc5) ml_X8_392 wyX8_remember (bsm_X8) (bsc_X8) rfl dpX8_remember ⟨Nat.le_of_ble_eq_true rfl, Nat.le_of_ble_eq_true rfl⟩ ⟨rfl, rfl⟩ ⟨Nat.le_of_ble_eq_true rfl, Nat.le_of_ble_eq_true rfl⟩ rfl (Nat.le_of_ble_eq_true rfl) dX8_power_23 ?_
    refine v_aload_n C dX8_power_26 rfl rfl ?_
    refine gf_X8_19 C dX8_power_27 ?_
    refine v_iconst (v := 0) C dX8_power_30 (by decide) ?_
    obtain ⟨r6, hc7, hf⟩ := bs_bind hf
    refine v_callVi (y := yX3_bootBy) (As := [.int (0 : Int32)]) (rest := []) C (cX3_bootBy_ok (by decide) hc7) ml_X8_298 wyX3_bootBy (bsm_X3 (by decide)) (bsc_X3 (by decide)) rfl dpX3_bootBy ⟨Nat.le_of_ble_eq_true rfl, Nat.le_of_ble_eq_true rfl⟩ ⟨rfl, rfl⟩ ⟨Nat.le_of_ble_eq_true rfl, Nat.le_of_ble_eq_true rfl⟩ rfl (Nat.le_of_ble_eq_true rfl) dX8_power_31 ?_
    refine v_pop C dX8_power_34 rfl ?_
    refine v_aload_n C dX8_power_35 rfl rfl ?_
    refine gf_X8_19 C dX8_power_36 ?_
    refine gf_X8_104 C (by decide) dX8_power_39 ?_
    exact v_tiret C hf (Nat.le_of_ble_eq_true rfl) (Nat.le_of_ble_eq_true rfl) dX8_power_42
  · replace hf := bs_neg h8 hf
    exact v_throwi (k := 3) C T0 hst hf (by decide) (by decide) tw_3 ⟨Nat.le_of_ble_eq_true rfl, Nat.le_of_ble_eq_true rfl⟩ ⟨Nat.le_of_ble_eq_true rfl, Nat.le_of_ble_eq_true rfl⟩ (Nat.le_of_ble_eq_true rfl) (Nat.le_of_ble_eq_true rfl) dX8_power_14 dX8_power_17 dX8_power_18 dX8_power_21
/-! BootSlots.requireOn()V -/
def fX8_requireOn (X : bsX) : Option bsXr := (fX8_requireLoaded   X).bind fun r1 => if r1.1 = 0 then (if (r1.2.2 0 0 0 10) = 0 then (some (3, (0 : Int32), r1.2.2)) else (some (0, (0 : Int32), r1.2.2))) else some (r1.1, (0 : Int32), r1.2.2)
abbrev rmX8_requireOn : Room := { frames := 7, cells := 2, slots := 12, locals := 101 }
set_option maxHeartbeats 4000000 in
set_option maxRecDepth 100000 in
theorem cX8_requireOn_ok {l : Launch} {ρ : bsR} {cA : Nat → ClassId} {dC : Nat → ClassId} {dI : Nat → Nat → Nat} {Rz : va_W} (hst : l.stackTraces = false)  {X : bsX} {z : bsXr} (hf : fX8_requireOn  X = some z) : bsTv l yX8_requireOn cX8_requireOn 1 none rmX8_requireOn ρ cA dC dI Rz [.ref (ρ 13 0 0)] X z := by
  refine bsTv_of (by decide) (Nat.le_of_ble_eq_true rfl) (fun p e s m args below meth c C T0 => ?_)
  have C : bsCx p m c cX8_requireOn 1 s args (Cond.code yX8_requireOn cX8_requireOn 1 none :: bsG) RX8 ρ cA dC dI Rz meth none := C
  rw [fX8_requireOn] at hf
  refine v_sub [0] rfl ?_
  refine v_aload_n C dX8_requireOn_0 rfl rfl ?_
  obtain ⟨r1, hc2, hf⟩ := bs_bind hf
  refine v_tvcallVv (y := yX8_requireLoaded) (As := []) (rest := []) C T0 (cX8_requireLoaded_ok hst  hc2) ml_X8_82 wyX8_requireLoaded (bsm_X8) (bsc_X8) rfl dpX8_requireLoaded ⟨Nat.le_of_ble_eq_true rfl, Nat.le_of_ble_eq_true rfl⟩ ⟨Nat.le_of_ble_eq_true rfl, Nat.le_of_ble_eq_true rfl⟩ (Nat.le_of_ble_eq_true rfl) (Nat.le_of_ble_eq_true rfl) rfl (Nat.le_of_ble_eq_true rfl) dX8_requireOn_1 (fun h => bs_neg h hf) (fun h3 => ?_)
  replace hf := bs_pos h3 hf
  refine v_aload_n C dX8_requireOn_4 rfl rfl ?_
  refine gf_X8_19 C dX8_requireOn_5 ?_
  refine gf_X8_389 C (by decide) dX8_requireOn_8 ?_
  refine v_if_ne (tgt := 22) C dX8_requireOn_11 (by decide) (fun h4 => ?_) (fun h4 => ?_)
  · replace hf := bs_neg h4 hf
    exact v_tvret C hf (Nat.le_of_ble_eq_true rfl) (Nat.le_of_ble_eq_true rfl) dX8_requireOn_22
  · replace hf := bs_pos h4 hf
    exact v_throwv (k := 3) C T0 hst hf (by decide) (by decide) tw_3 ⟨Nat.le_of_ble_eq_true rfl, Nat.le_of_ble_eq_true rfl⟩ ⟨Nat.le_of_ble_eq_true rfl, Nat.le_of_ble_eq_true rfl⟩ (Nat.le_of_ble_eq_true rfl) (Nat.le_of_ble_eq_true rfl) dX8_requireOn_14 dX8_requireOn_17 dX8_requireOn_18 dX8_requireOn_21
/-! BootSlots.cut()I -/
def fX8_cut (X : bsX) : Option bsXr := (fX8_requireOn   X).bind fun r1 => if r1.1 = 0 then ((fX8_remember   r1.2.2).bind fun r4 => (fX3_switchOff 0  r4).bind fun r6 => some (0, (r4 0 2 0 1), r6)) else some (r1.1, (0 : Int32), r1.2.2)
abbrev rmX8_cut : Room := { frames := 8, cells := 2, slots := 12, locals := 121 }
set_option maxHeartbeats 4000000 in
set_option maxRecDepth 100000 in
theorem cX8_cut_ok {l : Launch} {ρ : bsR} {cA : Nat → ClassId} {dC : Nat → ClassId} {dI : Nat → Nat → Nat} {Rz : va_W} (hst : l.stackTraces = false)  {X : bsX} {z : bsXr} (hf : fX8_cut  X = some z) : bsTi l yX8_cut cX8_cut 2 (some .int) rmX8_cut ρ cA dC dI Rz [.ref (ρ 13 0 0)] X z := by
  refine bsTi_of (by decide) (Nat.le_of_ble_eq_true rfl) (fun p e s m args below meth c C T0 => ?_)
  have C : bsCx p m c cX8_cut 2 s args (Cond.code yX8_cut cX8_cut 2 (some .int) :: bsG) RX8 ρ cA dC dI Rz meth (some .int) := C
  rw [fX8_cut] at hf
  refine v_sub [0] rfl ?_
  refine v_aload_n C dX8_cut_0 rfl rfl ?_
  obtain ⟨r1, hc2, hf⟩ := bs_bind hf
  refine v_ticallVv (y := yX8_requireOn) (As := []) (rest := []) C T0 (cX8_requireOn_ok hst  hc2) ml_X8_395 wyX8_requireOn (bsm_X8) (bsc_X8) rfl dpX8_requireOn ⟨Nat.le_of_ble_eq_true rfl, Nat.le_of_ble_eq_true rfl⟩ ⟨Nat.le_of_ble_eq_true rfl, Nat.le_of_ble_eq_true rfl⟩ (Nat.le_of_ble_eq_true rfl) (Nat.le_of_ble_eq_true rfl) rfl (Nat.le_of_ble_eq_true rfl) dX8_cut_1 (fun h => bs_neg h hf) (fun h3 => ?_)
  replace hf := bs_pos h3 hf
  refine v_aload_n C dX8_cut_4 rfl rfl ?_
  obtain ⟨r4, hc5, hf⟩ := bs_bind hf
  refine v_callVv (y := yX8_remember) (As := []) (rest := []) C (cX8_remember_ok  hc5) ml_X8_392 wyX8_remember (bsm_X8) (bsc_X8) rfl dpX8_remember ⟨Nat.le_of_ble_eq_true rfl, Nat.le_of_ble_eq_true rfl⟩ ⟨rfl, rfl⟩ ⟨Nat.le_of_ble_eq_true rfl, Nat.le_of_ble_eq_true rfl⟩ rfl (Nat.le_of_ble_eq_true rfl) dX8_cut_5 ?_
  refine v_aload_n C dX8_cut_8 rfl rfl ?_
  refine gf_X8_19 C dX8_cut_9 ?_
  refine gf_X8_217 C (by decide) dX8_cut_12 ?_
  refine gf_X8_227 C (by decide) dX8_cut_15 ?_
  refine v_istore_n (lv' := [(1, .int (r4 0 2 0 1)), (0, .ref (ρ 13 0 0))]) C dX8_cut_18 rfl (by decide) rfl ?_
  refine v_aload_n C dX8_cut_19 rfl rfl ?_
  refine gf_X8_19 C dX8_cut_20 ?_
  obtain ⟨r6, hc7, hf⟩ := bs_bind hf
  refine v_callVv (y := yX3_switchOff) (As := []) (rest := []) C (cX3_switchOff_ok (by decide) hc7) ml_X8_398 wyX3_switchOff (bsm_X3 (by decide)) (bsc_X3 (by decide)) rfl dpX3_switchOff ⟨Nat.le_of_ble_eq_true rfl, Nat.le_of_ble_eq_true rfl⟩ ⟨rfl, rfl⟩ ⟨Nat.le_of_ble_eq_true rfl, Nat.le_of_ble_eq_true rfl⟩ rfl (Nat.le_of_ble_eq_true rfl) dX8_cut_23 ?_
  refine v_iload_n C dX8_cut_26 rfl rfl ?_
  exact v_tiret C hf (Nat.le_of_ble_eq_true rfl) (Nat.le_of_ble_eq_true rfl) dX8_cut_27
/-! BootSlots.reboot()I -/
def fX8_reboot (X : bsX) : Option bsXr := (fX8_requireOn   X).bind fun r1 => if r1.1 = 0 then ((fX8_remember   r1.2.2).bind fun r4 => (fX3_bootBy 0 (1 : Int32) r4).bind fun r6 => some (0, (r6.2 0 0 0 11), r6.2)) else some (r1.1, (0 : Int32), r1.2.2)
abbrev rmX8_reboot : Room := { frames := 8, cells := 2, slots := 12, locals := 121 }
set_option maxHeartbeats 4000000 in
set_option maxRecDepth 100000 in
theorem cX8_reboot_ok {l : Launch} {ρ : bsR} {cA : Nat → ClassId} {dC : Nat → ClassId} {dI : Nat → Nat → Nat} {Rz : va_W} (hst : l.stackTraces = false)  {X : bsX} {z : bsXr} (hf : fX8_reboot  X = some z) : bsTi l yX8_reboot cX8_reboot 1 (some .int) rmX8_reboot ρ cA dC dI Rz [.ref (ρ 13 0 0)] X z := by
  refine bsTi_of (by decide) (Nat.le_of_ble_eq_true rfl) (fun p e s m args below meth c C T0 => ?_)
  have C : bsCx p m c cX8_reboot 1 s args (Cond.code yX8_reboot cX8_reboot 1 (some .int) :: bsG) RX8 ρ cA dC dI Rz meth (some .int) := C
  rw [fX8_reboot] at hf
  refine v_sub [0] rfl ?_
  refine v_aload_n C dX8_reboot_0 rfl rfl ?_
  obtain ⟨r1, hc2, hf⟩ := bs_bind hf
  refine v_ticallVv (y := yX8_requireOn) (As := []) (rest := []) C T0 (cX8_requireOn_ok hst  hc2) ml_X8_395 wyX8_requireOn (bsm_X8) (bsc_X8) rfl dpX8_requireOn ⟨Nat.le_of_ble_eq_true rfl, Nat.le_of_ble_eq_true rfl⟩ ⟨Nat.le_of_ble_eq_true rfl, Nat.le_of_ble_eq_true rfl⟩ (Nat.le_of_ble_eq_true rfl) (Nat.le_of_ble_eq_true rfl) rfl (Nat.le_of_ble_eq_true rfl) dX8_reboot_1 (fun h => bs_neg h hf) (fun h3 => ?_)
  replace hf := bs_pos h3 hf
  refine v_aload_n C dX8_reboot_4 rfl rfl ?_
  obtain ⟨r4, hc5, hf⟩ := bs_bind hf
  refine v_callVv (y := yX8_remember) (As := []) (rest := []) C (cX8_remember_ok  hc5) ml_X8_392 wyX8_remember (bsm_X8) (bsc_X8) rfl dpX8_remember ⟨Nat.le_of_ble_eq_true rfl, Nat.le_of_ble_eq_true rfl⟩ ⟨rfl, rfl⟩ ⟨Nat.le_of_ble_eq_true rfl, Nat.le_of_ble_eq_true rfl⟩ rfl (Nat.le_of_ble_eq_true rfl) dX8_reboot_5 ?_
  refine v_aload_n C dX8_reboot_8 rfl rfl ?_
  refine gf_X8_19 C dX8_reboot_9 ?_
  refine v_iconst (v := 1) C dX8_reboot_12 (by decide) ?_
  obtain ⟨r6, hc7, hf⟩ := bs_bind hf
  refine v_callVi (y := yX3_bootBy) (As := [.int (1 : Int32)]) (rest := []) C (cX3_bootBy_ok (by decide) hc7) ml_X8_298 wyX3_bootBy (bsm_X3 (by decide)) (bsc_X3 (by decide)) rfl dpX3_bootBy ⟨Nat.le_of_ble_eq_true rfl, Nat.le_of_ble_eq_true rfl⟩ ⟨rfl, rfl⟩ ⟨Nat.le_of_ble_eq_true rfl, Nat.le_of_ble_eq_true rfl⟩ rfl (Nat.le_of_ble_eq_true rfl) dX8_reboot_13 ?_
  refine v_pop C dX8_reboot_16 rfl ?_
  refine v_aload_n C dX8_reboot_17 rfl rfl ?_
  refine gf_X8_19 C dX8_reboot_18 ?_
  refine gf_X8_104 C (by decide) dX8_reboot_21 ?_
  exact v_tiret C hf (Nat.le_of_ble_eq_true rfl) (Nat.le_of_ble_eq_true rfl) dX8_reboot_24
/-! BootSlots.tick(I)I -/
def fX8_tick_45 : Nat → Int32 → Int32 → Int32 → bsX → Option bsXr
  | 0, _, _, _, _ => none
  | n + 1, x1, x2, x3, X => if x1 ≤ x3 then (some (0, ((X 0 3 0 4) - x2), X)) else ((fX3_passTick 0  X).bind fun r1 => fX8_tick_45 n x1 x2 (x3 + (1 : Int32)) r1)
def fX8_tick (a1 : Int32) (X : bsX) : Option bsXr := (fX8_requireLoaded   X).bind fun r4 => if r4.1 = 0 then ((fX8_requireWithin  a1 (1 : Int32) (300 : Int32) r4.2.2).bind fun r7 => if r7.1 = 0 then ((fX8_requireWithin  ((r7.2.2 0 0 0 9) + a1) (0 : Int32) (9999 : Int32) r7.2.2).bind fun r10 => if r10.1 = 0 then ((fX8_remember   r10.2.2).bind fun r13 => fX8_tick_45   bsF a1 (r13 0 3 0 4) (0 : Int32) r13) else some (r10.1, (0 : Int32), r10.2.2)) else some (r7.1, (0 : Int32), r7.2.2)) else some (r4.1, (0 : Int32), r4.2.2)
abbrev rmX8_tick : Room := { frames := 7, cells := 3, slots := 18, locals := 108 }
set_option maxHeartbeats 4000000 in
set_option maxRecDepth 100000 in
theorem wX8_tick_45 {p : Program} {l : Launch} {e : Env} {s : State} {m : MethodId} {args : Array Value} {below : List Frame} {meth : Method} {c : Code} {ρ : bsR} {cA : Nat → ClassId} {dC : Nat → ClassId} {dI : Nat → Nat → Nat} {Rz : va_W} {Ts : List Cond}   {z : bsXr} (C : bsCx p m c cX8_tick 4 s args Ts RX8 ρ cA dC dI Rz meth (some .int)) (T0 : ∀ x ∈ c.exceptionTable.toList, False) (hst : l.stackTraces = false) : ∀ (n : Nat) (x1 : Int32) (x2 : Int32) (x3 : Int32) (X : bsX), fX8_tick_45  n x1 x2 x3 X = some z → bsV p l e rmX8_tick s m args below meth c 3 18 (vx_MQ below (bsXQi ρ cA dC dI Rz z s.heap.size) (bsXX ρ cA dC dI Rz z s.heap.size) args s rmX8_tick.cells rmX8_tick.slots (bsA ρ cA Rz s.heap.size)) ρ cA dC dI Rz 4 45 [(0, .ref (ρ 13 0 0)), (1, .int x1), (2, .int x2), (3, .int x3)] [] X := by
  intro n
  induction n with
  | zero => intro x1 x2 x3 X hf; exact (nomatch hf)
  | succ n ih =>
    intro x1 x2 x3 X hf
    rw [fX8_tick_45] at hf
    refine v_iload_n C dX8_tick_45 rfl rfl ?_
    refine v_iload_n C dX8_tick_46 rfl rfl ?_
    refine v_icmp_ge (tgt := 63) C dX8_tick_47 (by decide) (fun h3 => ?_) (fun h3 => ?_)
    · replace hf := bs_pos h3 hf
      refine v_aload_n C dX8_tick_63 rfl rfl ?_
      refine gf_X8_19 C dX8_tick_64 ?_
      refine gf_X8_119 C (by decide) dX8_tick_67 ?_
      refine gf_X8_123 C (by decide) dX8_tick_70 ?_
      refine v_iload_n C dX8_tick_73 rfl rfl ?_
      refine v_isub C dX8_tick_74 ?_
      exact v_tiret C hf (Nat.le_of_ble_eq_true rfl) (Nat.le_of_ble_eq_true rfl) dX8_tick_75
    · replace hf := bs_neg h3 hf
      refine v_aload_n C dX8_tick_50 rfl rfl ?_
      refine gf_X8_19 C dX8_tick_51 ?_
      obtain ⟨r1, hc2, hf⟩ := bs_bind hf
      refine v_callVv (y := yX3_passTick) (As := []) (rest := []) C (cX3_passTick_ok (by decide) hc2) ml_X8_286 wyX3_passTick (bsm_X3 (by decide)) (bsc_X3 (by decide)) rfl dpX3_passTick ⟨Nat.le_of_ble_eq_true rfl, Nat.le_of_ble_eq_true rfl⟩ ⟨rfl, rfl⟩ ⟨Nat.le_of_ble_eq_true rfl, Nat.le_of_ble_eq_true rfl⟩ rfl (Nat.le_of_ble_eq_true rfl) dX8_tick_54 ?_
      refine v_iinc (k0 := 3) (v := (x3 + (1 : Int32))) (lv' := [(3, .int (x3 + (1 : Int32))), (0, .ref (ρ 13 0 0)), (1, .int x1), (2, .int x2)]) C dX8_tick_57 rfl rfl (by decide) rfl ?_
      refine v_goto (tgt := 45) C dX8_tick_60 (by decide) ?_
      refine v_widen (k := 3) (n := 18) (Nat.le_of_ble_eq_true rfl) (Nat.le_of_ble_eq_true rfl) ?_
      refine v_sub [1, 2, 3, 0] rfl ?_
      exact ih _ _ _ _  hf
set_option maxHeartbeats 4000000 in
set_option maxRecDepth 100000 in
theorem cX8_tick_ok {l : Launch} {ρ : bsR} {cA : Nat → ClassId} {dC : Nat → ClassId} {dI : Nat → Nat → Nat} {Rz : va_W} (hst : l.stackTraces = false)  {a1 : Int32} {X : bsX} {z : bsXr} (hf : fX8_tick a1 X = some z) : bsTi l yX8_tick cX8_tick 4 (some .int) rmX8_tick ρ cA dC dI Rz [.ref (ρ 13 0 0), .int a1] X z := by
  refine bsTi_of (by decide) (Nat.le_of_ble_eq_true rfl) (fun p e s m args below meth c C T0 => ?_)
  have C : bsCx p m c cX8_tick 4 s args (Cond.code yX8_tick cX8_tick 4 (some .int) :: bsG) RX8 ρ cA dC dI Rz meth (some .int) := C
  rw [fX8_tick] at hf
  refine v_sub [0, 1] rfl ?_
  refine v_aload_n C dX8_tick_0 rfl rfl ?_
  obtain ⟨r4, hc5, hf⟩ := bs_bind hf
  refine v_ticallVv (y := yX8_requireLoaded) (As := []) (rest := []) C T0 (cX8_requireLoaded_ok hst  hc5) ml_X8_82 wyX8_requireLoaded (bsm_X8) (bsc_X8) rfl dpX8_requireLoaded ⟨Nat.le_of_ble_eq_true rfl, Nat.le_of_ble_eq_true rfl⟩ ⟨Nat.le_of_ble_eq_true rfl, Nat.le_of_ble_eq_true rfl⟩ (Nat.le_of_ble_eq_true rfl) (Nat.le_of_ble_eq_true rfl) rfl (Nat.le_of_ble_eq_true rfl) dX8_tick_1 (fun h => bs_neg h hf) (fun h6 => ?_)
  replace hf := bs_pos h6 hf
  refine v_iload_n C dX8_tick_4 rfl rfl ?_
  refine v_iconst (v := 1) C dX8_tick_5 (by decide) ?_
  refine v_sipush (v := 300) C dX8_tick_6 (by decide) ?_
  obtain ⟨r7, hc8, hf⟩ := bs_bind hf
  refine v_ticallSv (y := yX8_requireWithin) (As := [.int a1, .int (1 : Int32), .int (300 : Int32)]) (rest := []) C T0 (cX8_requireWithin_ok hst  hc8) ml_X8_198 wzX8_requireWithin dpX8_requireWithin ⟨Nat.le_of_ble_eq_true rfl, Nat.le_of_ble_eq_true rfl⟩ ⟨Nat.le_of_ble_eq_true rfl, Nat.le_of_ble_eq_true rfl⟩ (Nat.le_of_ble_eq_true rfl) (Nat.le_of_ble_eq_true rfl) rfl (Nat.le_of_ble_eq_true rfl) dX8_tick_9 (fun h => bs_neg h hf) (fun h9 => ?_)
  replace hf := bs_pos h9 hf
  refine v_aload_n C dX8_tick_12 rfl rfl ?_
  refine gf_X8_19 C dX8_tick_13 ?_
  refine gf_X8_85 C (by decide) dX8_tick_16 ?_
  refine v_iload_n C dX8_tick_19 rfl rfl ?_
  refine v_iadd C dX8_tick_20 ?_
  refine v_iconst (v := 0) C dX8_tick_21 (by decide) ?_
  refine v_sipush (v := 9999) C dX8_tick_22 (by decide) ?_
  obtain ⟨r10, hc11, hf⟩ := bs_bind hf
  refine v_ticallSv (y := yX8_requireWithin) (As := [.int ((r7.2.2 0 0 0 9) + a1), .int (0 : Int32), .int (9999 : Int32)]) (rest := []) C T0 (cX8_requireWithin_ok hst  hc11) ml_X8_198 wzX8_requireWithin dpX8_requireWithin ⟨Nat.le_of_ble_eq_true rfl, Nat.le_of_ble_eq_true rfl⟩ ⟨Nat.le_of_ble_eq_true rfl, Nat.le_of_ble_eq_true rfl⟩ (Nat.le_of_ble_eq_true rfl) (Nat.le_of_ble_eq_true rfl) rfl (Nat.le_of_ble_eq_true rfl) dX8_tick_25 (fun h => bs_neg h hf) (fun h12 => ?_)
  replace hf := bs_pos h12 hf
  refine v_aload_n C dX8_tick_28 rfl rfl ?_
  obtain ⟨r13, hc14, hf⟩ := bs_bind hf
  refine v_callVv (y := yX8_remember) (As := []) (rest := []) C (cX8_remember_ok  hc14) ml_X8_392 wyX8_remember (bsm_X8) (bsc_X8) rfl dpX8_remember ⟨Nat.le_of_ble_eq_true rfl, Nat.le_of_ble_eq_true rfl⟩ ⟨rfl, rfl⟩ ⟨Nat.le_of_ble_eq_true rfl, Nat.le_of_ble_eq_true rfl⟩ rfl (Nat.le_of_ble_eq_true rfl) dX8_tick_29 ?_
  refine v_aload_n C dX8_tick_32 rfl rfl ?_
  refine gf_X8_19 C dX8_tick_33 ?_
  refine gf_X8_119 C (by decide) dX8_tick_36 ?_
  refine gf_X8_123 C (by decide) dX8_tick_39 ?_
  refine v_istore_n (lv' := [(2, .int (r13 0 3 0 4)), (0, .ref (ρ 13 0 0)), (1, .int a1)]) C dX8_tick_42 rfl (by decide) rfl ?_
  refine v_iconst (v := 0) C dX8_tick_43 (by decide) ?_
  refine v_istore_n (lv' := [(3, .int (0 : Int32)), (2, .int (r13 0 3 0 4)), (0, .ref (ρ 13 0 0)), (1, .int a1)]) C dX8_tick_44 rfl (by decide) rfl ?_
  refine v_widen (k := 3) (n := 18) (Nat.le_of_ble_eq_true rfl) (Nat.le_of_ble_eq_true rfl) ?_
  refine v_sub [2, 3, 1, 0] rfl ?_
  exact wX8_tick_45   C T0 hst  bsF _ _ _ _  hf
/-! BootSlots.begin(IIIII)I -/
def fX8_begin (a1 : Int32) (a2 : Int32) (a3 : Int32) (a4 : Int32) (a5 : Int32) (X : bsX) : Option bsXr := (fX8_requireSlot  a1 X).bind fun r1 => if r1.1 = 0 then ((fX8_requireWithin  a2 (0 : Int32) (99 : Int32) r1.2.2).bind fun r4 => if r4.1 = 0 then ((fX8_requireWithin  a3 (1 : Int32) (99 : Int32) r4.2.2).bind fun r7 => if r7.1 = 0 then ((fX8_requireWithin  a4 (0 : Int32) (99 : Int32) r7.2.2).bind fun r10 => if r10.1 = 0 then ((fX8_requireWithin  a5 (1 : Int32) (99 : Int32) r10.2.2).bind fun r13 => if r13.1 = 0 then ((fX8_requireOn   r13.2.2).bind fun r16 => if r16.1 = 0 then (if a1 = (r16.2.2 0 0 0 11) then (some (3, (0 : Int32), r16.2.2)) else ((fX2_isOn 0  r16.2.2).bind fun r19 => if r19.1 = 0 then ((fX8_remember   r19.2).bind fun r21 => if bsIn a1 6 then ((fX5_makeEmpty 0 (bsIx a1)  r21).bind fun r24 => (fX2_set 0 a1 a5 r24).bind fun r26 => (fX1_set 0 6 a2 a3 a4 r26).bind fun r28 => some (0, ((r28 0 0 0 9) + a5), r28)) else none) else (some (3, (0 : Int32), r19.2)))) else some (r16.1, (0 : Int32), r16.2.2)) else some (r13.1, (0 : Int32), r13.2.2)) else some (r10.1, (0 : Int32), r10.2.2)) else some (r7.1, (0 : Int32), r7.2.2)) else some (r4.1, (0 : Int32), r4.2.2)) else some (r1.1, (0 : Int32), r1.2.2)
abbrev rmX8_begin : Room := { frames := 8, cells := 9, slots := 54, locals := 122 }
set_option maxHeartbeats 4000000 in
set_option maxRecDepth 100000 in
theorem cX8_begin_ok {l : Launch} {ρ : bsR} {cA : Nat → ClassId} {dC : Nat → ClassId} {dI : Nat → Nat → Nat} {Rz : va_W} (hst : l.stackTraces = false)  {a1 : Int32} {a2 : Int32} {a3 : Int32} {a4 : Int32} {a5 : Int32} {X : bsX} {z : bsXr} (hf : fX8_begin a1 a2 a3 a4 a5 X = some z) : bsTi l yX8_begin cX8_begin 6 (some .int) rmX8_begin ρ cA dC dI Rz [.ref (ρ 13 0 0), .int a1, .int a2, .int a3, .int a4, .int a5] X z := by
  refine bsTi_of (by decide) (Nat.le_of_ble_eq_true rfl) (fun p e s m args below meth c C T0 => ?_)
  have C : bsCx p m c cX8_begin 6 s args (Cond.code yX8_begin cX8_begin 6 (some .int) :: bsG) RX8 ρ cA dC dI Rz meth (some .int) := C
  rw [fX8_begin] at hf
  refine v_sub [0, 1, 2, 3, 4, 5] rfl ?_
  refine v_aload_n C dX8_begin_0 rfl rfl ?_
  refine v_iload_n C dX8_begin_1 rfl rfl ?_
  obtain ⟨r1, hc2, hf⟩ := bs_bind hf
  refine v_ticallVv (y := yX8_requireSlot) (As := [.int a1]) (rest := []) C T0 (cX8_requireSlot_ok hst  hc2) ml_X8_155 wyX8_requireSlot (bsm_X8) (bsc_X8) rfl dpX8_requireSlot ⟨Nat.le_of_ble_eq_true rfl, Nat.le_of_ble_eq_true rfl⟩ ⟨Nat.le_of_ble_eq_true rfl, Nat.le_of_ble_eq_true rfl⟩ (Nat.le_of_ble_eq_true rfl) (Nat.le_of_ble_eq_true rfl) rfl (Nat.le_of_ble_eq_true rfl) dX8_begin_2 (fun h => bs_neg h hf) (fun h3 => ?_)
  replace hf := bs_pos h3 hf
  refine v_iload_n C dX8_begin_5 rfl rfl ?_
  refine v_iconst (v := 0) C dX8_begin_6 (by decide) ?_
  refine v_bipush (v := 99) C dX8_begin_7 (by decide) ?_
  obtain ⟨r4, hc5, hf⟩ := bs_bind hf
  refine v_ticallSv (y := yX8_requireWithin) (As := [.int a2, .int (0 : Int32), .int (99 : Int32)]) (rest := []) C T0 (cX8_requireWithin_ok hst  hc5) ml_X8_198 wzX8_requireWithin dpX8_requireWithin ⟨Nat.le_of_ble_eq_true rfl, Nat.le_of_ble_eq_true rfl⟩ ⟨Nat.le_of_ble_eq_true rfl, Nat.le_of_ble_eq_true rfl⟩ (Nat.le_of_ble_eq_true rfl) (Nat.le_of_ble_eq_true rfl) rfl (Nat.le_of_ble_eq_true rfl) dX8_begin_9 (fun h => bs_neg h hf) (fun h6 => ?_)
  replace hf := bs_pos h6 hf
  refine v_iload_n C dX8_begin_12 rfl rfl ?_
  refine v_iconst (v := 1) C dX8_begin_13 (by decide) ?_
  refine v_bipush (v := 99) C dX8_begin_14 (by decide) ?_
  obtain ⟨r7, hc8, hf⟩ := bs_bind hf
  refine v_ticallSv (y := yX8_requireWithin) (As := [.int a3, .int (1 : Int32), .int (99 : Int32)]) (rest := []) C T0 (cX8_requireWithin_ok hst  hc8) ml_X8_198 wzX8_requireWithin dpX8_requireWithin ⟨Nat.le_of_ble_eq_true rfl, Nat.le_of_ble_eq_true rfl⟩ ⟨Nat.le_of_ble_eq_true rfl, Nat.le_of_ble_eq_true rfl⟩ (Nat.le_of_ble_eq_true rfl) (Nat.le_of_ble_eq_true rfl) rfl (Nat.le_of_ble_eq_true rfl) dX8_begin_16 (fun h => bs_neg h hf) (fun h9 => ?_)
  replace hf := bs_pos h9 hf
  refine v_iload C dX8_begin_19 rfl ?_
  refine v_iconst (v := 0) C dX8_begin_21 (by decide) ?_
  refine v_bipush (v := 99) C dX8_begin_22 (by decide) ?_
  obtain ⟨r10, hc11, hf⟩ := bs_bind hf
  refine v_ticallSv (y := yX8_requireWithin) (As := [.int a4, .int (0 : Int32), .int (99 : Int32)]) (rest := []) C T0 (cX8_requireWithin_ok hst  hc11) ml_X8_198 wzX8_requireWithin dpX8_requireWithin ⟨Nat.le_of_ble_eq_true rfl, Nat.le_of_ble_eq_true rfl⟩ ⟨Nat.le_of_ble_eq_true rfl, Nat.le_of_ble_eq_true rfl⟩ (Nat.le_of_ble_eq_true rfl) (Nat.le_of_ble_eq_true rfl) rfl (Nat.le_of_ble_eq_true rfl) dX8_begin_24 (fun h => bs_neg h hf) (fun h12 => ?_)
  replace hf := bs_pos h12 hf
  refine v_iload C dX8_begin_27 rfl ?_
  refine v_iconst (v := 1) C dX8_begin_29 (by decide) ?_
  refine v_bipush (v := 99) C dX8_begin_30 (by decide) ?_
  obtain ⟨r13, hc14, hf⟩ := bs_bind hf
  refine v_ticallSv (y := yX8_requireWithin) (As := [.int a5, .int (1 : Int32), .int (99 : Int32)]) (rest := []) C T0 (cX8_requireWithin_ok hst  hc14) ml_X8_198 wzX8_requireWithin dpX8_requireWithin ⟨Nat.le_of_ble_eq_true rfl, Nat.le_of_ble_eq_true rfl⟩ ⟨Nat.le_of_ble_eq_true rfl, Nat.le_of_ble_eq_true rfl⟩ (Nat.le_of_ble_eq_true rfl) (Nat.le_of_ble_eq_true rfl) rfl (Nat.le_of_ble_eq_true rfl) dX8_begin_32 (fun h => bs_neg h hf) (fun h15 => ?_)
  replace hf := bs_pos h15 hf
  refine v_aload_n C dX8_begin_35 rfl rfl ?_
  obtain ⟨r16, hc17, hf⟩ := bs_bind hf
  refine v_ticallVv (y := yX8_requireOn) (As := []) (rest := []) C T0 (cX8_requireOn_ok hst  hc17) ml_X8_395 wyX8_requireOn (bsm_X8) (bsc_X8) rfl dpX8_requireOn ⟨Nat.le_of_ble_eq_true rfl, Nat.le_of_ble_eq_true rfl⟩ ⟨Nat.le_of_ble_eq_true rfl, Nat.le_of_ble_eq_true rfl⟩ (Nat.le_of_ble_eq_true rfl) (Nat.le_of_ble_eq_true rfl) rfl (Nat.le_of_ble_eq_true rfl) dX8_begin_36 (fun h => bs_neg h hf) (fun h18 => ?_)
  replace hf := bs_pos h18 hf
  refine v_iload_n C dX8_begin_39 rfl rfl ?_
  refine v_aload_n C dX8_begin_40 rfl rfl ?_
  refine gf_X8_19 C dX8_begin_41 ?_
  refine gf_X8_104 C (by decide) dX8_begin_44 ?_
  refine v_icmp_eq (tgt := 63) C dX8_begin_47 (by decide) (fun h31 => ?_) (fun h31 => ?_)
  · replace hf := bs_pos h31 hf
    exact v_throwi (k := 3) C T0 hst hf (by decide) (by decide) tw_3 ⟨Nat.le_of_ble_eq_true rfl, Nat.le_of_ble_eq_true rfl⟩ ⟨Nat.le_of_ble_eq_true rfl, Nat.le_of_ble_eq_true rfl⟩ (Nat.le_of_ble_eq_true rfl) (Nat.le_of_ble_eq_true rfl) dX8_begin_63 dX8_begin_66 dX8_begin_67 dX8_begin_70
  · replace hf := bs_neg h31 hf
    refine v_aload_n C dX8_begin_50 rfl rfl ?_
    refine gf_X8_19 C dX8_begin_51 ?_
    refine gf_X8_217 C (by decide) dX8_begin_54 ?_
    obtain ⟨r19, hc20, hf⟩ := bs_bind hf
    refine v_callVi (y := yX2_isOn) (As := []) (rest := []) C (cX2_isOn_ok (by decide) hc20) ml_X8_221 wyX2_isOn (bsm_X2 (by decide)) (bsc_X2 (by decide)) rfl dpX2_isOn ⟨Nat.le_of_ble_eq_true rfl, Nat.le_of_ble_eq_true rfl⟩ ⟨rfl, rfl⟩ ⟨Nat.le_of_ble_eq_true rfl, Nat.le_of_ble_eq_true rfl⟩ rfl (Nat.le_of_ble_eq_true rfl) dX8_begin_57 ?_
    refine v_if_eq (tgt := 71) C dX8_begin_60 (by decide) (fun h30 => ?_) (fun h30 => ?_)
    · replace hf := bs_pos h30 hf
      refine v_aload_n C dX8_begin_71 rfl rfl ?_
      obtain ⟨r21, hc22, hf⟩ := bs_bind hf
      refine v_callVv (y := yX8_remember) (As := []) (rest := []) C (cX8_remember_ok  hc22) ml_X8_392 wyX8_remember (bsm_X8) (bsc_X8) rfl dpX8_remember ⟨Nat.le_of_ble_eq_true rfl, Nat.le_of_ble_eq_true rfl⟩ ⟨rfl, rfl⟩ ⟨Nat.le_of_ble_eq_true rfl, Nat.le_of_ble_eq_true rfl⟩ rfl (Nat.le_of_ble_eq_true rfl) dX8_begin_72 ?_
      refine v_aload_n C dX8_begin_75 rfl rfl ?_
      refine gf_X8_19 C dX8_begin_76 ?_
      refine gf_X8_158 C (by decide) dX8_begin_79 ?_
      refine v_iload_n C dX8_begin_82 rfl rfl ?_
      obtain ⟨hi23, hf⟩ := bs_if hf
      refine v_aald (t0 := 3) (n := 6) C (bsm_K1 (by decide)) (bsc_K1 (by decide)) rfl hi23 rfl dX8_begin_83 ?_
      obtain ⟨r24, hc25, hf⟩ := bs_bind hf
      refine v_callVv (y := yX5_makeEmpty) (As := []) (rest := []) C (cX5_makeEmpty_ok (by decide) (bsIx_lt hi23) hc25) ml_X8_307 wyX5_makeEmpty (bsm_X5 (by decide) (bsIx_lt hi23)) (bsc_X5 (by decide)) rfl dpX5_makeEmpty ⟨Nat.le_of_ble_eq_true rfl, Nat.le_of_ble_eq_true rfl⟩ ⟨rfl, rfl⟩ ⟨Nat.le_of_ble_eq_true rfl, Nat.le_of_ble_eq_true rfl⟩ rfl (Nat.le_of_ble_eq_true rfl) dX8_begin_84 ?_
      refine v_aload_n C dX8_begin_87 rfl rfl ?_
      refine gf_X8_19 C dX8_begin_88 ?_
      refine gf_X8_217 C (by decide) dX8_begin_91 ?_
      refine v_iload_n C dX8_begin_94 rfl rfl ?_
      refine v_iload C dX8_begin_95 rfl ?_
      obtain ⟨r26, hc27, hf⟩ := bs_bind hf
      refine v_callVv (y := yX2_set) (As := [.int a1, .int a5]) (rest := []) C (cX2_set_ok (by decide) hc27) ml_X8_310 wyX2_set (bsm_X2 (by decide)) (bsc_X2 (by decide)) rfl dpX2_set ⟨Nat.le_of_ble_eq_true rfl, Nat.le_of_ble_eq_true rfl⟩ ⟨rfl, rfl⟩ ⟨Nat.le_of_ble_eq_true rfl, Nat.le_of_ble_eq_true rfl⟩ rfl (Nat.le_of_ble_eq_true rfl) dX8_begin_97 ?_
      refine v_aload_n C dX8_begin_100 rfl rfl ?_
      refine gf_X8_19 C dX8_begin_101 ?_
      refine gf_X8_217 C (by decide) dX8_begin_104 ?_
      refine gf_X8_233 C (by decide) dX8_begin_107 ?_
      refine v_iload_n C dX8_begin_110 rfl rfl ?_
      refine v_iload_n C dX8_begin_111 rfl rfl ?_
      refine v_iload C dX8_begin_112 rfl ?_
      obtain ⟨r28, hc29, hf⟩ := bs_bind hf
      refine v_callVv (y := yX1_set) (As := [.int a2, .int a3, .int a4]) (rest := []) C (cX1_set_ok (by decide) (by decide) hc29) ml_X8_314 wyX1_set (bsm_X1 (by decide) (by decide)) (bsc_X1 (by decide)) rfl dpX1_set ⟨Nat.le_of_ble_eq_true rfl, Nat.le_of_ble_eq_true rfl⟩ ⟨rfl, rfl⟩ ⟨Nat.le_of_ble_eq_true rfl, Nat.le_of_ble_eq_true rfl⟩ rfl (Nat.le_of_ble_eq_true rfl) dX8_begin_114 ?_
      refine v_aload_n C dX8_begin_117 rfl rfl ?_
      refine gf_X8_19 C dX8_begin_118 ?_
      refine gf_X8_85 C (by decide) dX8_begin_121 ?_
      refine v_iload C dX8_begin_124 rfl ?_
      refine v_iadd C dX8_begin_126 ?_
      exact v_tiret C hf (Nat.le_of_ble_eq_true rfl) (Nat.le_of_ble_eq_true rfl) dX8_begin_127
    · replace hf := bs_neg h30 hf
      exact v_throwi (k := 3) C T0 hst hf (by decide) (by decide) tw_3 ⟨Nat.le_of_ble_eq_true rfl, Nat.le_of_ble_eq_true rfl⟩ ⟨Nat.le_of_ble_eq_true rfl, Nat.le_of_ble_eq_true rfl⟩ (Nat.le_of_ble_eq_true rfl) (Nat.le_of_ble_eq_true rfl) dX8_begin_63 dX8_begin_66 dX8_begin_67 dX8_begin_70
/-! BootSlots.spoil(II)I -/
def fX8_spoil_124 (q4 : Nat) (u0 : Nat) (y1 : Int32) (X : bsX) : Option bsXr := if y1 = 0 ∨ y1 = 1 then ((fX8_bit  ((bsWr X 0 6 u0 5 y1) 0 6 q4 4) (bsWr X 0 6 u0 5 y1)).bind fun r5 => (fX8_bit  (r5.2 0 6 q4 5) r5.2).bind fun r7 => some (0, (r5.1 + ((2 : Int32) * r7.1)), r7.2)) else none
def fX8_spoil_119 (q4 : Nat) (u0 : Nat) (X : bsX) : Option bsXr := fX8_spoil_124   q4 u0 (1 : Int32) X
def fX8_spoil_102 (x2 : Int32) (q4 : Nat) (u0 : Nat) (y1 : Int32) (X : bsX) : Option bsXr := if y1 = 0 ∨ y1 = 1 then (if ((bsWr X 0 6 u0 4 y1) 0 6 q4 5) = 0 then (if x2 = 0 then (fX8_spoil_124   q4 q4 (0 : Int32) (bsWr X 0 6 u0 4 y1)) else (fX8_spoil_119   q4 q4 (bsWr X 0 6 u0 4 y1))) else (fX8_spoil_119   q4 q4 (bsWr X 0 6 u0 4 y1))) else none
def fX8_spoil_97 (x2 : Int32) (q4 : Nat) (u0 : Nat) (X : bsX) : Option bsXr := fX8_spoil_102   x2 q4 u0 (1 : Int32) X
def fX8_spoil_60 (x2 : Int32) (u0 : Nat) (X : bsX) : Option bsXr := if (X 0 6 u0 0) = 0 then (some (3, (0 : Int32), X)) else ((fX8_remember   X).bind fun r9 => if (r9 0 6 u0 4) = 0 then (if x2 = (1 : Int32) then (fX8_spoil_102   x2 u0 u0 (0 : Int32) r9) else (fX8_spoil_97   x2 u0 u0 r9)) else (fX8_spoil_97   x2 u0 u0 r9))
def fX8_spoil_30 (x1 : Int32) (x2 : Int32) (y0 : Int32) (X : bsX) : Option bsXr := if y0 = 0 then (if bsIn x1 6 then (fX8_spoil_60   x2 (bsIx x1) X) else none) else (fX8_spoil_60   x2 6 X)
def fX8_spoil (a1 : Int32) (a2 : Int32) (X : bsX) : Option bsXr := (fX8_requireSlot  a1 X).bind fun r16 => if r16.1 = 0 then ((fX8_requireWithin  a2 (0 : Int32) (2 : Int32) r16.2.2).bind fun r19 => if r19.1 = 0 then (if a1 = (r19.2.2 0 2 0 1) then (fX8_spoil_30   a1 a2 (1 : Int32) r19.2.2) else (fX8_spoil_30   a1 a2 (0 : Int32) r19.2.2)) else some (r19.1, (0 : Int32), r19.2.2)) else some (r16.1, (0 : Int32), r16.2.2)
abbrev rmX8_spoil : Room := { frames := 8, cells := 4, slots := 24, locals := 122 }
set_option maxHeartbeats 4000000 in
set_option maxRecDepth 100000 in
theorem wX8_spoil_124 {p : Program} {l : Launch} {e : Env} {s : State} {m : MethodId} {args : Array Value} {below : List Frame} {meth : Method} {c : Code} {ρ : bsR} {cA : Nat → ClassId} {dC : Nat → ClassId} {dI : Nat → Nat → Nat} {Rz : va_W} {Ts : List Cond}   {z : bsXr} (C : bsCx p m c cX8_spoil 5 s args Ts RX8 ρ cA dC dI Rz meth (some .int)) (T0 : ∀ x ∈ c.exceptionTable.toList, False) (hst : l.stackTraces = false) (q4 : Nat) (u0 : Nat) (y1 : Int32) (X : bsX) (hq4 : q4 < 7) (hu0 : u0 < 7) (hf : fX8_spoil_124 q4 u0 y1 X = some z) : bsV p l e rmX8_spoil s m args below meth c 3 18 (vx_MQ below (bsXQi ρ cA dC dI Rz z s.heap.size) (bsXX ρ cA dC dI Rz z s.heap.size) args s rmX8_spoil.cells rmX8_spoil.slots (bsA ρ cA Rz s.heap.size)) ρ cA dC dI Rz 5 124 [(4, .ref (ρ 0 6 q4))] [.int y1, .ref (ρ 0 6 u0)] X := by
  rw [fX8_spoil_124] at hf
  obtain ⟨hb4, hf⟩ := bs_if hf
  refine pf_X8_214 C (by decide) hu0 hb4 dX8_spoil_124 ?_
  refine v_aload C dX8_spoil_127 rfl ?_
  refine gf_X8_211 C (by decide) hq4 dX8_spoil_129 ?_
  obtain ⟨r5, hc6, hf⟩ := bs_bind hf
  refine v_callSi (y := yX8_bit) (As := [.int ((bsWr X 0 6 u0 5 y1) 0 6 q4 4)]) (rest := []) C (cX8_bit_ok  hc6) ml_X8_173 wzX8_bit dpX8_bit ⟨Nat.le_of_ble_eq_true rfl, Nat.le_of_ble_eq_true rfl⟩ ⟨rfl, rfl⟩ ⟨Nat.le_of_ble_eq_true rfl, Nat.le_of_ble_eq_true rfl⟩ rfl (Nat.le_of_ble_eq_true rfl) dX8_spoil_132 ?_
  refine v_iconst (v := 2) C dX8_spoil_135 (by decide) ?_
  refine v_aload C dX8_spoil_136 rfl ?_
  refine gf_X8_214 C (by decide) hq4 dX8_spoil_138 ?_
  obtain ⟨r7, hc8, hf⟩ := bs_bind hf
  refine v_callSi (y := yX8_bit) (As := [.int (r5.2 0 6 q4 5)]) (rest := [.int (2 : Int32), .int r5.1]) C (cX8_bit_ok  hc8) ml_X8_173 wzX8_bit dpX8_bit ⟨Nat.le_of_ble_eq_true rfl, Nat.le_of_ble_eq_true rfl⟩ ⟨rfl, rfl⟩ ⟨Nat.le_of_ble_eq_true rfl, Nat.le_of_ble_eq_true rfl⟩ rfl (Nat.le_of_ble_eq_true rfl) dX8_spoil_141 ?_
  refine v_imul C dX8_spoil_144 ?_
  refine v_iadd C dX8_spoil_145 ?_
  exact v_tiret C hf (Nat.le_of_ble_eq_true rfl) (Nat.le_of_ble_eq_true rfl) dX8_spoil_146
set_option maxHeartbeats 4000000 in
set_option maxRecDepth 100000 in
theorem wX8_spoil_119 {p : Program} {l : Launch} {e : Env} {s : State} {m : MethodId} {args : Array Value} {below : List Frame} {meth : Method} {c : Code} {ρ : bsR} {cA : Nat → ClassId} {dC : Nat → ClassId} {dI : Nat → Nat → Nat} {Rz : va_W} {Ts : List Cond}   {z : bsXr} (C : bsCx p m c cX8_spoil 5 s args Ts RX8 ρ cA dC dI Rz meth (some .int)) (T0 : ∀ x ∈ c.exceptionTable.toList, False) (hst : l.stackTraces = false) (q4 : Nat) (u0 : Nat) (X : bsX) (hq4 : q4 < 7) (hu0 : u0 < 7) (hf : fX8_spoil_119 q4 u0 X = some z) : bsV p l e rmX8_spoil s m args below meth c 3 18 (vx_MQ below (bsXQi ρ cA dC dI Rz z s.heap.size) (bsXX ρ cA dC dI Rz z s.heap.size) args s rmX8_spoil.cells rmX8_spoil.slots (bsA ρ cA Rz s.heap.size)) ρ cA dC dI Rz 5 119 [(4, .ref (ρ 0 6 q4))] [.ref (ρ 0 6 u0)] X := by
  rw [fX8_spoil_119] at hf
  refine v_iconst (v := 1) C dX8_spoil_119 (by decide) ?_
  refine v_goto (tgt := 124) C dX8_spoil_120 (by decide) ?_
  refine v_widen (k := 3) (n := 18) (Nat.le_of_ble_eq_true rfl) (Nat.le_of_ble_eq_true rfl) ?_
  refine v_sub [0] rfl ?_
  exact wX8_spoil_124   C T0 hst  _ _ _ _ hq4 hu0 hf
set_option maxHeartbeats 4000000 in
set_option maxRecDepth 100000 in
theorem wX8_spoil_102 {p : Program} {l : Launch} {e : Env} {s : State} {m : MethodId} {args : Array Value} {below : List Frame} {meth : Method} {c : Code} {ρ : bsR} {cA : Nat → ClassId} {dC : Nat → ClassId} {dI : Nat → Nat → Nat} {Rz : va_W} {Ts : List Cond}   {z : bsXr} (C : bsCx p m c cX8_spoil 5 s args Ts RX8 ρ cA dC dI Rz meth (some .int)) (T0 : ∀ x ∈ c.exceptionTable.toList, False) (hst : l.stackTraces = false) (x2 : Int32) (q4 : Nat) (u0 : Nat) (y1 : Int32) (X : bsX) (hq4 : q4 < 7) (hu0 : u0 < 7) (hf : fX8_spoil_102 x2 q4 u0 y1 X = some z) : bsV p l e rmX8_spoil s m args below meth c 3 18 (vx_MQ below (bsXQi ρ cA dC dI Rz z s.heap.size) (bsXX ρ cA dC dI Rz z s.heap.size) args s rmX8_spoil.cells rmX8_spoil.slots (bsA ρ cA Rz s.heap.size)) ρ cA dC dI Rz 5 102 [(2, .int x2), (4, .ref (ρ 0 6 q4))] [.int y1, .ref (ρ 0 6 u0)] X := by
  rw [fX8_spoil_102] at hf
  obtain ⟨hb1, hf⟩ := bs_if hf
  refine pf_X8_211 C (by decide) hu0 hb1 dX8_spoil_102 ?_
  refine v_aload C dX8_spoil_105 rfl ?_
  refine v_aload C dX8_spoil_107 rfl ?_
  refine gf_X8_214 C (by decide) hq4 dX8_spoil_109 ?_
  refine v_if_ne (tgt := 119) C dX8_spoil_112 (by decide) (fun h3 => ?_) (fun h3 => ?_)
  · replace hf := bs_neg h3 hf
    refine v_widen (k := 3) (n := 18) (Nat.le_of_ble_eq_true rfl) (Nat.le_of_ble_eq_true rfl) ?_
    refine v_sub [1] rfl ?_
    exact wX8_spoil_119   C T0 hst  _ _ _ hq4 hq4 hf
  · replace hf := bs_pos h3 hf
    refine v_iload_n C dX8_spoil_115 rfl rfl ?_
    refine v_if_eq (tgt := 123) C dX8_spoil_116 (by decide) (fun h2 => ?_) (fun h2 => ?_)
    · replace hf := bs_pos h2 hf
      refine v_iconst (v := 0) C dX8_spoil_123 (by decide) ?_
      refine v_widen (k := 3) (n := 18) (Nat.le_of_ble_eq_true rfl) (Nat.le_of_ble_eq_true rfl) ?_
      refine v_sub [1] rfl ?_
      exact wX8_spoil_124   C T0 hst  _ _ _ _ hq4 hq4 hf
    · replace hf := bs_neg h2 hf
      refine v_widen (k := 3) (n := 18) (Nat.le_of_ble_eq_true rfl) (Nat.le_of_ble_eq_true rfl) ?_
      refine v_sub [1] rfl ?_
      exact wX8_spoil_119   C T0 hst  _ _ _ hq4 hq4 hf
set_option maxHeartbeats 4000000 in
set_option maxRecDepth 100000 in
theorem wX8_spoil_97 {p : Program} {l : Launch} {e : Env} {s : State} {m : MethodId} {args : Array Value} {below : List Frame} {meth : Method} {c : Code} {ρ : bsR} {cA : Nat → ClassId} {dC : Nat → ClassId} {dI : Nat → Nat → Nat} {Rz : va_W} {Ts : List Cond}   {z : bsXr} (C : bsCx p m c cX8_spoil 5 s args Ts RX8 ρ cA dC dI Rz meth (some .int)) (T0 : ∀ x ∈ c.exceptionTable.toList, False) (hst : l.stackTraces = false) (x2 : Int32) (q4 : Nat) (u0 : Nat) (X : bsX) (hq4 : q4 < 7) (hu0 : u0 < 7) (hf : fX8_spoil_97 x2 q4 u0 X = some z) : bsV p l e rmX8_spoil s m args below meth c 3 18 (vx_MQ below (bsXQi ρ cA dC dI Rz z s.heap.size) (bsXX ρ cA dC dI Rz z s.heap.size) args s rmX8_spoil.cells rmX8_spoil.slots (bsA ρ cA Rz s.heap.size)) ρ cA dC dI Rz 5 97 [(2, .int x2), (4, .ref (ρ 0 6 q4))] [.ref (ρ 0 6 u0)] X := by
  rw [fX8_spoil_97] at hf
  refine v_iconst (v := 1) C dX8_spoil_97 (by decide) ?_
  refine v_goto (tgt := 102) C dX8_spoil_98 (by decide) ?_
  refine v_widen (k := 3) (n := 18) (Nat.le_of_ble_eq_true rfl) (Nat.le_of_ble_eq_true rfl) ?_
  refine v_sub [0, 1] rfl ?_
  exact wX8_spoil_102   C T0 hst  _ _ _ _ _ hq4 hu0 hf
set_option maxHeartbeats 4000000 in
set_option maxRecDepth 100000 in
theorem wX8_spoil_60 {p : Program} {l : Launch} {e : Env} {s : State} {m : MethodId} {args : Array Value} {below : List Frame} {meth : Method} {c : Code} {ρ : bsR} {cA : Nat → ClassId} {dC : Nat → ClassId} {dI : Nat → Nat → Nat} {Rz : va_W} {Ts : List Cond}   {z : bsXr} (C : bsCx p m c cX8_spoil 5 s args Ts RX8 ρ cA dC dI Rz meth (some .int)) (T0 : ∀ x ∈ c.exceptionTable.toList, False) (hst : l.stackTraces = false) (x2 : Int32) (u0 : Nat) (X : bsX) (hu0 : u0 < 7) (hf : fX8_spoil_60 x2 u0 X = some z) : bsV p l e rmX8_spoil s m args below meth c 3 18 (vx_MQ below (bsXQi ρ cA dC dI Rz z s.heap.size) (bsXX ρ cA dC dI Rz z s.heap.size) args s rmX8_spoil.cells rmX8_spoil.slots (bsA ρ cA Rz s.heap.size)) ρ cA dC dI Rz 5 60 [(0, .ref (ρ 13 0 0)), (2, .int x2)] [.ref (ρ 0 6 u0)] X := by
  rw [fX8_spoil_60] at hf
  refine v_astore (lv' := [(4, .ref (ρ 0 6 u0)), (0, .ref (ρ 13 0 0)), (2, .int x2)]) C dX8_spoil_60 (by decide) rfl ?_
  refine v_aload C dX8_spoil_62 rfl ?_
  refine gf_X8_168 C (by decide) hu0 dX8_spoil_64 ?_
  refine v_if_ne (tgt := 78) C dX8_spoil_67 (by decide) (fun h13 => ?_) (fun h13 => ?_)
  · replace hf := bs_neg h13 hf
    refine v_aload_n C dX8_spoil_78 rfl rfl ?_
    obtain ⟨r9, hc10, hf⟩ := bs_bind hf
    refine v_callVv (y := yX8_remember) (As := []) (rest := []) C (cX8_remember_ok  hc10) ml_X8_392 wyX8_remember (bsm_X8) (bsc_X8) rfl dpX8_remember ⟨Nat.le_of_ble_eq_true rfl, Nat.le_of_ble_eq_true rfl⟩ ⟨rfl, rfl⟩ ⟨Nat.le_of_ble_eq_true rfl, Nat.le_of_ble_eq_true rfl⟩ rfl (Nat.le_of_ble_eq_true rfl) dX8_spoil_79 ?_
    refine v_aload C dX8_spoil_82 rfl ?_
    refine v_aload C dX8_spoil_84 rfl ?_
    refine gf_X8_211 C (by decide) hu0 dX8_spoil_86 ?_
    refine v_if_ne (tgt := 97) C dX8_spoil_89 (by decide) (fun h12 => ?_) (fun h12 => ?_)
    · replace hf := bs_neg h12 hf
      refine v_widen (k := 3) (n := 18) (Nat.le_of_ble_eq_true rfl) (Nat.le_of_ble_eq_true rfl) ?_
      refine v_sub [2, 0] rfl ?_
      exact wX8_spoil_97   C T0 hst  _ _ _ _ hu0 hu0 hf
    · replace hf := bs_pos h12 hf
      refine v_iload_n C dX8_spoil_92 rfl rfl ?_
      refine v_iconst (v := 1) C dX8_spoil_93 (by decide) ?_
      refine v_icmp_eq (tgt := 101) C dX8_spoil_94 (by decide) (fun h11 => ?_) (fun h11 => ?_)
      · replace hf := bs_pos h11 hf
        refine v_iconst (v := 0) C dX8_spoil_101 (by decide) ?_
        refine v_widen (k := 3) (n := 18) (Nat.le_of_ble_eq_true rfl) (Nat.le_of_ble_eq_true rfl) ?_
        refine v_sub [2, 0] rfl ?_
        exact wX8_spoil_102   C T0 hst  _ _ _ _ _ hu0 hu0 hf
      · replace hf := bs_neg h11 hf
        refine v_widen (k := 3) (n := 18) (Nat.le_of_ble_eq_true rfl) (Nat.le_of_ble_eq_true rfl) ?_
        refine v_sub [2, 0] rfl ?_
        exact wX8_spoil_97   C T0 hst  _ _ _ _ hu0 hu0 hf
  · replace hf := bs_pos h13 hf
    exact v_throwi (k := 3) C T0 hst hf (by decide) (by decide) tw_3 ⟨Nat.le_of_ble_eq_true rfl, Nat.le_of_ble_eq_true rfl⟩ ⟨Nat.le_of_ble_eq_true rfl, Nat.le_of_ble_eq_true rfl⟩ (Nat.le_of_ble_eq_true rfl) (Nat.le_of_ble_eq_true rfl) dX8_spoil_70 dX8_spoil_73 dX8_spoil_74 dX8_spoil_77
set_option maxHeartbeats 4000000 in
set_option maxRecDepth 100000 in
theorem wX8_spoil_30 {p : Program} {l : Launch} {e : Env} {s : State} {m : MethodId} {args : Array Value} {below : List Frame} {meth : Method} {c : Code} {ρ : bsR} {cA : Nat → ClassId} {dC : Nat → ClassId} {dI : Nat → Nat → Nat} {Rz : va_W} {Ts : List Cond}   {z : bsXr} (C : bsCx p m c cX8_spoil 5 s args Ts RX8 ρ cA dC dI Rz meth (some .int)) (T0 : ∀ x ∈ c.exceptionTable.toList, False) (hst : l.stackTraces = false) (x1 : Int32) (x2 : Int32) (y0 : Int32) (X : bsX) (hf : fX8_spoil_30 x1 x2 y0 X = some z) : bsV p l e rmX8_spoil s m args below meth c 3 18 (vx_MQ below (bsXQi ρ cA dC dI Rz z s.heap.size) (bsXX ρ cA dC dI Rz z s.heap.size) args s rmX8_spoil.cells rmX8_spoil.slots (bsA ρ cA Rz s.heap.size)) ρ cA dC dI Rz 5 30 [(0, .ref (ρ 13 0 0)), (1, .int x1), (2, .int x2)] [.int y0] X := by
  rw [fX8_spoil_30] at hf
  refine v_istore_n (lv' := [(3, .int y0), (0, .ref (ρ 13 0 0)), (1, .int x1), (2, .int x2)]) C dX8_spoil_30 rfl (by decide) rfl ?_
  refine v_iload_n C dX8_spoil_31 rfl rfl ?_
  refine v_if_eq (tgt := 48) C dX8_spoil_32 (by decide) (fun h15 => ?_) (fun h15 => ?_)
  · replace hf := bs_pos h15 hf
    refine v_aload_n C dX8_spoil_48 rfl rfl ?_
    refine gf_X8_19 C dX8_spoil_49 ?_
    refine gf_X8_158 C (by decide) dX8_spoil_52 ?_
    refine v_iload_n C dX8_spoil_55 rfl rfl ?_
    obtain ⟨hi14, hf⟩ := bs_if hf
    refine v_aald (t0 := 3) (n := 6) C (bsm_K1 (by decide)) (bsc_K1 (by decide)) rfl hi14 rfl dX8_spoil_56 ?_
    refine gf_X8_162 C (by decide) (bsIx_lt hi14) dX8_spoil_57 ?_
    refine v_widen (k := 3) (n := 18) (Nat.le_of_ble_eq_true rfl) (Nat.le_of_ble_eq_true rfl) ?_
    refine v_sub [1, 3] rfl ?_
    exact wX8_spoil_60   C T0 hst  _ _ _ (Nat.lt_succ_of_lt (bsIx_lt hi14)) hf
  · replace hf := bs_neg h15 hf
    refine v_aload_n C dX8_spoil_35 rfl rfl ?_
    refine gf_X8_19 C dX8_spoil_36 ?_
    refine gf_X8_217 C (by decide) dX8_spoil_39 ?_
    refine gf_X8_233 C (by decide) dX8_spoil_42 ?_
    refine v_goto (tgt := 60) C dX8_spoil_45 (by decide) ?_
    refine v_widen (k := 3) (n := 18) (Nat.le_of_ble_eq_true rfl) (Nat.le_of_ble_eq_true rfl) ?_
    refine v_sub [1, 3] rfl ?_
    exact wX8_spoil_60   C T0 hst  _ _ _ (by decide) hf
set_option maxHeartbeats 4000000 in
set_option maxRecDepth 100000 in
theorem cX8_spoil_ok {l : Launch} {ρ : bsR} {cA : Nat → ClassId} {dC : Nat → ClassId} {dI : Nat → Nat → Nat} {Rz : va_W} (hst : l.stackTraces = false)  {a1 : Int32} {a2 : Int32} {X : bsX} {z : bsXr} (hf : fX8_spoil a1 a2 X = some z) : bsTi l yX8_spoil cX8_spoil 5 (some .int) rmX8_spoil ρ cA dC dI Rz [.ref (ρ 13 0 0), .int a1, .int a2] X z := by
  refine bsTi_of (by decide) (Nat.le_of_ble_eq_true rfl) (fun p e s m args below meth c C T0 => ?_)
  have C : bsCx p m c cX8_spoil 5 s args (Cond.code yX8_spoil cX8_spoil 5 (some .int) :: bsG) RX8 ρ cA dC dI Rz meth (some .int) := C
  rw [fX8_spoil] at hf
  refine v_sub [0, 1, 2] rfl ?_
  refine v_aload_n C dX8_spoil_0 rfl rfl ?_
  refine v_iload_n C dX8_spoil_1 rfl rfl ?_
  obtain ⟨r16, hc17, hf⟩ := bs_bind hf
  refine v_ticallVv (y := yX8_requireSlot) (As := [.int a1]) (rest := []) C T0 (cX8_requireSlot_ok hst  hc17) ml_X8_155 wyX8_requireSlot (bsm_X8) (bsc_X8) rfl dpX8_requireSlot ⟨Nat.le_of_ble_eq_true rfl, Nat.le_of_ble_eq_true rfl⟩ ⟨Nat.le_of_ble_eq_true rfl, Nat.le_of_ble_eq_true rfl⟩ (Nat.le_of_ble_eq_true rfl) (Nat.le_of_ble_eq_true rfl) rfl (Nat.le_of_ble_eq_true rfl) dX8_spoil_2 (fun h => bs_neg h hf) (fun h18 => ?_)
  replace hf := bs_pos h18 hf
  refine v_iload_n C dX8_spoil_5 rfl rfl ?_
  refine v_iconst (v := 0) C dX8_spoil_6 (by decide) ?_
  refine v_iconst (v := 2) C dX8_spoil_7 (by decide) ?_
  obtain ⟨r19, hc20, hf⟩ := bs_bind hf
  refine v_ticallSv (y := yX8_requireWithin) (As := [.int a2, .int (0 : Int32), .int (2 : Int32)]) (rest := []) C T0 (cX8_requireWithin_ok hst  hc20) ml_X8_198 wzX8_requireWithin dpX8_requireWithin ⟨Nat.le_of_ble_eq_true rfl, Nat.le_of_ble_eq_true rfl⟩ ⟨Nat.le_of_ble_eq_true rfl, Nat.le_of_ble_eq_true rfl⟩ (Nat.le_of_ble_eq_true rfl) (Nat.le_of_ble_eq_true rfl) rfl (Nat.le_of_ble_eq_true rfl) dX8_spoil_8 (fun h => bs_neg h hf) (fun h21 => ?_)
  replace hf := bs_pos h21 hf
  refine v_iload_n C dX8_spoil_11 rfl rfl ?_
  refine v_aload_n C dX8_spoil_12 rfl rfl ?_
  refine gf_X8_19 C dX8_spoil_13 ?_
  refine gf_X8_217 C (by decide) dX8_spoil_16 ?_
  refine gf_X8_227 C (by decide) dX8_spoil_19 ?_
  refine v_icmp_ne (tgt := 29) C dX8_spoil_22 (by decide) (fun h22 => ?_) (fun h22 => ?_)
  · replace hf := bs_neg h22 hf
    refine v_iconst (v := 0) C dX8_spoil_29 (by decide) ?_
    refine v_widen (k := 3) (n := 18) (Nat.le_of_ble_eq_true rfl) (Nat.le_of_ble_eq_true rfl) ?_
    refine v_sub [0, 1, 2] rfl ?_
    exact wX8_spoil_30   C T0 hst  _ _ _ _  hf
  · replace hf := bs_pos h22 hf
    refine v_iconst (v := 1) C dX8_spoil_25 (by decide) ?_
    refine v_goto (tgt := 30) C dX8_spoil_26 (by decide) ?_
    refine v_widen (k := 3) (n := 18) (Nat.le_of_ble_eq_true rfl) (Nat.le_of_ble_eq_true rfl) ?_
    refine v_sub [0, 1, 2] rfl ?_
    exact wX8_spoil_30   C T0 hst  _ _ _ _  hf
/-! BootSlots.mark(III)I -/
def fX8_mark (a1 : Int32) (a2 : Int32) (a3 : Int32) (X : bsX) : Option bsXr := (fX8_requireSlot  a1 X).bind fun r1 => if r1.1 = 0 then ((fX8_requireWithin  a2 (0 : Int32) (15 : Int32) r1.2.2).bind fun r4 => if r4.1 = 0 then ((fX8_requireWithin  a3 (0 : Int32) (7 : Int32) r4.2.2).bind fun r7 => if r7.1 = 0 then (if bsIn a1 6 then (if (r7.2.2 0 6 (bsIx a1) 0) = 0 then (some (3, (0 : Int32), r7.2.2)) else ((fX8_remember   r7.2.2).bind fun r11 => some (0, (r11 0 5 (bsIx a1) 2), (bsWr (bsWr r11 0 5 (bsIx a1) 2 a2) 0 5 (bsIx a1) 3 a3)))) else none) else some (r7.1, (0 : Int32), r7.2.2)) else some (r4.1, (0 : Int32), r4.2.2)) else some (r1.1, (0 : Int32), r1.2.2)
abbrev rmX8_mark : Room := { frames := 8, cells := 5, slots := 30, locals := 122 }
set_option maxHeartbeats 4000000 in
set_option maxRecDepth 100000 in
theorem cX8_mark_ok {l : Launch} {ρ : bsR} {cA : Nat → ClassId} {dC : Nat → ClassId} {dI : Nat → Nat → Nat} {Rz : va_W} (hst : l.stackTraces = false)  {a1 : Int32} {a2 : Int32} {a3 : Int32} {X : bsX} {z : bsXr} (hf : fX8_mark a1 a2 a3 X = some z) : bsTi l yX8_mark cX8_mark 6 (some .int) rmX8_mark ρ cA dC dI Rz [.ref (ρ 13 0 0), .int a1, .int a2, .int a3] X z := by
  refine bsTi_of (by decide) (Nat.le_of_ble_eq_true rfl) (fun p e s m args below meth c C T0 => ?_)
  have C : bsCx p m c cX8_mark 6 s args (Cond.code yX8_mark cX8_mark 6 (some .int) :: bsG) RX8 ρ cA dC dI Rz meth (some .int) := C
  rw [fX8_mark] at hf
  refine v_sub [0, 1, 2, 3] rfl ?_
  refine v_aload_n C dX8_mark_0 rfl rfl ?_
  refine v_iload_n C dX8_mark_1 rfl rfl ?_
  obtain ⟨r1, hc2, hf⟩ := bs_bind hf
  refine v_ticallVv (y := yX8_requireSlot) (As := [.int a1]) (rest := []) C T0 (cX8_requireSlot_ok hst  hc2) ml_X8_155 wyX8_requireSlot (bsm_X8) (bsc_X8) rfl dpX8_requireSlot ⟨Nat.le_of_ble_eq_true rfl, Nat.le_of_ble_eq_true rfl⟩ ⟨Nat.le_of_ble_eq_true rfl, Nat.le_of_ble_eq_true rfl⟩ (Nat.le_of_ble_eq_true rfl) (Nat.le_of_ble_eq_true rfl) rfl (Nat.le_of_ble_eq_true rfl) dX8_mark_2 (fun h => bs_neg h hf) (fun h3 => ?_)
  replace hf := bs_pos h3 hf
  refine v_iload_n C dX8_mark_5 rfl rfl ?_
  refine v_iconst (v := 0) C dX8_mark_6 (by decide) ?_
  refine v_bipush (v := 15) C dX8_mark_7 (by decide) ?_
  obtain ⟨r4, hc5, hf⟩ := bs_bind hf
  refine v_ticallSv (y := yX8_requireWithin) (As := [.int a2, .int (0 : Int32), .int (15 : Int32)]) (rest := []) C T0 (cX8_requireWithin_ok hst  hc5) ml_X8_198 wzX8_requireWithin dpX8_requireWithin ⟨Nat.le_of_ble_eq_true rfl, Nat.le_of_ble_eq_true rfl⟩ ⟨Nat.le_of_ble_eq_true rfl, Nat.le_of_ble_eq_true rfl⟩ (Nat.le_of_ble_eq_true rfl) (Nat.le_of_ble_eq_true rfl) rfl (Nat.le_of_ble_eq_true rfl) dX8_mark_9 (fun h => bs_neg h hf) (fun h6 => ?_)
  replace hf := bs_pos h6 hf
  refine v_iload_n C dX8_mark_12 rfl rfl ?_
  refine v_iconst (v := 0) C dX8_mark_13 (by decide) ?_
  refine v_bipush (v := 7) C dX8_mark_14 (by decide) ?_
  obtain ⟨r7, hc8, hf⟩ := bs_bind hf
  refine v_ticallSv (y := yX8_requireWithin) (As := [.int a3, .int (0 : Int32), .int (7 : Int32)]) (rest := []) C T0 (cX8_requireWithin_ok hst  hc8) ml_X8_198 wzX8_requireWithin dpX8_requireWithin ⟨Nat.le_of_ble_eq_true rfl, Nat.le_of_ble_eq_true rfl⟩ ⟨Nat.le_of_ble_eq_true rfl, Nat.le_of_ble_eq_true rfl⟩ (Nat.le_of_ble_eq_true rfl) (Nat.le_of_ble_eq_true rfl) rfl (Nat.le_of_ble_eq_true rfl) dX8_mark_16 (fun h => bs_neg h hf) (fun h9 => ?_)
  replace hf := bs_pos h9 hf
  refine v_aload_n C dX8_mark_19 rfl rfl ?_
  refine gf_X8_19 C dX8_mark_20 ?_
  refine gf_X8_158 C (by decide) dX8_mark_23 ?_
  refine v_iload_n C dX8_mark_26 rfl rfl ?_
  obtain ⟨hi10, hf⟩ := bs_if hf
  refine v_aald (t0 := 3) (n := 6) C (bsm_K1 (by decide)) (bsc_K1 (by decide)) rfl hi10 rfl dX8_mark_27 ?_
  refine v_astore (lv' := [(4, .ref (ρ 0 5 (bsIx a1))), (0, .ref (ρ 13 0 0)), (1, .int a1), (2, .int a2), (3, .int a3)]) C dX8_mark_28 (by decide) rfl ?_
  refine v_aload C dX8_mark_30 rfl ?_
  refine gf_X8_162 C (by decide) (bsIx_lt hi10) dX8_mark_32 ?_
  refine gf_X8_168 C (by decide) (Nat.lt_succ_of_lt (bsIx_lt hi10)) dX8_mark_35 ?_
  refine v_if_ne (tgt := 49) C dX8_mark_38 (by decide) (fun h13 => ?_) (fun h13 => ?_)
  · replace hf := bs_neg h13 hf
    refine v_aload_n C dX8_mark_49 rfl rfl ?_
    obtain ⟨r11, hc12, hf⟩ := bs_bind hf
    refine v_callVv (y := yX8_remember) (As := []) (rest := []) C (cX8_remember_ok  hc12) ml_X8_392 wyX8_remember (bsm_X8) (bsc_X8) rfl dpX8_remember ⟨Nat.le_of_ble_eq_true rfl, Nat.le_of_ble_eq_true rfl⟩ ⟨rfl, rfl⟩ ⟨Nat.le_of_ble_eq_true rfl, Nat.le_of_ble_eq_true rfl⟩ rfl (Nat.le_of_ble_eq_true rfl) dX8_mark_50 ?_
    refine v_aload C dX8_mark_53 rfl ?_
    refine gf_X8_177 C (by decide) (bsIx_lt hi10) dX8_mark_55 ?_
    refine v_istore (lv' := [(5, .int (r11 0 5 (bsIx a1) 2)), (4, .ref (ρ 0 5 (bsIx a1))), (0, .ref (ρ 13 0 0)), (1, .int a1), (2, .int a2), (3, .int a3)]) C dX8_mark_58 (by decide) rfl ?_
    refine v_aload C dX8_mark_60 rfl ?_
    refine v_iload_n C dX8_mark_62 rfl rfl ?_
    refine pf_X8_177 C (by decide) (bsIx_lt hi10) dX8_mark_63 ?_
    refine v_aload C dX8_mark_66 rfl ?_
    refine v_iload_n C dX8_mark_68 rfl rfl ?_
    refine pf_X8_180 C (by decide) (bsIx_lt hi10) dX8_mark_69 ?_
    refine v_iload C dX8_mark_72 rfl ?_
    exact v_tiret C hf (Nat.le_of_ble_eq_true rfl) (Nat.le_of_ble_eq_true rfl) dX8_mark_74
  · replace hf := bs_pos h13 hf
    exact v_throwi (k := 3) C T0 hst hf (by decide) (by decide) tw_3 ⟨Nat.le_of_ble_eq_true rfl, Nat.le_of_ble_eq_true rfl⟩ ⟨Nat.le_of_ble_eq_true rfl, Nat.le_of_ble_eq_true rfl⟩ (Nat.le_of_ble_eq_true rfl) (Nat.le_of_ble_eq_true rfl) dX8_mark_41 dX8_mark_44 dX8_mark_45 dX8_mark_48
/-! BootSlots.setWatch(I)I -/
def fX8_setWatch (a1 : Int32) (X : bsX) : Option bsXr := (fX8_requireWithin  a1 (1 : Int32) (99 : Int32) X).bind fun r1 => if r1.1 = 0 then ((fX8_remember   r1.2.2).bind fun r4 => some (0, (r4 0 0 0 5), (bsWr r4 0 0 0 5 a1))) else some (r1.1, (0 : Int32), r1.2.2)
abbrev rmX8_setWatch : Room := { frames := 7, cells := 1, slots := 6, locals := 103 }
set_option maxHeartbeats 4000000 in
set_option maxRecDepth 100000 in
theorem cX8_setWatch_ok {l : Launch} {ρ : bsR} {cA : Nat → ClassId} {dC : Nat → ClassId} {dI : Nat → Nat → Nat} {Rz : va_W} (hst : l.stackTraces = false)  {a1 : Int32} {X : bsX} {z : bsXr} (hf : fX8_setWatch a1 X = some z) : bsTi l yX8_setWatch cX8_setWatch 3 (some .int) rmX8_setWatch ρ cA dC dI Rz [.ref (ρ 13 0 0), .int a1] X z := by
  refine bsTi_of (by decide) (Nat.le_of_ble_eq_true rfl) (fun p e s m args below meth c C T0 => ?_)
  have C : bsCx p m c cX8_setWatch 3 s args (Cond.code yX8_setWatch cX8_setWatch 3 (some .int) :: bsG) RX8 ρ cA dC dI Rz meth (some .int) := C
  rw [fX8_setWatch] at hf
  refine v_sub [0, 1] rfl ?_
  refine v_iload_n C dX8_setWatch_0 rfl rfl ?_
  refine v_iconst (v := 1) C dX8_setWatch_1 (by decide) ?_
  refine v_bipush (v := 99) C dX8_setWatch_2 (by decide) ?_
  obtain ⟨r1, hc2, hf⟩ := bs_bind hf
  refine v_ticallSv (y := yX8_requireWithin) (As := [.int a1, .int (1 : Int32), .int (99 : Int32)]) (rest := []) C T0 (cX8_requireWithin_ok hst  hc2) ml_X8_198 wzX8_requireWithin dpX8_requireWithin ⟨Nat.le_of_ble_eq_true rfl, Nat.le_of_ble_eq_true rfl⟩ ⟨Nat.le_of_ble_eq_true rfl, Nat.le_of_ble_eq_true rfl⟩ (Nat.le_of_ble_eq_true rfl) (Nat.le_of_ble_eq_true rfl) rfl (Nat.le_of_ble_eq_true rfl) dX8_setWatch_4 (fun h => bs_neg h hf) (fun h3 => ?_)
  replace hf := bs_pos h3 hf
  refine v_aload_n C dX8_setWatch_7 rfl rfl ?_
  obtain ⟨r4, hc5, hf⟩ := bs_bind hf
  refine v_callVv (y := yX8_remember) (As := []) (rest := []) C (cX8_remember_ok  hc5) ml_X8_392 wyX8_remember (bsm_X8) (bsc_X8) rfl dpX8_remember ⟨Nat.le_of_ble_eq_true rfl, Nat.le_of_ble_eq_true rfl⟩ ⟨rfl, rfl⟩ ⟨Nat.le_of_ble_eq_true rfl, Nat.le_of_ble_eq_true rfl⟩ rfl (Nat.le_of_ble_eq_true rfl) dX8_setWatch_8 ?_
  refine v_aload_n C dX8_setWatch_11 rfl rfl ?_
  refine gf_X8_19 C dX8_setWatch_12 ?_
  refine gf_X8_88 C (by decide) dX8_setWatch_15 ?_
  refine v_istore_n (lv' := [(2, .int (r4 0 0 0 5)), (0, .ref (ρ 13 0 0)), (1, .int a1)]) C dX8_setWatch_18 rfl (by decide) rfl ?_
  refine v_aload_n C dX8_setWatch_19 rfl rfl ?_
  refine gf_X8_19 C dX8_setWatch_20 ?_
  refine v_iload_n C dX8_setWatch_23 rfl rfl ?_
  refine pf_X8_88 C (by decide) dX8_setWatch_24 ?_
  refine v_iload_n C dX8_setWatch_27 rfl rfl ?_
  exact v_tiret C hf (Nat.le_of_ble_eq_true rfl) (Nat.le_of_ble_eq_true rfl) dX8_setWatch_28
/-! BootSlots.setLimit(I)I -/
def fX8_setLimit (a1 : Int32) (X : bsX) : Option bsXr := (fX8_requireWithin  a1 (1 : Int32) (9 : Int32) X).bind fun r1 => if r1.1 = 0 then ((fX8_remember   r1.2.2).bind fun r4 => some (0, (r4 0 0 0 6), (bsWr r4 0 0 0 6 a1))) else some (r1.1, (0 : Int32), r1.2.2)
abbrev rmX8_setLimit : Room := { frames := 7, cells := 1, slots := 6, locals := 103 }
set_option maxHeartbeats 4000000 in
set_option maxRecDepth 100000 in
theorem cX8_setLimit_ok {l : Launch} {ρ : bsR} {cA : Nat → ClassId} {dC : Nat → ClassId} {dI : Nat → Nat → Nat} {Rz : va_W} (hst : l.stackTraces = false)  {a1 : Int32} {X : bsX} {z : bsXr} (hf : fX8_setLimit a1 X = some z) : bsTi l yX8_setLimit cX8_setLimit 3 (some .int) rmX8_setLimit ρ cA dC dI Rz [.ref (ρ 13 0 0), .int a1] X z := by
  refine bsTi_of (by decide) (Nat.le_of_ble_eq_true rfl) (fun p e s m args below meth c C T0 => ?_)
  have C : bsCx p m c cX8_setLimit 3 s args (Cond.code yX8_setLimit cX8_setLimit 3 (some .int) :: bsG) RX8 ρ cA dC dI Rz meth (some .int) := C
  rw [fX8_setLimit] at hf
  refine v_sub [0, 1] rfl ?_
  refine v_iload_n C dX8_setLimit_0 rfl rfl ?_
  refine v_iconst (v := 1) C dX8_setLimit_1 (by decide) ?_
  refine v_bipush (v := 9) C dX8_setLimit_2 (by decide) ?_
  obtain ⟨r1, hc2, hf⟩ := bs_bind hf
  refine v_ticallSv (y := yX8_requireWithin) (As := [.int a1, .int (1 : Int32), .int (9 : Int32)]) (rest := []) C T0 (cX8_requireWithin_ok hst  hc2) ml_X8_198 wzX8_requireWithin dpX8_requireWithin ⟨Nat.le_of_ble_eq_true rfl, Nat.le_of_ble_eq_true rfl⟩ ⟨Nat.le_of_ble_eq_true rfl, Nat.le_of_ble_eq_true rfl⟩ (Nat.le_of_ble_eq_true rfl) (Nat.le_of_ble_eq_true rfl) rfl (Nat.le_of_ble_eq_true rfl) dX8_setLimit_4 (fun h => bs_neg h hf) (fun h3 => ?_)
  replace hf := bs_pos h3 hf
  refine v_aload_n C dX8_setLimit_7 rfl rfl ?_
  obtain ⟨r4, hc5, hf⟩ := bs_bind hf
  refine v_callVv (y := yX8_remember) (As := []) (rest := []) C (cX8_remember_ok  hc5) ml_X8_392 wyX8_remember (bsm_X8) (bsc_X8) rfl dpX8_remember ⟨Nat.le_of_ble_eq_true rfl, Nat.le_of_ble_eq_true rfl⟩ ⟨rfl, rfl⟩ ⟨Nat.le_of_ble_eq_true rfl, Nat.le_of_ble_eq_true rfl⟩ rfl (Nat.le_of_ble_eq_true rfl) dX8_setLimit_8 ?_
  refine v_aload_n C dX8_setLimit_11 rfl rfl ?_
  refine gf_X8_19 C dX8_setLimit_12 ?_
  refine gf_X8_91 C (by decide) dX8_setLimit_15 ?_
  refine v_istore_n (lv' := [(2, .int (r4 0 0 0 6)), (0, .ref (ρ 13 0 0)), (1, .int a1)]) C dX8_setLimit_18 rfl (by decide) rfl ?_
  refine v_aload_n C dX8_setLimit_19 rfl rfl ?_
  refine gf_X8_19 C dX8_setLimit_20 ?_
  refine v_iload_n C dX8_setLimit_23 rfl rfl ?_
  refine pf_X8_91 C (by decide) dX8_setLimit_24 ?_
  refine v_iload_n C dX8_setLimit_27 rfl rfl ?_
  exact v_tiret C hf (Nat.le_of_ble_eq_true rfl) (Nat.le_of_ble_eq_true rfl) dX8_setLimit_28
/-! BootSlots.setRetry(I)I -/
def fX8_setRetry (a1 : Int32) (X : bsX) : Option bsXr := (fX8_requireWithin  a1 (0 : Int32) (7 : Int32) X).bind fun r1 => if r1.1 = 0 then ((fX8_remember   r1.2.2).bind fun r4 => some (0, (r4 0 0 0 7), (bsWr r4 0 0 0 7 a1))) else some (r1.1, (0 : Int32), r1.2.2)
abbrev rmX8_setRetry : Room := { frames := 7, cells := 1, slots := 6, locals := 103 }
set_option maxHeartbeats 4000000 in
set_option maxRecDepth 100000 in
theorem cX8_setRetry_ok {l : Launch} {ρ : bsR} {cA : Nat → ClassId} {dC : Nat → ClassId} {dI : Nat → Nat → Nat} {Rz : va_W} (hst : l.stackTraces = false)  {a1 : Int32} {X : bsX} {z : bsXr} (hf : fX8_setRetry a1 X = some z) : bsTi l yX8_setRetry cX8_setRetry 3 (some .int) rmX8_setRetry ρ cA dC dI Rz [.ref (ρ 13 0 0), .int a1] X z := by
  refine bsTi_of (by decide) (Nat.le_of_ble_eq_true rfl) (fun p e s m args below meth c C T0 => ?_)
  have C : bsCx p m c cX8_setRetry 3 s args (Cond.code yX8_setRetry cX8_setRetry 3 (some .int) :: bsG) RX8 ρ cA dC dI Rz meth (some .int) := C
  rw [fX8_setRetry] at hf
  refine v_sub [0, 1] rfl ?_
  refine v_iload_n C dX8_setRetry_0 rfl rfl ?_
  refine v_iconst (v := 0) C dX8_setRetry_1 (by decide) ?_
  refine v_bipush (v := 7) C dX8_setRetry_2 (by decide) ?_
  obtain ⟨r1, hc2, hf⟩ := bs_bind hf
  refine v_ticallSv (y := yX8_requireWithin) (As := [.int a1, .int (0 : Int32), .int (7 : Int32)]) (rest := []) C T0 (cX8_requireWithin_ok hst  hc2) ml_X8_198 wzX8_requireWithin dpX8_requireWithin ⟨Nat.le_of_ble_eq_true rfl, Nat.le_of_ble_eq_true rfl⟩ ⟨Nat.le_of_ble_eq_true rfl, Nat.le_of_ble_eq_true rfl⟩ (Nat.le_of_ble_eq_true rfl) (Nat.le_of_ble_eq_true rfl) rfl (Nat.le_of_ble_eq_true rfl) dX8_setRetry_4 (fun h => bs_neg h hf) (fun h3 => ?_)
  replace hf := bs_pos h3 hf
  refine v_aload_n C dX8_setRetry_7 rfl rfl ?_
  obtain ⟨r4, hc5, hf⟩ := bs_bind hf
  refine v_callVv (y := yX8_remember) (As := []) (rest := []) C (cX8_remember_ok  hc5) ml_X8_392 wyX8_remember (bsm_X8) (bsc_X8) rfl dpX8_remember ⟨Nat.le_of_ble_eq_true rfl, Nat.le_of_ble_eq_true rfl⟩ ⟨rfl, rfl⟩ ⟨Nat.le_of_ble_eq_true rfl, Nat.le_of_ble_eq_true rfl⟩ rfl (Nat.le_of_ble_eq_true rfl) dX8_setRetry_8 ?_
  refine v_aload_n C dX8_setRetry_11 rfl rfl ?_
  refine gf_X8_19 C dX8_setRetry_12 ?_
  refine gf_X8_94 C (by decide) dX8_setRetry_15 ?_
  refine v_istore_n (lv' := [(2, .int (r4 0 0 0 7)), (0, .ref (ρ 13 0 0)), (1, .int a1)]) C dX8_setRetry_18 rfl (by decide) rfl ?_
  refine v_aload_n C dX8_setRetry_19 rfl rfl ?_
  refine gf_X8_19 C dX8_setRetry_20 ?_
  refine v_iload_n C dX8_setRetry_23 rfl rfl ?_
  refine pf_X8_94 C (by decide) dX8_setRetry_24 ?_
  refine v_iload_n C dX8_setRetry_27 rfl rfl ?_
  exact v_tiret C hf (Nat.le_of_ble_eq_true rfl) (Nat.le_of_ble_eq_true rfl) dX8_setRetry_28
/-! BootSlots.setFloor(I)I -/
def fX8_setFloor (a1 : Int32) (X : bsX) : Option bsXr := (fX8_requireWithin  a1 (X 0 0 0 8) (99 : Int32) X).bind fun r1 => if r1.1 = 0 then ((fX8_remember   r1.2.2).bind fun r4 => some (0, (r4 0 0 0 8), (bsWr r4 0 0 0 8 a1))) else some (r1.1, (0 : Int32), r1.2.2)
abbrev rmX8_setFloor : Room := { frames := 7, cells := 1, slots := 6, locals := 103 }
set_option maxHeartbeats 4000000 in
set_option maxRecDepth 100000 in
theorem cX8_setFloor_ok {l : Launch} {ρ : bsR} {cA : Nat → ClassId} {dC : Nat → ClassId} {dI : Nat → Nat → Nat} {Rz : va_W} (hst : l.stackTraces = false)  {a1 : Int32} {X : bsX} {z : bsXr} (hf : fX8_setFloor a1 X = some z) : bsTi l yX8_setFloor cX8_setFloor 3 (some .int) rmX8_setFloor ρ cA dC dI Rz [.ref (ρ 13 0 0), .int a1] X z := by
  refine bsTi_of (by decide) (Nat.le_of_ble_eq_true rfl) (fun p e s m args below meth c C T0 => ?_)
  have C : bsCx p m c cX8_setFloor 3 s args (Cond.code yX8_setFloor cX8_setFloor 3 (some .int) :: bsG) RX8 ρ cA dC dI Rz meth (some .int) := C
  rw [fX8_setFloor] at hf
  refine v_sub [0, 1] rfl ?_
  refine v_iload_n C dX8_setFloor_0 rfl rfl ?_
  refine v_aload_n C dX8_setFloor_1 rfl rfl ?_
  refine gf_X8_19 C dX8_setFloor_2 ?_
  refine gf_X8_97 C (by decide) dX8_setFloor_5 ?_
  refine v_bipush (v := 99) C dX8_setFloor_8 (by decide) ?_
  obtain ⟨r1, hc2, hf⟩ := bs_bind hf
  refine v_ticallSv (y := yX8_requireWithin) (As := [.int a1, .int (X 0 0 0 8), .int (99 : Int32)]) (rest := []) C T0 (cX8_requireWithin_ok hst  hc2) ml_X8_198 wzX8_requireWithin dpX8_requireWithin ⟨Nat.le_of_ble_eq_true rfl, Nat.le_of_ble_eq_true rfl⟩ ⟨Nat.le_of_ble_eq_true rfl, Nat.le_of_ble_eq_true rfl⟩ (Nat.le_of_ble_eq_true rfl) (Nat.le_of_ble_eq_true rfl) rfl (Nat.le_of_ble_eq_true rfl) dX8_setFloor_10 (fun h => bs_neg h hf) (fun h3 => ?_)
  replace hf := bs_pos h3 hf
  refine v_aload_n C dX8_setFloor_13 rfl rfl ?_
  obtain ⟨r4, hc5, hf⟩ := bs_bind hf
  refine v_callVv (y := yX8_remember) (As := []) (rest := []) C (cX8_remember_ok  hc5) ml_X8_392 wyX8_remember (bsm_X8) (bsc_X8) rfl dpX8_remember ⟨Nat.le_of_ble_eq_true rfl, Nat.le_of_ble_eq_true rfl⟩ ⟨rfl, rfl⟩ ⟨Nat.le_of_ble_eq_true rfl, Nat.le_of_ble_eq_true rfl⟩ rfl (Nat.le_of_ble_eq_true rfl) dX8_setFloor_14 ?_
  refine v_aload_n C dX8_setFloor_17 rfl rfl ?_
  refine gf_X8_19 C dX8_setFloor_18 ?_
  refine gf_X8_97 C (by decide) dX8_setFloor_21 ?_
  refine v_istore_n (lv' := [(2, .int (r4 0 0 0 8)), (0, .ref (ρ 13 0 0)), (1, .int a1)]) C dX8_setFloor_24 rfl (by decide) rfl ?_
  refine v_aload_n C dX8_setFloor_25 rfl rfl ?_
  refine gf_X8_19 C dX8_setFloor_26 ?_
  refine v_iload_n C dX8_setFloor_29 rfl rfl ?_
  refine pf_X8_97 C (by decide) dX8_setFloor_30 ?_
  refine v_iload_n C dX8_setFloor_33 rfl rfl ?_
  exact v_tiret C hf (Nat.le_of_ble_eq_true rfl) (Nat.le_of_ble_eq_true rfl) dX8_setFloor_34
/-! BootSlots.setNumber(II)I -/
def fX8_setNumber (a1 : Int32) (a2 : Int32) (X : bsX) : Option bsXr := (fX8_requireLoaded   X).bind fun r1 => if r1.1 = 0 then (if a1.toInt < 2 ∨ 5 < a1.toInt then (some (3, (0 : Int32), r1.2.2)) else (if a1 = 2 then ((fX8_setWatch  a2 r1.2.2).bind fun r5 => if r5.1 = 0 then (some (0, r5.2.1, r5.2.2)) else some (r5.1, (0 : Int32), r5.2.2)) else (if a1 = 3 then ((fX8_setLimit  a2 r1.2.2).bind fun r8 => if r8.1 = 0 then (some (0, r8.2.1, r8.2.2)) else some (r8.1, (0 : Int32), r8.2.2)) else (if a1 = 4 then ((fX8_setRetry  a2 r1.2.2).bind fun r11 => if r11.1 = 0 then (some (0, r11.2.1, r11.2.2)) else some (r11.1, (0 : Int32), r11.2.2)) else (if a1 = 5 then ((fX8_setFloor  a2 r1.2.2).bind fun r14 => if r14.1 = 0 then (some (0, r14.2.1, r14.2.2)) else some (r14.1, (0 : Int32), r14.2.2)) else (none)))))) else some (r1.1, (0 : Int32), r1.2.2)
abbrev rmX8_setNumber : Room := { frames := 8, cells := 2, slots := 12, locals := 125 }
set_option maxHeartbeats 4000000 in
set_option maxRecDepth 100000 in
theorem cX8_setNumber_ok {l : Launch} {ρ : bsR} {cA : Nat → ClassId} {dC : Nat → ClassId} {dI : Nat → Nat → Nat} {Rz : va_W} (hst : l.stackTraces = false)  {a1 : Int32} {a2 : Int32} {X : bsX} {z : bsXr} (hf : fX8_setNumber a1 a2 X = some z) : bsTi l yX8_setNumber cX8_setNumber 3 (some .int) rmX8_setNumber ρ cA dC dI Rz [.ref (ρ 13 0 0), .int a1, .int a2] X z := by
  refine bsTi_of (by decide) (Nat.le_of_ble_eq_true rfl) (fun p e s m args below meth c C T0 => ?_)
  have C : bsCx p m c cX8_setNumber 3 s args (Cond.code yX8_setNumber cX8_setNumber 3 (some .int) :: bsG) RX8 ρ cA dC dI Rz meth (some .int) := C
  rw [fX8_setNumber] at hf
  refine v_sub [0, 1, 2] rfl ?_
  refine v_aload_n C dX8_setNumber_0 rfl rfl ?_
  obtain ⟨r1, hc2, hf⟩ := bs_bind hf
  refine v_ticallVv (y := yX8_requireLoaded) (As := []) (rest := []) C T0 (cX8_requireLoaded_ok hst  hc2) ml_X8_82 wyX8_requireLoaded (bsm_X8) (bsc_X8) rfl dpX8_requireLoaded ⟨Nat.le_of_ble_eq_true rfl, Nat.le_of_ble_eq_true rfl⟩ ⟨Nat.le_of_ble_eq_true rfl, Nat.le_of_ble_eq_true rfl⟩ (Nat.le_of_ble_eq_true rfl) (Nat.le_of_ble_eq_true rfl) rfl (Nat.le_of_ble_eq_true rfl) dX8_setNumber_1 (fun h => bs_neg h hf) (fun h3 => ?_)
  replace hf := bs_pos h3 hf
  refine v_iload_n C dX8_setNumber_4 rfl rfl ?_
  by_cases h4 : a1.toInt < 2 ∨ 5 < a1.toInt
  · replace hf := bs_pos h4 hf
    refine v_tabOut (tgt := 60) C dX8_setNumber_5 h4 (by decide) ?_
    exact v_throwi (k := 3) C T0 hst hf (by decide) (by decide) tw_3 ⟨Nat.le_of_ble_eq_true rfl, Nat.le_of_ble_eq_true rfl⟩ ⟨Nat.le_of_ble_eq_true rfl, Nat.le_of_ble_eq_true rfl⟩ (Nat.le_of_ble_eq_true rfl) (Nat.le_of_ble_eq_true rfl) dX8_setNumber_60 dX8_setNumber_63 dX8_setNumber_64 dX8_setNumber_67
  replace hf := bs_neg h4 hf
  by_cases h17 : a1 = 2
  · replace hf := bs_pos h17 hf
    refine v_tabIn (off := 31) (tgt := 36) C 2 dX8_setNumber_5 h17 (by decide) (by decide) rfl (by decide) ?_
    refine v_aload_n C dX8_setNumber_36 rfl rfl ?_
    refine v_iload_n C dX8_setNumber_37 rfl rfl ?_
    obtain ⟨r5, hc6, hf⟩ := bs_bind hf
    refine v_ticallVi (y := yX8_setWatch) (As := [.int a2]) (rest := []) C T0 (cX8_setWatch_ok hst  hc6) ml_X8_401 wyX8_setWatch (bsm_X8) (bsc_X8) rfl dpX8_setWatch ⟨Nat.le_of_ble_eq_true rfl, Nat.le_of_ble_eq_true rfl⟩ ⟨Nat.le_of_ble_eq_true rfl, Nat.le_of_ble_eq_true rfl⟩ (Nat.le_of_ble_eq_true rfl) (Nat.le_of_ble_eq_true rfl) rfl (Nat.le_of_ble_eq_true rfl) dX8_setNumber_38 (fun h => bs_neg h hf) (fun h7 => ?_)
    replace hf := bs_pos h7 hf
    exact v_tiret C hf (Nat.le_of_ble_eq_true rfl) (Nat.le_of_ble_eq_true rfl) dX8_setNumber_41
  replace hf := bs_neg h17 hf
  by_cases h18 : a1 = 3
  · replace hf := bs_pos h18 hf
    refine v_tabIn (off := 37) (tgt := 42) C 3 dX8_setNumber_5 h18 (by decide) (by decide) rfl (by decide) ?_
    refine v_aload_n C dX8_setNumber_42 rfl rfl ?_
    refine v_iload_n C dX8_setNumber_43 rfl rfl ?_
    obtain ⟨r8, hc9, hf⟩ := bs_bind hf
    refine v_ticallVi (y := yX8_setLimit) (As := [.int a2]) (rest := []) C T0 (cX8_setLimit_ok hst  hc9) ml_X8_404 wyX8_setLimit (bsm_X8) (bsc_X8) rfl dpX8_setLimit ⟨Nat.le_of_ble_eq_true rfl, Nat.le_of_ble_eq_true rfl⟩ ⟨Nat.le_of_ble_eq_true rfl, Nat.le_of_ble_eq_true rfl⟩ (Nat.le_of_ble_eq_true rfl) (Nat.le_of_ble_eq_true rfl) rfl (Nat.le_of_ble_eq_true rfl) dX8_setNumber_44 (fun h => bs_neg h hf) (fun h10 => ?_)
    replace hf := bs_pos h10 hf
    exact v_tiret C hf (Nat.le_of_ble_eq_true rfl) (Nat.le_of_ble_eq_true rfl) dX8_setNumber_47
  replace hf := bs_neg h18 hf
  by_cases h19 : a1 = 4
  · replace hf := bs_pos h19 hf
    refine v_tabIn (off := 43) (tgt := 48) C 4 dX8_setNumber_5 h19 (by decide) (by decide) rfl (by decide) ?_
    refine v_aload_n C dX8_setNumber_48 rfl rfl ?_
    refine v_iload_n C dX8_setNumber_49 rfl rfl ?_
    obtain ⟨r11, hc12, hf⟩ := bs_bind hf
    refine v_ticallVi (y := yX8_setRetry) (As := [.int a2]) (rest := []) C T0 (cX8_setRetry_ok hst  hc12) ml_X8_407 wyX8_setRetry (bsm_X8) (bsc_X8) rfl dpX8_setRetry ⟨Nat.le_of_ble_eq_true rfl, Nat.le_of_ble_eq_true rfl⟩ ⟨Nat.le_of_ble_eq_true rfl, Nat.le_of_ble_eq_true rfl⟩ (Nat.le_of_ble_eq_true rfl) (Nat.le_of_ble_eq_true rfl) rfl (Nat.le_of_ble_eq_true rfl) dX8_setNumber_50 (fun h => bs_neg h hf) (fun h13 => ?_)
    replace hf := bs_pos h13 hf
    exact v_tiret C hf (Nat.le_of_ble_eq_true rfl) (Nat.le_of_ble_eq_true rfl) dX8_setNumber_53
  replace hf := bs_neg h19 hf
  by_cases h20 : a1 = 5
  · replace hf := bs_pos h20 hf
    refine v_tabIn (off := 49) (tgt := 54) C 5 dX8_setNumber_5 h20 (by decide) (by decide) rfl (by decide) ?_
    refine v_aload_n C dX8_setNumber_54 rfl rfl ?_
    refine v_iload_n C dX8_setNumber_55 rfl rfl ?_
    obtain ⟨r14, hc15, hf⟩ := bs_bind hf
    refine v_ticallVi (y := yX8_setFloor) (As := [.int a2]) (rest := []) C T0 (cX8_setFloor_ok hst  hc15) ml_X8_410 wyX8_setFloor (bsm_X8) (bsc_X8) rfl dpX8_setFloor ⟨Nat.le_of_ble_eq_true rfl, Nat.le_of_ble_eq_true rfl⟩ ⟨Nat.le_of_ble_eq_true rfl, Nat.le_of_ble_eq_true rfl⟩ (Nat.le_of_ble_eq_true rfl) (Nat.le_of_ble_eq_true rfl) rfl (Nat.le_of_ble_eq_true rfl) dX8_setNumber_56 (fun h => bs_neg h hf) (fun h16 => ?_)
    replace hf := bs_pos h16 hf
    exact v_tiret C hf (Nat.le_of_ble_eq_true rfl) (Nat.le_of_ble_eq_true rfl) dX8_setNumber_59
  replace hf := bs_neg h20 hf
  exact (nomatch hf)
/-! BootSlots.undo()I -/
def fX8_undo (X : bsX) : Option bsXr := if 0 < (X 13 0 0 9) then (if ((bsWr (bsWr X 13 0 0 8 ((((X 13 0 0 8) + (8 : Int32)) - (1 : Int32)) - (((X 13 0 0 8) + (8 : Int32)) - (1 : Int32)) / (8 : Int32) * (8 : Int32))) 13 0 0 9 (((bsWr X 13 0 0 8 ((((X 13 0 0 8) + (8 : Int32)) - (1 : Int32)) - (((X 13 0 0 8) + (8 : Int32)) - (1 : Int32)) / (8 : Int32) * (8 : Int32))) 13 0 0 9) - (1 : Int32))) 13 0 0 8) < 0 then (some (0, ((bsWr (bsWr X 13 0 0 8 ((((X 13 0 0 8) + (8 : Int32)) - (1 : Int32)) - (((X 13 0 0 8) + (8 : Int32)) - (1 : Int32)) / (8 : Int32) * (8 : Int32))) 13 0 0 9 (((bsWr X 13 0 0 8 ((((X 13 0 0 8) + (8 : Int32)) - (1 : Int32)) - (((X 13 0 0 8) + (8 : Int32)) - (1 : Int32)) / (8 : Int32) * (8 : Int32))) 13 0 0 9) - (1 : Int32))) 13 0 0 9), (bsWr (bsWr X 13 0 0 8 ((((X 13 0 0 8) + (8 : Int32)) - (1 : Int32)) - (((X 13 0 0 8) + (8 : Int32)) - (1 : Int32)) / (8 : Int32) * (8 : Int32))) 13 0 0 9 (((bsWr X 13 0 0 8 ((((X 13 0 0 8) + (8 : Int32)) - (1 : Int32)) - (((X 13 0 0 8) + (8 : Int32)) - (1 : Int32)) / (8 : Int32) * (8 : Int32))) 13 0 0 9) - (1 : Int32))))) else (if (8 : Int32) ≤ ((bsWr (bsWr X 13 0 0 8 ((((X 13 0 0 8) + (8 : Int32)) - (1 : Int32)) - (((X 13 0 0 8) + (8 : Int32)) - (1 : Int32)) / (8 : Int32) * (8 : Int32))) 13 0 0 9 (((bsWr X 13 0 0 8 ((((X 13 0 0 8) + (8 : Int32)) - (1 : Int32)) - (((X 13 0 0 8) + (8 : Int32)) - (1 : Int32)) / (8 : Int32) * (8 : Int32))) 13 0 0 9) - (1 : Int32))) 13 0 0 8) then (some (0, ((bsWr (bsWr X 13 0 0 8 ((((X 13 0 0 8) + (8 : Int32)) - (1 : Int32)) - (((X 13 0 0 8) + (8 : Int32)) - (1 : Int32)) / (8 : Int32) * (8 : Int32))) 13 0 0 9 (((bsWr X 13 0 0 8 ((((X 13 0 0 8) + (8 : Int32)) - (1 : Int32)) - (((X 13 0 0 8) + (8 : Int32)) - (1 : Int32)) / (8 : Int32) * (8 : Int32))) 13 0 0 9) - (1 : Int32))) 13 0 0 9), (bsWr (bsWr X 13 0 0 8 ((((X 13 0 0 8) + (8 : Int32)) - (1 : Int32)) - (((X 13 0 0 8) + (8 : Int32)) - (1 : Int32)) / (8 : Int32) * (8 : Int32))) 13 0 0 9 (((bsWr X 13 0 0 8 ((((X 13 0 0 8) + (8 : Int32)) - (1 : Int32)) - (((X 13 0 0 8) + (8 : Int32)) - (1 : Int32)) / (8 : Int32) * (8 : Int32))) 13 0 0 9) - (1 : Int32))))) else (if bsIn ((bsWr (bsWr X 13 0 0 8 ((((X 13 0 0 8) + (8 : Int32)) - (1 : Int32)) - (((X 13 0 0 8) + (8 : Int32)) - (1 : Int32)) / (8 : Int32) * (8 : Int32))) 13 0 0 9 (((bsWr X 13 0 0 8 ((((X 13 0 0 8) + (8 : Int32)) - (1 : Int32)) - (((X 13 0 0 8) + (8 : Int32)) - (1 : Int32)) / (8 : Int32) * (8 : Int32))) 13 0 0 9) - (1 : Int32))) 13 0 0 8) 8 then ((fX3_copyFrom 0 (2 + bsIx ((bsWr (bsWr X 13 0 0 8 ((((X 13 0 0 8) + (8 : Int32)) - (1 : Int32)) - (((X 13 0 0 8) + (8 : Int32)) - (1 : Int32)) / (8 : Int32) * (8 : Int32))) 13 0 0 9 (((bsWr X 13 0 0 8 ((((X 13 0 0 8) + (8 : Int32)) - (1 : Int32)) - (((X 13 0 0 8) + (8 : Int32)) - (1 : Int32)) / (8 : Int32) * (8 : Int32))) 13 0 0 9) - (1 : Int32))) 13 0 0 8))  (bsWr (bsWr X 13 0 0 8 ((((X 13 0 0 8) + (8 : Int32)) - (1 : Int32)) - (((X 13 0 0 8) + (8 : Int32)) - (1 : Int32)) / (8 : Int32) * (8 : Int32))) 13 0 0 9 (((bsWr X 13 0 0 8 ((((X 13 0 0 8) + (8 : Int32)) - (1 : Int32)) - (((X 13 0 0 8) + (8 : Int32)) - (1 : Int32)) / (8 : Int32) * (8 : Int32))) 13 0 0 9) - (1 : Int32)))).bind fun r2 => some (0, (r2 13 0 0 9), r2)) else none))) else (some (1, (0 : Int32), X))
abbrev rmX8_undo : Room := { frames := 6, cells := 1, slots := 6, locals := 81 }
set_option maxHeartbeats 4000000 in
set_option maxRecDepth 100000 in
theorem cX8_undo_ok {l : Launch} {ρ : bsR} {cA : Nat → ClassId} {dC : Nat → ClassId} {dI : Nat → Nat → Nat} {Rz : va_W} (hst : l.stackTraces = false)  {X : bsX} {z : bsXr} (hf : fX8_undo  X = some z) : bsTi l yX8_undo cX8_undo 1 (some .int) rmX8_undo ρ cA dC dI Rz [.ref (ρ 13 0 0)] X z := by
  refine bsTi_of (by decide) (Nat.le_of_ble_eq_true rfl) (fun p e s m args below meth c C T0 => ?_)
  have C : bsCx p m c cX8_undo 1 s args (Cond.code yX8_undo cX8_undo 1 (some .int) :: bsG) RX8 ρ cA dC dI Rz meth (some .int) := C
  rw [fX8_undo] at hf
  refine v_sub [0] rfl ?_
  refine v_aload_n C dX8_undo_0 rfl rfl ?_
  refine gf_X8_413 C dX8_undo_1 ?_
  refine v_if_gt (tgt := 15) C dX8_undo_4 (by decide) (fun h6 => ?_) (fun h6 => ?_)
  · replace hf := bs_pos h6 hf
    refine v_aload_n C dX8_undo_15 rfl rfl ?_
    refine v_aload_n C dX8_undo_16 rfl rfl ?_
    refine gf_X8_419 C dX8_undo_17 ?_
    refine v_bipush (v := 8) C dX8_undo_20 (by decide) ?_
    refine v_iadd C dX8_undo_22 ?_
    refine v_iconst (v := 1) C dX8_undo_23 (by decide) ?_
    refine v_isub C dX8_undo_24 ?_
    refine v_bipush (v := 8) C dX8_undo_25 (by decide) ?_
    refine v_irem C dX8_undo_27 (by decide) ?_
    refine pf_X8_419 C dX8_undo_28 ?_
    refine v_aload_n C dX8_undo_31 rfl rfl ?_
    refine v_dup C dX8_undo_32 rfl ?_
    refine gf_X8_413 C dX8_undo_33 ?_
    refine v_iconst (v := 1) C dX8_undo_36 (by decide) ?_
    refine v_isub C dX8_undo_37 ?_
    refine pf_X8_413 C dX8_undo_38 ?_
    refine v_aload_n C dX8_undo_41 rfl rfl ?_
    refine gf_X8_419 C dX8_undo_42 ?_
    refine v_if_lt (tgt := 73) C dX8_undo_45 (by decide) (fun h5 => ?_) (fun h5 => ?_)
    · replace hf := bs_pos h5 hf
      refine v_aload_n C dX8_undo_73 rfl rfl ?_
      refine gf_X8_413 C dX8_undo_74 ?_
      exact v_tiret C hf (Nat.le_of_ble_eq_true rfl) (Nat.le_of_ble_eq_true rfl) dX8_undo_77
    · replace hf := bs_neg h5 hf
      refine v_aload_n C dX8_undo_48 rfl rfl ?_
      refine gf_X8_419 C dX8_undo_49 ?_
      refine v_bipush (v := 8) C dX8_undo_52 (by decide) ?_
      refine v_icmp_ge (tgt := 73) C dX8_undo_54 (by decide) (fun h4 => ?_) (fun h4 => ?_)
      · replace hf := bs_pos h4 hf
        refine v_aload_n C dX8_undo_73 rfl rfl ?_
        refine gf_X8_413 C dX8_undo_74 ?_
        exact v_tiret C hf (Nat.le_of_ble_eq_true rfl) (Nat.le_of_ble_eq_true rfl) dX8_undo_77
      · replace hf := bs_neg h4 hf
        refine v_aload_n C dX8_undo_57 rfl rfl ?_
        refine gf_X8_19 C dX8_undo_58 ?_
        refine v_aload_n C dX8_undo_61 rfl rfl ?_
        refine gf_X8_26 C dX8_undo_62 ?_
        refine v_aload_n C dX8_undo_65 rfl rfl ?_
        refine gf_X8_419 C dX8_undo_66 ?_
        obtain ⟨hi1, hf⟩ := bs_if hf
        refine v_aald (t0 := 4) (n := 8) C bsm_13_3 bsc_13_3 rfl hi1 rfl dX8_undo_69 ?_
        obtain ⟨r2, hc3, hf⟩ := bs_bind hf
        refine v_callVv (y := yX3_copyFrom) (As := [.ref (ρ (2 + bsIx ((bsWr (bsWr X 13 0 0 8 ((((X 13 0 0 8) + (8 : Int32)) - (1 : Int32)) - (((X 13 0 0 8) + (8 : Int32)) - (1 : Int32)) / (8 : Int32) * (8 : Int32))) 13 0 0 9 (((bsWr X 13 0 0 8 ((((X 13 0 0 8) + (8 : Int32)) - (1 : Int32)) - (((X 13 0 0 8) + (8 : Int32)) - (1 : Int32)) / (8 : Int32) * (8 : Int32))) 13 0 0 9) - (1 : Int32))) 13 0 0 8)) 0 0)]) (rest := []) C (cX3_copyFrom_ok (by decide) (bsIx_lt3 hi1) hc3) ml_X8_65 wyX3_copyFrom (bsm_X3 (by decide)) (bsc_X3 (by decide)) rfl dpX3_copyFrom ⟨Nat.le_of_ble_eq_true rfl, Nat.le_of_ble_eq_true rfl⟩ ⟨rfl, rfl⟩ ⟨Nat.le_of_ble_eq_true rfl, Nat.le_of_ble_eq_true rfl⟩ rfl (Nat.le_of_ble_eq_true rfl) dX8_undo_70 ?_
        refine v_aload_n C dX8_undo_73 rfl rfl ?_
        refine gf_X8_413 C dX8_undo_74 ?_
        exact v_tiret C hf (Nat.le_of_ble_eq_true rfl) (Nat.le_of_ble_eq_true rfl) dX8_undo_77
  · replace hf := bs_neg h6 hf
    exact v_throwi (k := 1) C T0 hst hf (by decide) (by decide) tw_1 ⟨Nat.le_of_ble_eq_true rfl, Nat.le_of_ble_eq_true rfl⟩ ⟨Nat.le_of_ble_eq_true rfl, Nat.le_of_ble_eq_true rfl⟩ (Nat.le_of_ble_eq_true rfl) (Nat.le_of_ble_eq_true rfl) dX8_undo_7 dX8_undo_10 dX8_undo_11 dX8_undo_14
/-! BootSlots.undoable()I -/
def fX8_undoable (X : bsX) : Option (Int32 × bsX) := some ((X 13 0 0 9), X)
abbrev rmX8_undoable : Room := { frames := 0, cells := 0, slots := 0, locals := 0 }
set_option maxHeartbeats 4000000 in
set_option maxRecDepth 100000 in
theorem cX8_undoable_ok {l : Launch} {ρ : bsR} {cA : Nat → ClassId} {dC : Nat → ClassId} {dI : Nat → Nat → Nat} {Rz : va_W}  {X : bsX} {z : (Int32 × bsX)} (hf : fX8_undoable  X = some z) : bsMi l yX8_undoable cX8_undoable 1 (some .int) rmX8_undoable ρ cA dC dI Rz [.ref (ρ 13 0 0)] X z := by
  refine bsMi_of (by decide) (Nat.le_of_ble_eq_true rfl) (fun p e s m args below meth c C => ?_)
  have C : bsCx p m c cX8_undoable 1 s args (Cond.code yX8_undoable cX8_undoable 1 (some .int) :: bsG) RX8 ρ cA dC dI Rz meth (some .int) := C
  rw [fX8_undoable] at hf
  refine v_sub [0] rfl ?_
  refine v_aload_n C dX8_undoable_0 rfl rfl ?_
  refine gf_X8_413 C dX8_undoable_1 ?_
  exact v_iret C hf dX8_undoable_4
/-! BootSlots.save(I)I -/
def fX8_save (a1 : Int32) (X : bsX) : Option bsXr := (fX8_requireLoaded   X).bind fun r1 => if r1.1 = 0 then (if a1 < 0 then (some (2, (0 : Int32), r1.2.2)) else (if a1 < (2 : Int32) then (if bsIn a1 2 then ((fX3_copyFrom (10 + bsIx a1) 0  r1.2.2).bind fun r5 => some (0, ((bsWr r5 13 5 0 (bsIx a1) (vp_nar .boolean (1 : Int32))) 0 0 0 9), (bsWr r5 13 5 0 (bsIx a1) (vp_nar .boolean (1 : Int32))))) else none) else (some (2, (0 : Int32), r1.2.2)))) else some (r1.1, (0 : Int32), r1.2.2)
abbrev rmX8_save : Room := { frames := 7, cells := 2, slots := 12, locals := 101 }
set_option maxHeartbeats 4000000 in
set_option maxRecDepth 100000 in
theorem cX8_save_ok {l : Launch} {ρ : bsR} {cA : Nat → ClassId} {dC : Nat → ClassId} {dI : Nat → Nat → Nat} {Rz : va_W} (hst : l.stackTraces = false)  {a1 : Int32} {X : bsX} {z : bsXr} (hf : fX8_save a1 X = some z) : bsTi l yX8_save cX8_save 2 (some .int) rmX8_save ρ cA dC dI Rz [.ref (ρ 13 0 0), .int a1] X z := by
  refine bsTi_of (by decide) (Nat.le_of_ble_eq_true rfl) (fun p e s m args below meth c C T0 => ?_)
  have C : bsCx p m c cX8_save 2 s args (Cond.code yX8_save cX8_save 2 (some .int) :: bsG) RX8 ρ cA dC dI Rz meth (some .int) := C
  rw [fX8_save] at hf
  refine v_sub [0, 1] rfl ?_
  refine v_aload_n C dX8_save_0 rfl rfl ?_
  obtain ⟨r1, hc2, hf⟩ := bs_bind hf
  refine v_ticallVv (y := yX8_requireLoaded) (As := []) (rest := []) C T0 (cX8_requireLoaded_ok hst  hc2) ml_X8_82 wyX8_requireLoaded (bsm_X8) (bsc_X8) rfl dpX8_requireLoaded ⟨Nat.le_of_ble_eq_true rfl, Nat.le_of_ble_eq_true rfl⟩ ⟨Nat.le_of_ble_eq_true rfl, Nat.le_of_ble_eq_true rfl⟩ (Nat.le_of_ble_eq_true rfl) (Nat.le_of_ble_eq_true rfl) rfl (Nat.le_of_ble_eq_true rfl) dX8_save_1 (fun h => bs_neg h hf) (fun h3 => ?_)
  replace hf := bs_pos h3 hf
  refine v_iload_n C dX8_save_4 rfl rfl ?_
  refine v_if_lt (tgt := 13) C dX8_save_5 (by decide) (fun h9 => ?_) (fun h9 => ?_)
  · replace hf := bs_pos h9 hf
    exact v_throwi (k := 2) C T0 hst hf (by decide) (by decide) tw_2 ⟨Nat.le_of_ble_eq_true rfl, Nat.le_of_ble_eq_true rfl⟩ ⟨Nat.le_of_ble_eq_true rfl, Nat.le_of_ble_eq_true rfl⟩ (Nat.le_of_ble_eq_true rfl) (Nat.le_of_ble_eq_true rfl) dX8_save_13 dX8_save_16 dX8_save_17 dX8_save_20
  · replace hf := bs_neg h9 hf
    refine v_iload_n C dX8_save_8 rfl rfl ?_
    refine v_iconst (v := 2) C dX8_save_9 (by decide) ?_
    refine v_icmp_lt (tgt := 21) C dX8_save_10 (by decide) (fun h8 => ?_) (fun h8 => ?_)
    · replace hf := bs_pos h8 hf
      refine v_aload_n C dX8_save_21 rfl rfl ?_
      refine gf_X8_30 C dX8_save_22 ?_
      refine v_iload_n C dX8_save_25 rfl rfl ?_
      obtain ⟨hi4, hf⟩ := bs_if hf
      refine v_aald (t0 := 4) (n := 2) C bsm_13_4 bsc_13_4 rfl hi4 rfl dX8_save_26 ?_
      refine v_aload_n C dX8_save_27 rfl rfl ?_
      refine gf_X8_19 C dX8_save_28 ?_
      obtain ⟨r5, hc6, hf⟩ := bs_bind hf
      refine v_callVv (y := yX3_copyFrom) (As := [.ref (ρ 0 0 0)]) (rest := []) C (cX3_copyFrom_ok (bsIx_lt4 hi4) (by decide) hc6) ml_X8_65 wyX3_copyFrom (bsm_X3 (bsIx_lt4 hi4)) (bsc_X3 (bsIx_lt4 hi4)) rfl dpX3_copyFrom ⟨Nat.le_of_ble_eq_true rfl, Nat.le_of_ble_eq_true rfl⟩ ⟨rfl, rfl⟩ ⟨Nat.le_of_ble_eq_true rfl, Nat.le_of_ble_eq_true rfl⟩ rfl (Nat.le_of_ble_eq_true rfl) dX8_save_31 ?_
      refine v_aload_n C dX8_save_34 rfl rfl ?_
      refine gf_X8_33 C dX8_save_35 ?_
      refine v_iload_n C dX8_save_38 rfl rfl ?_
      refine v_iconst (v := 1) C dX8_save_39 (by decide) ?_
      refine v_zast (n := 2) C bsm_13_5 (fun _ => bsc_13_5) hi4 dX8_save_40 ?_
      refine v_aload_n C dX8_save_41 rfl rfl ?_
      refine gf_X8_19 C dX8_save_42 ?_
      refine gf_X8_85 C (by decide) dX8_save_45 ?_
      exact v_tiret C hf (Nat.le_of_ble_eq_true rfl) (Nat.le_of_ble_eq_true rfl) dX8_save_48
    · replace hf := bs_neg h8 hf
      exact v_throwi (k := 2) C T0 hst hf (by decide) (by decide) tw_2 ⟨Nat.le_of_ble_eq_true rfl, Nat.le_of_ble_eq_true rfl⟩ ⟨Nat.le_of_ble_eq_true rfl, Nat.le_of_ble_eq_true rfl⟩ (Nat.le_of_ble_eq_true rfl) (Nat.le_of_ble_eq_true rfl) dX8_save_13 dX8_save_16 dX8_save_17 dX8_save_20
/-! BootSlots.restore(I)I -/
def fX8_restore (a1 : Int32) (X : bsX) : Option bsXr := if a1 < 0 then (some (2, (0 : Int32), X)) else (if a1 < (2 : Int32) then (if bsIn a1 2 then (if (X 13 5 0 (bsIx a1)) = 0 then (some (1, (0 : Int32), X)) else ((fX3_copyFrom 0 (10 + bsIx a1)  X).bind fun r3 => (fX8_forgetChanges   r3).bind fun r5 => some (0, (r5 0 0 0 9), r5))) else none) else (some (2, (0 : Int32), X)))
abbrev rmX8_restore : Room := { frames := 6, cells := 1, slots := 6, locals := 81 }
set_option maxHeartbeats 4000000 in
set_option maxRecDepth 100000 in
theorem cX8_restore_ok {l : Launch} {ρ : bsR} {cA : Nat → ClassId} {dC : Nat → ClassId} {dI : Nat → Nat → Nat} {Rz : va_W} (hst : l.stackTraces = false)  {a1 : Int32} {X : bsX} {z : bsXr} (hf : fX8_restore a1 X = some z) : bsTi l yX8_restore cX8_restore 2 (some .int) rmX8_restore ρ cA dC dI Rz [.ref (ρ 13 0 0), .int a1] X z := by
  refine bsTi_of (by decide) (Nat.le_of_ble_eq_true rfl) (fun p e s m args below meth c C T0 => ?_)
  have C : bsCx p m c cX8_restore 2 s args (Cond.code yX8_restore cX8_restore 2 (some .int) :: bsG) RX8 ρ cA dC dI Rz meth (some .int) := C
  rw [fX8_restore] at hf
  refine v_sub [0, 1] rfl ?_
  refine v_iload_n C dX8_restore_0 rfl rfl ?_
  refine v_if_lt (tgt := 9) C dX8_restore_1 (by decide) (fun h9 => ?_) (fun h9 => ?_)
  · replace hf := bs_pos h9 hf
    exact v_throwi (k := 2) C T0 hst hf (by decide) (by decide) tw_2 ⟨Nat.le_of_ble_eq_true rfl, Nat.le_of_ble_eq_true rfl⟩ ⟨Nat.le_of_ble_eq_true rfl, Nat.le_of_ble_eq_true rfl⟩ (Nat.le_of_ble_eq_true rfl) (Nat.le_of_ble_eq_true rfl) dX8_restore_9 dX8_restore_12 dX8_restore_13 dX8_restore_16
  · replace hf := bs_neg h9 hf
    refine v_iload_n C dX8_restore_4 rfl rfl ?_
    refine v_iconst (v := 2) C dX8_restore_5 (by decide) ?_
    refine v_icmp_lt (tgt := 17) C dX8_restore_6 (by decide) (fun h8 => ?_) (fun h8 => ?_)
    · replace hf := bs_pos h8 hf
      refine v_aload_n C dX8_restore_17 rfl rfl ?_
      refine gf_X8_33 C dX8_restore_18 ?_
      refine v_iload_n C dX8_restore_21 rfl rfl ?_
      obtain ⟨hi1, hf⟩ := bs_if hf
      refine v_zald (n := 2) C bsm_13_5 bsc_13_5 hi1 dX8_restore_22 ?_
      refine v_if_ne (tgt := 34) C dX8_restore_23 (by decide) (fun h7 => ?_) (fun h7 => ?_)
      · replace hf := bs_neg h7 hf
        refine v_aload_n C dX8_restore_34 rfl rfl ?_
        refine gf_X8_19 C dX8_restore_35 ?_
        refine v_aload_n C dX8_restore_38 rfl rfl ?_
        refine gf_X8_30 C dX8_restore_39 ?_
        refine v_iload_n C dX8_restore_42 rfl rfl ?_
        refine v_aald (t0 := 4) (n := 2) C bsm_13_4 bsc_13_4 rfl hi1 rfl dX8_restore_43 ?_
        obtain ⟨r3, hc4, hf⟩ := bs_bind hf
        refine v_callVv (y := yX3_copyFrom) (As := [.ref (ρ (10 + bsIx a1) 0 0)]) (rest := []) C (cX3_copyFrom_ok (by decide) (bsIx_lt4 hi1) hc4) ml_X8_65 wyX3_copyFrom (bsm_X3 (by decide)) (bsc_X3 (by decide)) rfl dpX3_copyFrom ⟨Nat.le_of_ble_eq_true rfl, Nat.le_of_ble_eq_true rfl⟩ ⟨rfl, rfl⟩ ⟨Nat.le_of_ble_eq_true rfl, Nat.le_of_ble_eq_true rfl⟩ rfl (Nat.le_of_ble_eq_true rfl) dX8_restore_44 ?_
        refine v_aload_n C dX8_restore_47 rfl rfl ?_
        obtain ⟨r5, hc6, hf⟩ := bs_bind hf
        refine v_callVv (y := yX8_forgetChanges) (As := []) (rest := []) C (cX8_forgetChanges_ok  hc6) ml_X8_73 wyX8_forgetChanges (bsm_X8) (bsc_X8) rfl dpX8_forgetChanges ⟨Nat.le_of_ble_eq_true rfl, Nat.le_of_ble_eq_true rfl⟩ ⟨rfl, rfl⟩ ⟨Nat.le_of_ble_eq_true rfl, Nat.le_of_ble_eq_true rfl⟩ rfl (Nat.le_of_ble_eq_true rfl) dX8_restore_48 ?_
        refine v_aload_n C dX8_restore_51 rfl rfl ?_
        refine gf_X8_19 C dX8_restore_52 ?_
        refine gf_X8_85 C (by decide) dX8_restore_55 ?_
        exact v_tiret C hf (Nat.le_of_ble_eq_true rfl) (Nat.le_of_ble_eq_true rfl) dX8_restore_58
      · replace hf := bs_pos h7 hf
        exact v_throwi (k := 1) C T0 hst hf (by decide) (by decide) tw_1 ⟨Nat.le_of_ble_eq_true rfl, Nat.le_of_ble_eq_true rfl⟩ ⟨Nat.le_of_ble_eq_true rfl, Nat.le_of_ble_eq_true rfl⟩ (Nat.le_of_ble_eq_true rfl) (Nat.le_of_ble_eq_true rfl) dX8_restore_26 dX8_restore_29 dX8_restore_30 dX8_restore_33
    · replace hf := bs_neg h8 hf
      exact v_throwi (k := 2) C T0 hst hf (by decide) (by decide) tw_2 ⟨Nat.le_of_ble_eq_true rfl, Nat.le_of_ble_eq_true rfl⟩ ⟨Nat.le_of_ble_eq_true rfl, Nat.le_of_ble_eq_true rfl⟩ (Nat.le_of_ble_eq_true rfl) (Nat.le_of_ble_eq_true rfl) dX8_restore_9 dX8_restore_12 dX8_restore_13 dX8_restore_16
