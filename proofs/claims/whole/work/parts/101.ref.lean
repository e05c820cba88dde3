theorem ml_X9_148 : Cond.methodLink RX9 148 yX9_seen ∈ bsG := bsG_in 1533 (by decide +kernel) rfl
theorem ml_X9_157 : Cond.methodLink RX9 157 yX9_isSmall ∈ bsG := bsG_in 1537 (by decide +kernel) rfl
theorem ml_X9_160 : Cond.methodLink RX9 160 yX9_isDigit ∈ bsG := bsG_in 1540 (by decide +kernel) rfl
theorem ml_X9_172 : Cond.methodLink RX9 172 yX9_fails ∈ bsG := bsG_in 1562 (by decide +kernel) rfl
theorem ml_X9_175 : Cond.methodLink RX9 175 yX9_token ∈ bsG := bsG_in 1529 (by decide +kernel) rfl
theorem ml_X9_178 : Cond.methodLink RX9 178 yJ0_length_8abf5 ∈ bsG := bsG_in 1556 (by decide +kernel) rfl
theorem ml_X9_182 : Cond.methodLink RX9 182 yJ0_charAt_5068e ∈ bsG := bsG_in 1557 (by decide +kernel) rfl
theorem ml_X9_186 : Cond.methodLink RX9 186 yX9_looks ∈ bsG := bsG_in 1580 (by decide +kernel) rfl
theorem ml_X9_189 : Cond.methodLink RX9 189 yX9_goesOn ∈ bsG := bsG_in 1566 (by decide +kernel) rfl
theorem ml_X9_192 : Cond.methodLink RX9 192 yX9_failsIf ∈ bsG := bsG_in 1558 (by decide +kernel) rfl
theorem ml_X9_196 : Cond.methodLink RX9 196 yX9_isWord ∈ bsG := bsG_in 1552 (by decide +kernel) rfl
theorem ml_X9_200 : Cond.methodLink RX9 200 yX9_takes ∈ bsG := bsG_in 1576 (by decide +kernel) rfl
theorem ml_X9_205 : Cond.methodLink RX9 205 yX9_told ∈ bsG := bsG_in 1611 (by decide +kernel) rfl
theorem ml_X9_218 : Cond.methodLink RX9 218 yX9_slotLine ∈ bsG := bsG_in 1589 (by decide +kernel) rfl
theorem ml_X9_223 : Cond.methodLink RX9 223 yX9_imageLine ∈ bsG := bsG_in 1594 (by decide +kernel) rfl
theorem ml_X9_228 : Cond.methodLink RX9 228 yX9_markLine ∈ bsG := bsG_in 1620 (by decide +kernel) rfl
theorem ml_X9_233 : Cond.methodLink RX9 233 yX9_least ∈ bsG := bsG_in 1570 (by decide +kernel) rfl
theorem ml_X9_236 : Cond.methodLink RX9 236 yX9_most ∈ bsG := bsG_in 1573 (by decide +kernel) rfl
theorem ml_X9_239 : Cond.methodLink RX9 239 yX9_line ∈ bsG := bsG_in 1584 (by decide +kernel) rfl
theorem ml_X9_242 : Cond.methodLink RX9 242 yX9_copies ∈ bsG := bsG_in 1526 (by decide +kernel) rfl
theorem ml_X9_246 : Cond.methodLink RX9 246 yX9_reads ∈ bsG := bsG_in 1543 (by decide +kernel) rfl
theorem ml_X9_254 : Cond.methodLink RX9 254 yX9_bootable ∈ bsG := bsG_in 1634 (by decide +kernel) rfl
theorem ml_X9_257 : Cond.methodLink RX9 257 yX9_sumOf ∈ bsG := bsG_in 1650 (by decide +kernel) rfl
theorem ml_X9_260 : Cond.methodLink RX9 260 yX9_noSlot ∈ bsG := bsG_in 1658 (by decide +kernel) rfl
theorem ml_X9_269 : Cond.methodLink RX9 269 yX9_placeOf ∈ bsG := bsG_in 1701 (by decide +kernel) rfl
theorem dpX9_bootable : (parseMethodDescriptor yX9_bootable.desc).map (fun d => d.parameters.length) = some 0 := by decide +kernel
theorem wyX9_bootable : bsWy yX9_bootable cX9_bootable 3 (some .int) := ⟨bsG_in 1636 (by decide +kernel) rfl, bsG_in 57 (by decide +kernel) rfl, bsG_in 111 (by decide +kernel) rfl, bsG_in 1637 (by decide +kernel) rfl, by decide +kernel, by decide +kernel⟩
theorem dpX9_copies : (parseMethodDescriptor yX9_copies.desc).map (fun d => d.parameters.length) = some 4 := by decide +kernel
theorem wzX9_copies : bsWz yX9_copies cX9_copies 5 none := ⟨bsG_in 1527 (by decide +kernel) rfl, bsG_in 111 (by decide +kernel) rfl, bsG_in 1528 (by decide +kernel) rfl, by decide +kernel, by decide +kernel⟩
theorem dpX9_fails : (parseMethodDescriptor yX9_fails.desc).map (fun d => d.parameters.length) = some 1 := by decide +kernel
theorem wyX9_fails : bsWy yX9_fails cX9_fails 2 none := ⟨bsG_in 1564 (by decide +kernel) rfl, bsG_in 44 (by decide +kernel) rfl, bsG_in 111 (by decide +kernel) rfl, bsG_in 1565 (by decide +kernel) rfl, by decide +kernel, by decide +kernel⟩
theorem dpX9_failsIf : (parseMethodDescriptor yX9_failsIf.desc).map (fun d => d.parameters.length) = some 2 := by decide +kernel
theorem wyX9_failsIf : bsWy yX9_failsIf cX9_failsIf 3 none := ⟨bsG_in 1560 (by decide +kernel) rfl, bsG_in 43 (by decide +kernel) rfl, bsG_in 111 (by decide +kernel) rfl, bsG_in 1561 (by decide +kernel) rfl, by decide +kernel, by decide +kernel⟩
theorem dpX9_goesOn : (parseMethodDescriptor yX9_goesOn.desc).map (fun d => d.parameters.length) = some 0 := by decide +kernel
theorem wyX9_goesOn : bsWy yX9_goesOn cX9_goesOn 1 none := ⟨bsG_in 1568 (by decide +kernel) rfl, bsG_in 45 (by decide +kernel) rfl, bsG_in 111 (by decide +kernel) rfl, bsG_in 1569 (by decide +kernel) rfl, by decide +kernel, by decide +kernel⟩
theorem dpX9_imageLine : (parseMethodDescriptor yX9_imageLine.desc).map (fun d => d.parameters.length) = some 0 := by decide +kernel
theorem wyX9_imageLine : bsWy yX9_imageLine cX9_imageLine 5 none := ⟨bsG_in 1596 (by decide +kernel) rfl, bsG_in 50 (by decide +kernel) rfl, bsG_in 111 (by decide +kernel) rfl, bsG_in 1597 (by decide +kernel) rfl, by decide +kernel, by decide +kernel⟩
theorem dpX9_isDigit : (parseMethodDescriptor yX9_isDigit.desc).map (fun d => d.parameters.length) = some 1 := by decide +kernel
theorem wzX9_isDigit : bsWz yX9_isDigit cX9_isDigit 1 (some .boolean) := ⟨bsG_in 1541 (by decide +kernel) rfl, bsG_in 111 (by decide +kernel) rfl, bsG_in 1542 (by decide +kernel) rfl, by decide +kernel, by decide +kernel⟩
theorem dpX9_isSmall : (parseMethodDescriptor yX9_isSmall.desc).map (fun d => d.parameters.length) = some 1 := by decide +kernel
theorem wzX9_isSmall : bsWz yX9_isSmall cX9_isSmall 1 (some .boolean) := ⟨bsG_in 1538 (by decide +kernel) rfl, bsG_in 111 (by decide +kernel) rfl, bsG_in 1539 (by decide +kernel) rfl, by decide +kernel, by decide +kernel⟩
theorem dpX9_isWord : (parseMethodDescriptor yX9_isWord.desc).map (fun d => d.parameters.length) = some 1 := by decide +kernel
theorem wyX9_isWord : bsWy yX9_isWord cX9_isWord 3 (some .boolean) := ⟨bsG_in 1554 (by decide +kernel) rfl, bsG_in 42 (by decide +kernel) rfl, bsG_in 111 (by decide +kernel) rfl, bsG_in 1555 (by decide +kernel) rfl, by decide +kernel, by decide +kernel⟩
theorem dpX9_least : (parseMethodDescriptor yX9_least.desc).map (fun d => d.parameters.length) = some 1 := by decide +kernel
theorem wzX9_least : bsWz yX9_least cX9_least 1 (some .int) := ⟨bsG_in 1571 (by decide +kernel) rfl, bsG_in 111 (by decide +kernel) rfl, bsG_in 1572 (by decide +kernel) rfl, by decide +kernel, by decide +kernel⟩
theorem dpX9_line : (parseMethodDescriptor yX9_line.desc).map (fun d => d.parameters.length) = some 0 := by decide +kernel
theorem wyX9_line : bsWy yX9_line cX9_line 1 none := ⟨bsG_in 1586 (by decide +kernel) rfl, bsG_in 48 (by decide +kernel) rfl, bsG_in 111 (by decide +kernel) rfl, bsG_in 1587 (by decide +kernel) rfl, by decide +kernel, by decide +kernel⟩
theorem dpX9_looks : (parseMethodDescriptor yX9_looks.desc).map (fun d => d.parameters.length) = some 2 := by decide +kernel
theorem wyX9_looks : bsWy yX9_looks cX9_looks 3 (some .int) := ⟨bsG_in 1582 (by decide +kernel) rfl, bsG_in 47 (by decide +kernel) rfl, bsG_in 111 (by decide +kernel) rfl, bsG_in 1583 (by decide +kernel) rfl, by decide +kernel, by decide +kernel⟩
theorem dpX9_markLine : (parseMethodDescriptor yX9_markLine.desc).map (fun d => d.parameters.length) = some 0 := by decide +kernel
theorem wyX9_markLine : bsWy yX9_markLine cX9_markLine 4 none := ⟨bsG_in 1622 (by decide +kernel) rfl, bsG_in 55 (by decide +kernel) rfl, bsG_in 111 (by decide +kernel) rfl, bsG_in 1623 (by decide +kernel) rfl, by decide +kernel, by decide +kernel⟩
theorem dpX9_most : (parseMethodDescriptor yX9_most.desc).map (fun d => d.parameters.length) = some 1 := by decide +kernel
theorem wzX9_most : bsWz yX9_most cX9_most 1 (some .int) := ⟨bsG_in 1574 (by decide +kernel) rfl, bsG_in 111 (by decide +kernel) rfl, bsG_in 1575 (by decide +kernel) rfl, by decide +kernel, by decide +kernel⟩
theorem dpX9_noSlot : (parseMethodDescriptor yX9_noSlot.desc).map (fun d => d.parameters.length) = some 1 := by decide +kernel
theorem wyX9_noSlot : bsWy yX9_noSlot cX9_noSlot 2 (some .boolean) := ⟨bsG_in 1660 (by decide +kernel) rfl, bsG_in 62 (by decide +kernel) rfl, bsG_in 111 (by decide +kernel) rfl, bsG_in 1661 (by decide +kernel) rfl, by decide +kernel, by decide +kernel⟩
theorem dpX9_placeOf : (parseMethodDescriptor yX9_placeOf.desc).map (fun d => d.parameters.length) = some 1 := by decide +kernel
theorem wyX9_placeOf : bsWy yX9_placeOf cX9_placeOf 4 (some .int) := ⟨bsG_in 1703 (by decide +kernel) rfl, bsG_in 66 (by decide +kernel) rfl, bsG_in 111 (by decide +kernel) rfl, bsG_in 1704 (by decide +kernel) rfl, by decide +kernel, by decide +kernel⟩
theorem dpX9_reads : (parseMethodDescriptor yX9_reads.desc).map (fun d => d.parameters.length) = some 0 := by decide +kernel
theorem wyX9_reads : bsWy yX9_reads cX9_reads 2 none := ⟨bsG_in 1545 (by decide +kernel) rfl, bsG_in 40 (by decide +kernel) rfl, bsG_in 111 (by decide +kernel) rfl, bsG_in 1546 (by decide +kernel) rfl, by decide +kernel, by decide +kernel⟩
theorem dpX9_seen : (parseMethodDescriptor yX9_seen.desc).map (fun d => d.parameters.length) = some 1 := by decide +kernel
theorem wyX9_seen : bsWy yX9_seen cX9_seen 2 (some .int) := ⟨bsG_in 1535 (by decide +kernel) rfl, bsG_in 39 (by decide +kernel) rfl, bsG_in 111 (by decide +kernel) rfl, bsG_in 1536 (by decide +kernel) rfl, by decide +kernel, by decide +kernel⟩
theorem dpX9_slotLine : (parseMethodDescriptor yX9_slotLine.desc).map (fun d => d.parameters.length) = some 0 := by decide +kernel
theorem wyX9_slotLine : bsWy yX9_slotLine cX9_slotLine 2 none := ⟨bsG_in 1591 (by decide +kernel) rfl, bsG_in 49 (by decide +kernel) rfl, bsG_in 111 (by decide +kernel) rfl, bsG_in 1592 (by decide +kernel) rfl, by decide +kernel, by decide +kernel⟩
theorem dpX9_sumOf : (parseMethodDescriptor yX9_sumOf.desc).map (fun d => d.parameters.length) = some 1 := by decide +kernel
theorem wyX9_sumOf : bsWy yX9_sumOf cX9_sumOf 4 (some .int) := ⟨bsG_in 1652 (by decide +kernel) rfl, bsG_in 61 (by decide +kernel) rfl, bsG_in 111 (by decide +kernel) rfl, bsG_in 1653 (by decide +kernel) rfl, by decide +kernel, by decide +kernel⟩
theorem dpX9_takes : (parseMethodDescriptor yX9_takes.desc).map (fun d => d.parameters.length) = some 2 := by decide +kernel
theorem wyX9_takes : bsWy yX9_takes cX9_takes 4 (some .int) := ⟨bsG_in 1578 (by decide +kernel) rfl, bsG_in 46 (by decide +kernel) rfl, bsG_in 111 (by decide +kernel) rfl, bsG_in 1579 (by decide +kernel) rfl, by decide +kernel, by decide +kernel⟩
theorem dpX9_token : (parseMethodDescriptor yX9_token.desc).map (fun d => d.parameters.length) = some 0 := by decide +kernel
theorem wyX9_token : bsWy yX9_token cX9_token 2 none := ⟨bsG_in 1531 (by decide +kernel) rfl, bsG_in 38 (by decide +kernel) rfl, bsG_in 111 (by decide +kernel) rfl, bsG_in 1532 (by decide +kernel) rfl, by decide +kernel, by decide +kernel⟩
theorem dpX9_told : (parseMethodDescriptor yX9_told.desc).map (fun d => d.parameters.length) = some 1 := by decide +kernel
theorem wyX9_told : bsWy yX9_told cX9_told 3 (some .int) := ⟨bsG_in 1613 (by decide +kernel) rfl, bsG_in 54 (by decide +kernel) rfl, bsG_in 111 (by decide +kernel) rfl, bsG_in 1614 (by decide +kernel) rfl, by decide +kernel, by decide +kernel⟩
/-! BootSlotsModel.buffered()I -/
def fX9_buffered (X : bsX) : Option (Int32 × bsX) := some (((bsWr X 14 0 0 0 (0 : Int32)) 14 0 0 7), (bsWr X 14 0 0 0 (0 : Int32)))
abbrev rmX9_buffered : Room := { frames := 0, cells := 0, slots := 0, locals := 0 }
set_option maxHeartbeats 4000000 in
set_option maxRecDepth 100000 in
theorem cX9_buffered_ok {l : Launch} {ρ : bsR} {cA : Nat → ClassId} {dC : Nat → ClassId} {dI : Nat → Nat → Nat} {Rz : va_W}  {X : bsX} {z : (Int32 × bsX)} (hf : fX9_buffered  X = some z) : bsMi l yX9_buffered cX9_buffered 1 (some .int) rmX9_buffered ρ cA dC dI Rz [.ref (ρ 14 0 0)] X z := by
  refine bsMi_of (by decide) (Nat.le_of_ble_eq_true rfl) (fun p e s m args below meth c C => ?_)
  have C : bsCx p m c cX9_buffered 1 s args (Cond.code yX9_buffered cX9_buffered 1 (some .int) :: bsG) RX9 ρ cA dC dI Rz meth (some .int) := C
  rw [fX9_buffered] at hf
  refine v_sub [0] rfl ?_
  refine v_aload_n C dX9_buffered_0 rfl rfl ?_
  refine v_iconst (v := 0) C dX9_buffered_1 (by decide) ?_
  refine pf_X9_33 C dX9_buffered_2 ?_
  refine v_aload_n C dX9_buffered_5 rfl rfl ?_
  refine gf_X9_136 C dX9_buffered_6 ?_
  exact v_iret C hf dX9_buffered_9
/-! BootSlotsModel.parseError()I -/
def fX9_parseError (X : bsX) : Option (Int32 × bsX) := some (((bsWr X 14 0 0 0 (0 : Int32)) 14 0 0 8), (bsWr X 14 0 0 0 (0 : Int32)))
abbrev rmX9_parseError : Room := { frames := 0, cells := 0, slots := 0, locals := 0 }
set_option maxHeartbeats 4000000 in
set_option maxRecDepth 100000 in
theorem cX9_parseError_ok {l : Launch} {ρ : bsR} {cA : Nat → ClassId} {dC : Nat → ClassId} {dI : Nat → Nat → Nat} {Rz : va_W}  {X : bsX} {z : (Int32 × bsX)} (hf : fX9_parseError  X = some z) : bsMi l yX9_parseError cX9_parseError 1 (some .int) rmX9_parseError ρ cA dC dI Rz [.ref (ρ 14 0 0)] X z := by
  refine bsMi_of (by decide) (Nat.le_of_ble_eq_true rfl) (fun p e s m args below meth c C => ?_)
  have C : bsCx p m c cX9_parseError 1 s args (Cond.code yX9_parseError cX9_parseError 1 (some .int) :: bsG) RX9 ρ cA dC dI Rz meth (some .int) := C
  rw [fX9_parseError] at hf
  refine v_sub [0] rfl ?_
  refine v_aload_n C dX9_parseError_0 rfl rfl ?_
  refine v_iconst (v := 0) C dX9_parseError_1 (by decide) ?_
  refine pf_X9_33 C dX9_parseError_2 ?_
  refine v_aload_n C dX9_parseError_5 rfl rfl ?_
  refine gf_X9_139 C dX9_parseError_6 ?_
  exact v_iret C hf dX9_parseError_9
/-! BootSlotsModel.errorPosition()I -/
def fX9_errorPosition (X : bsX) : Option (Int32 × bsX) := some (((bsWr X 14 0 0 0 (0 : Int32)) 14 0 0 9), (bsWr X 14 0 0 0 (0 : Int32)))
abbrev rmX9_errorPosition : Room := { frames := 0, cells := 0, slots := 0, locals := 0 }
set_option maxHeartbeats 4000000 in
set_option maxRecDepth 100000 in
theorem cX9_errorPosition_ok {l : Launch} {ρ : bsR} {cA : Nat → ClassId} {dC : Nat → ClassId} {dI : Nat → Nat → Nat} {Rz : va_W}  {X : bsX} {z : (Int32 × bsX)} (hf : fX9_errorPosition  X = some z) : bsMi l yX9_errorPosition cX9_errorPosition 1 (some .int) rmX9_errorPosition ρ cA dC dI Rz [.ref (ρ 14 0 0)] X z := by
  refine bsMi_of (by decide) (Nat.le_of_ble_eq_true rfl) (fun p e s m args below meth c C => ?_)
  have C : bsCx p m c cX9_errorPosition 1 s args (Cond.code yX9_errorPosition cX9_errorPosition 1 (some .int) :: bsG) RX9 ρ cA dC dI Rz meth (some .int) := C
  rw [fX9_errorPosition] at hf
  refine v_sub [0] rfl ?_
  refine v_aload_n C dX9_errorPosition_0 rfl rfl ?_
  refine v_iconst (v := 0) C dX9_errorPosition_1 (by decide) ?_
  refine pf_X9_33 C dX9_errorPosition_2 ?_
  refine v_aload_n C dX9_errorPosition_5 rfl rfl ?_
  refine gf_X9_23 C dX9_errorPosition_6 ?_
  exact v_iret C hf dX9_errorPosition_9
/-! BootSlotsModel.seen(I)I -/
def fX9_seen (a1 : Int32) (X : bsX) : Option (Int32 × bsX) := if (X 14 0 0 10) ≤ a1 then (some ((-1 : Int32), X)) else (if bsIn a1 600 then (some ((X 14 4 0 (bsIx a1)), X)) else none)
abbrev rmX9_seen : Room := { frames := 0, cells := 0, slots := 0, locals := 0 }
set_option maxHeartbeats 4000000 in
set_option maxRecDepth 100000 in
theorem cX9_seen_ok {l : Launch} {ρ : bsR} {cA : Nat → ClassId} {dC : Nat → ClassId} {dI : Nat → Nat → Nat} {Rz : va_W}  {a1 : Int32} {X : bsX} {z : (Int32 × bsX)} (hf : fX9_seen a1 X = some z) : bsMi l yX9_seen cX9_seen 2 (some .int) rmX9_seen ρ cA dC dI Rz [.ref (ρ 14 0 0), .int a1] X z := by
  refine bsMi_of (by decide) (Nat.le_of_ble_eq_true rfl) (fun p e s m args below meth c C => ?_)
  have C : bsCx p m c cX9_seen 2 s args (Cond.code yX9_seen cX9_seen 2 (some .int) :: bsG) RX9 ρ cA dC dI Rz meth (some .int) := C
  rw [fX9_seen] at hf
  refine v_sub [0, 1] rfl ?_
  refine v_iload_n C dX9_seen_0 rfl rfl ?_
  refine v_aload_n C dX9_seen_1 rfl rfl ?_
  refine gf_X9_142 C dX9_seen_2 ?_
  refine v_icmp_ge (tgt := 17) C dX9_seen_5 (by decide) (fun h2 => ?_) (fun h2 => ?_)
  · replace hf := bs_pos h2 hf
    refine v_iconst (v := -1) C dX9_seen_17 (by decide) ?_
    exact v_iret C hf dX9_seen_18
  · replace hf := bs_neg h2 hf
    refine v_aload_n C dX9_seen_8 rfl rfl ?_
    refine gf_X9_20 C dX9_seen_9 ?_
    refine v_iload_n C dX9_seen_12 rfl rfl ?_
    obtain ⟨hi1, hf⟩ := bs_if hf
    refine v_iald (n := 600) C bsm_14_4 bsc_14_4 hi1 dX9_seen_13 ?_
    refine v_goto (tgt := 18) C dX9_seen_14 (by decide) ?_
    exact v_iret C hf dX9_seen_18
/-! BootSlotsModel.isSmall(I)Z -/
def fX9_isSmall (a0 : Int32) (X : bsX) : Option (Int32 × bsX) := if a0 < (97 : Int32) then (some ((0 : Int32), X)) else (if (122 : Int32) < a0 then (some ((0 : Int32), X)) else (some ((1 : Int32), X)))
abbrev rmX9_isSmall : Room := { frames := 0, cells := 0, slots := 0, locals := 0 }
set_option maxHeartbeats 4000000 in
set_option maxRecDepth 100000 in
theorem cX9_isSmall_ok {l : Launch} {ρ : bsR} {cA : Nat → ClassId} {dC : Nat → ClassId} {dI : Nat → Nat → Nat} {Rz : va_W}  {a0 : Int32} {X : bsX} {z : (Int32 × bsX)} (hf : fX9_isSmall a0 X = some z) : bsMi l yX9_isSmall cX9_isSmall 1 (some .boolean) rmX9_isSmall ρ cA dC dI Rz [.int a0] X z := by
  refine bsMi_of (by decide) (Nat.le_of_ble_eq_true rfl) (fun p e s m args below meth c C => ?_)
  have C : bsCx p m c cX9_isSmall 1 s args (Cond.code yX9_isSmall cX9_isSmall 1 (some .boolean) :: bsG) RX9 ρ cA dC dI Rz meth (some .boolean) := C
  rw [fX9_isSmall] at hf
  refine v_sub [0] rfl ?_
  refine v_iload_n C dX9_isSmall_0 rfl rfl ?_
  refine v_bipush (v := 97) C dX9_isSmall_1 (by decide) ?_
  refine v_icmp_lt (tgt := 16) C dX9_isSmall_3 (by decide) (fun h2 => ?_) (fun h2 => ?_)
  · replace hf := bs_pos h2 hf
    refine v_iconst (v := 0) C dX9_isSmall_16 (by decide) ?_
    exact v_zret C (bsZ01 (by decide)).1 hf dX9_isSmall_17
  · replace hf := bs_neg h2 hf
    refine v_iload_n C dX9_isSmall_6 rfl rfl ?_
    refine v_bipush (v := 122) C dX9_isSmall_7 (by decide) ?_
    refine v_icmp_gt (tgt := 16) C dX9_isSmall_9 (by decide) (fun h1 => ?_) (fun h1 => ?_)
    · replace hf := bs_pos h1 hf
      refine v_iconst (v := 0) C dX9_isSmall_16 (by decide) ?_
      exact v_zret C (bsZ01 (by decide)).1 hf dX9_isSmall_17
    · replace hf := bs_neg h1 hf
      refine v_iconst (v := 1) C dX9_isSmall_12 (by decide) ?_
      refine v_goto (tgt := 17) C dX9_isSmall_13 (by decide) ?_
      exact v_zret C (bsZ01 (by decide)).1 hf dX9_isSmall_17
/-! BootSlotsModel.isDigit(I)Z -/
def fX9_isDigit (a0 : Int32) (X : bsX) : Option (Int32 × bsX) := if a0 < (48 : Int32) then (some ((0 : Int32), X)) else (if (57 : Int32) < a0 then (some ((0 : Int32), X)) else (some ((1 : Int32), X)))
abbrev rmX9_isDigit : Room := { frames := 0, cells := 0, slots := 0, locals := 0 }
set_option maxHeartbeats 4000000 in
set_option maxRecDepth 100000 in
theorem cX9_isDigit_ok {l : Launch} {ρ : bsR} {cA : Nat → ClassId} {dC : Nat → ClassId} {dI : Nat → Nat → Nat} {Rz : va_W}  {a0 : Int32} {X : bsX} {z : (Int32 × bsX)} (hf : fX9_isDigit a0 X = some z) : bsMi l yX9_isDigit cX9_isDigit 1 (some .boolean) rmX9_isDigit ρ cA dC dI Rz [.int a0] X z := by
  refine bsMi_of (by decide) (Nat.le_of_ble_eq_true rfl) (fun p e s m args below meth c C => ?_)
  have C : bsCx p m c cX9_isDigit 1 s args (Cond.code yX9_isDigit cX9_isDigit 1 (some .boolean) :: bsG) RX9 ρ cA dC dI Rz meth (some .boolean) := C
  rw [fX9_isDigit] at hf
  refine v_sub [0] rfl ?_
  refine v_iload_n C dX9_isDigit_0 rfl rfl ?_
  refine v_bipush (v := 48) C dX9_isDigit_1 (by decide) ?_
  refine v_icmp_lt (tgt := 16) C dX9_isDigit_3 (by decide) (fun h2 => ?_) (fun h2 => ?_)
  · replace hf := bs_pos h2 hf
    refine v_iconst (v := 0) C dX9_isDigit_16 (by decide) ?_
    exact v_zret C (bsZ01 (by decide)).1 hf dX9_isDigit_17
  · replace hf := bs_neg h2 hf
    refine v_iload_n C dX9_isDigit_6 rfl rfl ?_
    refine v_bipush (v := 57) C dX9_isDigit_7 (by decide) ?_
    refine v_icmp_gt (tgt := 16) C dX9_isDigit_9 (by decide) (fun h1 => ?_) (fun h1 => ?_)
    · replace hf := bs_pos h1 hf
      refine v_iconst (v := 0) C dX9_isDigit_16 (by decide) ?_
      exact v_zret C (bsZ01 (by decide)).1 hf dX9_isDigit_17
    · replace hf := bs_neg h1 hf
      refine v_iconst (v := 1) C dX9_isDigit_12 (by decide) ?_
      refine v_goto (tgt := 17) C dX9_isDigit_13 (by decide) ?_
      exact v_zret C (bsZ01 (by decide)).1 hf dX9_isDigit_17
/-! BootSlotsModel.token()V -/
def fX9_token_110 (y1 : Int32) (X : bsX) : Option bsX := some (bsWr X 14 0 0 13 y1)
def fX9_token_63 : Nat → bsX → Option bsX
  | 0, _ => none
  | n + 1, X => (fX9_seen  (X 14 0 0 11) X).bind fun r23 => (fX9_isSmall  r23.1 r23.2).bind fun r25 => if r25.1 = 0 then (if ((r25.2 14 0 0 11) - (r25.2 14 0 0 12)) ≤ (8 : Int32) then (fX9_token_110   (1 : Int32) r25.2) else (fX9_token_110   (4 : Int32) r25.2)) else (fX9_token_63 n  (bsWr r25.2 14 0 0 11 ((r25.2 14 0 0 11) + (1 : Int32))))
def fX9_token_179 (k128 : bsX → Option bsX) (y1 : Int32) (X : bsX) : Option bsX := k128  (bsWr (bsWr X 14 0 0 14 y1) 14 0 0 11 (((bsWr X 14 0 0 14 y1) 14 0 0 11) + (1 : Int32)))
def fX9_token_214 (y1 : Int32) (X : bsX) : Option bsX := some (bsWr X 14 0 0 13 y1)
def fX9_token_128 : Nat → bsX → Option bsX
  | 0, _ => none
  | n + 1, X => (fX9_seen  (X 14 0 0 11) X).bind fun r14 => (fX9_isDigit  r14.1 r14.2).bind fun r16 => if r16.1 = 0 then (if ((r16.2 14 0 0 11) - (r16.2 14 0 0 12)) ≤ (2 : Int32) then (fX9_token_214   (2 : Int32) r16.2) else (fX9_token_214   (4 : Int32) r16.2)) else (if (2 : Int32) ≤ ((r16.2 14 0 0 11) - (r16.2 14 0 0 12)) then (fX9_token_179  (fX9_token_128  n) (0 : Int32) r16.2) else ((fX9_seen  (r16.2 14 0 0 11) r16.2).bind fun r19 => fX9_token_179  (fX9_token_128  n) ((((10 : Int32) * (r16.2 14 0 0 14)) + r19.1) - (48 : Int32)) r19.2))
def fX9_token_232 (y1 : Int32) (X : bsX) : Option bsX := some (bsWr (bsWr X 14 0 0 13 y1) 14 0 0 11 (((bsWr X 14 0 0 13 y1) 14 0 0 11) + (1 : Int32)))
def fX9_token_0 : Nat → bsX → Option bsX
  | 0, _ => none
  | n + 1, X => (fX9_seen  (X 14 0 0 11) X).bind fun r1 => if r1.1 = (32 : Int32) then (fX9_token_0 n  (bsWr r1.2 14 0 0 11 ((r1.2 14 0 0 11) + (1 : Int32)))) else ((fX9_seen  ((bsWr r1.2 14 0 0 12 (r1.2 14 0 0 11)) 14 0 0 11) (bsWr r1.2 14 0 0 12 (r1.2 14 0 0 11))).bind fun r3 => if r3.1 = (-1 : Int32) then (some (bsWr r3.2 14 0 0 13 (0 : Int32))) else ((fX9_isSmall  r3.1 r3.2).bind fun r5 => if r5.1 = 0 then ((fX9_isDigit  r3.1 r5.2).bind fun r7 => if r7.1 = 0 then (if r3.1 = (59 : Int32) then (fX9_token_232   (3 : Int32) r7.2) else (fX9_token_232   (4 : Int32) r7.2)) else (fX9_token_128   bsF  (bsWr r7.2 14 0 0 14 (0 : Int32)))) else (fX9_token_63   bsF  r5.2)))
def fX9_token (X : bsX) : Option bsX := fX9_token_0   bsF  X
abbrev rmX9_token : Room := { frames := 1, cells := 0, slots := 0, locals := 21 }
set_option maxHeartbeats 4000000 in
set_option maxRecDepth 100000 in
theorem wX9_token_110 {p : Program} {l : Launch} {e : Env} {s : State} {m : MethodId} {args : Array Value} {below : List Frame} {meth : Method} {c : Code} {ρ : bsR} {cA : Nat → ClassId} {dC : Nat → ClassId} {dI : Nat → Nat → Nat} {Rz : va_W} {Ts : List Cond}   {z : bsX} (C : bsCx p m c cX9_token 2 s args Ts RX9 ρ cA dC dI Rz meth none) (y1 : Int32) (X : bsX) (hf : fX9_token_110 y1 X = some z) : bsV p l e rmX9_token s m args below meth c 0 0 (MQ below (bsQv ρ cA dC dI Rz z s.heap.size) args s 0 0 (bsA ρ cA Rz s.heap.size)) ρ cA dC dI Rz 2 110 [] [.int y1, .ref (ρ 14 0 0)] X := by
  rw [fX9_token_110] at hf
  refine pf_X9_154 C dX9_token_110 ?_
  refine v_goto (tgt := 245) C dX9_token_113 (by decide) ?_
  exact v_vret C hf dX9_token_245
set_option maxHeartbeats 4000000 in
set_option maxRecDepth 100000 in
theorem wX9_token_63 {p : Program} {l : Launch} {e : Env} {s : State} {m : MethodId} {args : Array Value} {below : List Frame} {meth : Method} {c : Code} {ρ : bsR} {cA : Nat → ClassId} {dC : Nat → ClassId} {dI : Nat → Nat → Nat} {Rz : va_W} {Ts : List Cond}   {z : bsX} (C : bsCx p m c cX9_token 2 s args Ts RX9 ρ cA dC dI Rz meth none) : ∀ (n : Nat) (X : bsX), fX9_token_63  n  X = some z → bsV p l e rmX9_token s m args below meth c 0 0 (MQ below (bsQv ρ cA dC dI Rz z s.heap.size) args s 0 0 (bsA ρ cA Rz s.heap.size)) ρ cA dC dI Rz 2 63 [(0, .ref (ρ 14 0 0))] [] X := by
  intro n
  induction n with
  | zero => intro X hf; exact (nomatch hf)
  | succ n ih =>
    intro X hf
    rw [fX9_token_63] at hf
    refine v_aload_n C dX9_token_63 rfl rfl ?_
    refine v_aload_n C dX9_token_64 rfl rfl ?_
    refine gf_X9_145 C dX9_token_65 ?_
    obtain ⟨r23, hc24, hf⟩ := bs_bind hf
    refine v_callVi (y := yX9_seen) (As := [.int (X 14 0 0 11)]) (rest := []) C (cX9_seen_ok  hc24) ml_X9_148 wyX9_seen (bsm_X9) (bsc_X9) rfl dpX9_seen ⟨Nat.le_of_ble_eq_true rfl, Nat.le_of_ble_eq_true rfl⟩ ⟨rfl, rfl⟩ ⟨Nat.le_of_ble_eq_true rfl, Nat.le_of_ble_eq_true rfl⟩ rfl (Nat.le_of_ble_eq_true rfl) dX9_token_68 ?_
    obtain ⟨r25, hc26, hf⟩ := bs_bind hf
    refine v_callSi (y := yX9_isSmall) (As := [.int r23.1]) (rest := []) C (cX9_isSmall_ok  hc26) ml_X9_157 wzX9_isSmall dpX9_isSmall ⟨Nat.le_of_ble_eq_true rfl, Nat.le_of_ble_eq_true rfl⟩ ⟨rfl, rfl⟩ ⟨Nat.le_of_ble_eq_true rfl, Nat.le_of_ble_eq_true rfl⟩ rfl (Nat.le_of_ble_eq_true rfl) dX9_token_71 ?_
    refine v_if_eq (tgt := 90) C dX9_token_74 (by decide) (fun h28 => ?_) (fun h28 => ?_)
    · replace hf := bs_pos h28 hf
      refine v_aload_n C dX9_token_90 rfl rfl ?_
      refine v_aload_n C dX9_token_91 rfl rfl ?_
      refine gf_X9_145 C dX9_token_92 ?_
      refine v_aload_n C dX9_token_95 rfl rfl ?_
      refine gf_X9_151 C dX9_token_96 ?_
      refine v_isub C dX9_token_99 ?_
      refine v_bipush (v := 8) C dX9_token_100 (by decide) ?_
      refine v_icmp_le (tgt := 109) C dX9_token_102 (by decide) (fun h27 => ?_) (fun h27 => ?_)
      · replace hf := bs_pos h27 hf
        refine v_iconst (v := 1) C dX9_token_109 (by decide) ?_
        refine v_sub [] rfl ?_
        exact wX9_token_110   C  _ _  hf
      · replace hf := bs_neg h27 hf
        refine v_iconst (v := 4) C dX9_token_105 (by decide) ?_
        refine v_goto (tgt := 110) C dX9_token_106 (by decide) ?_
        refine v_sub [] rfl ?_
        exact wX9_token_110   C  _ _  hf
    · replace hf := bs_neg h28 hf
      refine v_aload_n C dX9_token_77 rfl rfl ?_
      refine v_dup C dX9_token_78 rfl ?_
      refine gf_X9_145 C dX9_token_79 ?_
      refine v_iconst (v := 1) C dX9_token_82 (by decide) ?_
      refine v_iadd C dX9_token_83 ?_
      refine pf_X9_145 C dX9_token_84 ?_
      refine v_goto (tgt := 63) C dX9_token_87 (by decide) ?_
      refine v_sub [0] rfl ?_
      exact ih _  hf
set_option maxHeartbeats 4000000 in
set_option maxRecDepth 100000 in
theorem wX9_token_179 {p : Program} {l : Launch} {e : Env} {s : State} {m : MethodId} {args : Array Value} {below : List Frame} {meth : Method} {c : Code} {ρ : bsR} {cA : Nat → ClassId} {dC : Nat → ClassId} {dI : Nat → Nat → Nat} {Rz : va_W} {Ts : List Cond}  (k128 : bsX → Option bsX)  {z : bsX} (C : bsCx p m c cX9_token 2 s args Ts RX9 ρ cA dC dI Rz meth none) (hk128 : ∀ (X : bsX), k128  X = some z → bsV p l e rmX9_token s m args below meth c 0 0 (MQ below (bsQv ρ cA dC dI Rz z s.heap.size) args s 0 0 (bsA ρ cA Rz s.heap.size)) ρ cA dC dI Rz 2 128 [(0, .ref (ρ 14 0 0))] [] X)  (y1 : Int32) (X : bsX) (hf : fX9_token_179 k128 y1 X = some z) : bsV p l e rmX9_token s m args below meth c 0 0 (MQ below (bsQv ρ cA dC dI Rz z s.heap.size) args s 0 0 (bsA ρ cA Rz s.heap.size)) ρ cA dC dI Rz 2 179 [(0, .ref (ρ 14 0 0))] [.int y1, .ref (ρ 14 0 0)] X := by
  rw [fX9_token_179] at hf
  refine pf_X9_163 C dX9_token_179 ?_
  refine v_aload_n C dX9_token_182 rfl rfl ?_
  refine v_dup C dX9_token_183 rfl ?_
  refine gf_X9_145 C dX9_token_184 ?_
  refine v_iconst (v := 1) C dX9_token_187 (by decide) ?_
  refine v_iadd C dX9_token_188 ?_
  refine pf_X9_145 C dX9_token_189 ?_
  refine v_goto (tgt := 128) C dX9_token_192 (by decide) ?_
  refine v_sub [0] rfl ?_
  exact hk128 _  hf
set_option maxHeartbeats 4000000 in
set_option maxRecDepth 100000 in
theorem wX9_token_214 {p : Program} {l : Launch} {e : Env} {s : State} {m : MethodId} {args : Array Value} {below : List Frame} {meth : Method} {c : Code} {ρ : bsR} {cA : Nat → ClassId} {dC : Nat → ClassId} {dI : Nat → Nat → Nat} {Rz : va_W} {Ts : List Cond}   {z : bsX} (C : bsCx p m c cX9_token 2 s args Ts RX9 ρ cA dC dI Rz meth none) (y1 : Int32) (X : bsX) (hf : fX9_token_214 y1 X = some z) : bsV p l e rmX9_token s m args below meth c 0 0 (MQ below (bsQv ρ cA dC dI Rz z s.heap.size) args s 0 0 (bsA ρ cA Rz s.heap.size)) ρ cA dC dI Rz 2 214 [] [.int y1, .ref (ρ 14 0 0)] X := by
  rw [fX9_token_214] at hf
  refine pf_X9_154 C dX9_token_214 ?_
  refine v_goto (tgt := 245) C dX9_token_217 (by decide) ?_
  exact v_vret C hf dX9_token_245
set_option maxHeartbeats 4000000 in
set_option maxRecDepth 100000 in
theorem wX9_token_128 {p : Program} {l : Launch} {e : Env} {s : State} {m : MethodId} {args : Array Value} {below : List Frame} {meth : Method} {c : Code} {ρ : bsR} {cA : Nat → ClassId} {dC : Nat → ClassId} {dI : Nat → Nat → Nat} {Rz : va_W} {Ts : List Cond}   {z : bsX} (C : bsCx p m c cX9_token 2 s args Ts RX9 ρ cA dC dI Rz meth none) : ∀ (n : Nat) (X : bsX), fX9_token_128  n  X = some z → bsV p l e rmX9_token s m args below meth c 0 0 (MQ below (bsQv ρ cA dC dI Rz z s.heap.size) args s 0 0 (bsA ρ cA Rz s.heap.size)) ρ cA dC dI Rz 2 128 [(0, .ref (ρ 14 0 0))] [] X := by
  intro n
  induction n with
  | zero => intro X hf; exact (nomatch hf)
  | succ n ih =>
    intro X hf
    rw [fX9_token_128] at hf
    refine v_aload_n C dX9_token_128 rfl rfl ?_
    refine v_aload_n C dX9_token_129 rfl rfl ?_
    refine gf_X9_145 C dX9_token_130 ?_
    obtain ⟨r14, hc15, hf⟩ := bs_bind hf
    refine v_callVi (y := yX9_seen) (As := [.int (X 14 0 0 11)]) (rest := []) C (cX9_seen_ok  hc15) ml_X9_148 wyX9_seen (bsm_X9) (bsc_X9) rfl dpX9_seen ⟨Nat.le_of_ble_eq_true rfl, Nat.le_of_ble_eq_true rfl⟩ ⟨rfl, rfl⟩ ⟨Nat.le_of_ble_eq_true rfl, Nat.le_of_ble_eq_true rfl⟩ rfl (Nat.le_of_ble_eq_true rfl) dX9_token_133 ?_
    obtain ⟨r16, hc17, hf⟩ := bs_bind hf
    refine v_callSi (y := yX9_isDigit) (As := [.int r14.1]) (rest := []) C (cX9_isDigit_ok  hc17) ml_X9_160 wzX9_isDigit dpX9_isDigit ⟨Nat.le_of_ble_eq_true rfl, Nat.le_of_ble_eq_true rfl⟩ ⟨rfl, rfl⟩ ⟨Nat.le_of_ble_eq_true rfl, Nat.le_of_ble_eq_true rfl⟩ rfl (Nat.le_of_ble_eq_true rfl) dX9_token_136 ?_
    refine v_if_eq (tgt := 195) C dX9_token_139 (by decide) (fun h22 => ?_) (fun h22 => ?_)
    · replace hf := bs_pos h22 hf
      refine v_aload_n C dX9_token_195 rfl rfl ?_
      refine v_aload_n C dX9_token_196 rfl rfl ?_
      refine gf_X9_145 C dX9_token_197 ?_
      refine v_aload_n C dX9_token_200 rfl rfl ?_
      refine gf_X9_151 C dX9_token_201 ?_
      refine v_isub C dX9_token_204 ?_
      refine v_iconst (v := 2) C dX9_token_205 (by decide) ?_
      refine v_icmp_le (tgt := 213) C dX9_token_206 (by decide) (fun h18 => ?_) (fun h18 => ?_)
      · replace hf := bs_pos h18 hf
        refine v_iconst (v := 2) C dX9_token_213 (by decide) ?_
        refine v_sub [] rfl ?_
        exact wX9_token_214   C  _ _  hf
      · replace hf := bs_neg h18 hf
        refine v_iconst (v := 4) C dX9_token_209 (by decide) ?_
        refine v_goto (tgt := 214) C dX9_token_210 (by decide) ?_
        refine v_sub [] rfl ?_
        exact wX9_token_214   C  _ _  hf
    · replace hf := bs_neg h22 hf
      refine v_aload_n C dX9_token_142 rfl rfl ?_
      refine v_aload_n C dX9_token_143 rfl rfl ?_
      refine gf_X9_145 C dX9_token_144 ?_
      refine v_aload_n C dX9_token_147 rfl rfl ?_
      refine gf_X9_151 C dX9_token_148 ?_
      refine v_isub C dX9_token_151 ?_
      refine v_iconst (v := 2) C dX9_token_152 (by decide) ?_
      refine v_icmp_ge (tgt := 178) C dX9_token_153 (by decide) (fun h21 => ?_) (fun h21 => ?_)
      · replace hf := bs_pos h21 hf
        refine v_iconst (v := 0) C dX9_token_178 (by decide) ?_
        refine v_sub [0] rfl ?_
        exact wX9_token_179  (fX9_token_128  n) C (fun  X  h => ih  X  h) _ _  hf
      · replace hf := bs_neg h21 hf
        refine v_bipush (v := 10) C dX9_token_156 (by decide) ?_
        refine v_aload_n C dX9_token_158 rfl rfl ?_
        refine gf_X9_163 C dX9_token_159 ?_
        refine v_imul C dX9_token_162 ?_
        refine v_aload_n C dX9_token_163 rfl rfl ?_
        refine v_aload_n C dX9_token_164 rfl rfl ?_
        refine gf_X9_145 C dX9_token_165 ?_
        obtain ⟨r19, hc20, hf⟩ := bs_bind hf
        refine v_callVi (y := yX9_seen) (As := [.int (r16.2 14 0 0 11)]) (rest := [.int ((10 : Int32) * (r16.2 14 0 0 14)), .ref (ρ 14 0 0)]) C (cX9_seen_ok  hc20) ml_X9_148 wyX9_seen (bsm_X9) (bsc_X9) rfl dpX9_seen ⟨Nat.le_of_ble_eq_true rfl, Nat.le_of_ble_eq_true rfl⟩ ⟨rfl, rfl⟩ ⟨Nat.le_of_ble_eq_true rfl, Nat.le_of_ble_eq_true rfl⟩ rfl (Nat.le_of_ble_eq_true rfl) dX9_token_168 ?_
        refine v_iadd C dX9_token_171 ?_
        refine v_bipush (v := 48) C dX9_token_172 (by decide) ?_
        refine v_isub C dX9_token_174 ?_
        refine v_goto (tgt := 179) C dX9_token_175 (by decide) ?_
        refine v_sub [0] rfl ?_
        exact wX9_token_179  (fX9_token_128  n) C (fun  X  h => ih  X  h) _ _  hf
set_option maxHeartbeats 4000000 in
set_option maxRecDepth 100000 in
theorem wX9_token_232 {p : Program} {l : Launch} {e : Env} {s : State} {m : MethodId} {args : Array Value} {below : List Frame} {meth : Method} {c : Code} {ρ : bsR} {cA : Nat → ClassId} {dC : Nat → ClassId} {dI : Nat → Nat → Nat} {Rz : va_W} {Ts : List Cond}   {z : bsX} (C : bsCx p m c cX9_token 2 s args Ts RX9 ρ cA dC dI Rz meth none) (y1 : Int32) (X : bsX) (hf : fX9_token_232 y1 X = some z) : bsV p l e rmX9_token s m args below meth c 0 0 (MQ below (bsQv ρ cA dC dI Rz z s.heap.size) args s 0 0 (bsA ρ cA Rz s.heap.size)) ρ cA dC dI Rz 2 232 [(0, .ref (ρ 14 0 0))] [.int y1, .ref (ρ 14 0 0)] X := by
  rw [fX9_token_232] at hf
  refine pf_X9_154 C dX9_token_232 ?_
  refine v_aload_n C dX9_token_235 rfl rfl ?_
  refine v_dup C dX9_token_236 rfl ?_
  refine gf_X9_145 C dX9_token_237 ?_
  refine v_iconst (v := 1) C dX9_token_240 (by decide) ?_
  refine v_iadd C dX9_token_241 ?_
  refine pf_X9_145 C dX9_token_242 ?_
  exact v_vret C hf dX9_token_245
set_option maxHeartbeats 4000000 in
set_option maxRecDepth 100000 in
theorem wX9_token_0 {p : Program} {l : Launch} {e : Env} {s : State} {m : MethodId} {args : Array Value} {below : List Frame} {meth : Method} {c : Code} {ρ : bsR} {cA : Nat → ClassId} {dC : Nat → ClassId} {dI : Nat → Nat → Nat} {Rz : va_W} {Ts : List Cond}   {z : bsX} (C : bsCx p m c cX9_token 2 s args Ts RX9 ρ cA dC dI Rz meth none) : ∀ (n : Nat) (X : bsX), fX9_token_0  n  X = some z → bsV p l e rmX9_token s m args below meth c 0 0 (MQ below (bsQv ρ cA dC dI Rz z s.heap.size) args s 0 0 (bsA ρ cA Rz s.heap.size)) ρ cA dC dI Rz 2 0 [(0, .ref (ρ 14 0 0))] [] X := by
  intro n
  induction n with
  | zero => intro X hf; exact (nomatch hf)
  | succ n ih =>
    intro X hf
    rw [fX9_token_0] at hf
    refine v_aload_n C dX9_token_0 rfl rfl ?_
    refine v_aload_n C dX9_token_1 rfl rfl ?_
    refine gf_X9_145 C dX9_token_2 ?_
    obtain ⟨r1, hc2, hf⟩ := bs_bind hf
    refine v_callVi (y := yX9_seen) (As := [.int (X 14 0 0 11)]) (rest := []) C (cX9_seen_ok  hc2) ml_X9_148 wyX9_seen (bsm_X9) (bsc_X9) rfl dpX9_seen ⟨Nat.le_of_ble_eq_true rfl, Nat.le_of_ble_eq_true rfl⟩ ⟨rfl, rfl⟩ ⟨Nat.le_of_ble_eq_true rfl, Nat.le_of_ble_eq_true rfl⟩ rfl (Nat.le_of_ble_eq_true rfl) dX9_token_5 ?_
    refine v_bipush (v := 32) C dX9_token_8 (by decide) ?_
    refine v_icmp_ne (tgt := 26) C dX9_token_10 (by decide) (fun h13 => ?_) (fun h13 => ?_)
    · replace hf := bs_neg h13 hf
      refine v_aload_n C dX9_token_26 rfl rfl ?_
      refine v_aload_n C dX9_token_27 rfl rfl ?_
      refine gf_X9_145 C dX9_token_28 ?_
      refine pf_X9_151 C dX9_token_31 ?_
      refine v_aload_n C dX9_token_34 rfl rfl ?_
      refine v_aload_n C dX9_token_35 rfl rfl ?_
      refine gf_X9_145 C dX9_token_36 ?_
      obtain ⟨r3, hc4, hf⟩ := bs_bind hf
      refine v_callVi (y := yX9_seen) (As := [.int ((bsWr r1.2 14 0 0 12 (r1.2 14 0 0 11)) 14 0 0 11)]) (rest := []) C (cX9_seen_ok  hc4) ml_X9_148 wyX9_seen (bsm_X9) (bsc_X9) rfl dpX9_seen ⟨Nat.le_of_ble_eq_true rfl, Nat.le_of_ble_eq_true rfl⟩ ⟨rfl, rfl⟩ ⟨Nat.le_of_ble_eq_true rfl, Nat.le_of_ble_eq_true rfl⟩ rfl (Nat.le_of_ble_eq_true rfl) dX9_token_39 ?_
      refine v_istore_n (lv' := [(1, .int r3.1), (0, .ref (ρ 14 0 0))]) C dX9_token_42 rfl (by decide) rfl ?_
      refine v_iload_n C dX9_token_43 rfl rfl ?_
      refine v_iconst (v := -1) C dX9_token_44 (by decide) ?_
      refine v_icmp_ne (tgt := 56) C dX9_token_45 (by decide) (fun h12 => ?_) (fun h12 => ?_)
      · replace hf := bs_neg h12 hf
        refine v_iload_n C dX9_token_56 rfl rfl ?_
        obtain ⟨r5, hc6, hf⟩ := bs_bind hf
        refine v_callSi (y := yX9_isSmall) (As := [.int r3.1]) (rest := []) C (cX9_isSmall_ok  hc6) ml_X9_157 wzX9_isSmall dpX9_isSmall ⟨Nat.le_of_ble_eq_true rfl, Nat.le_of_ble_eq_true rfl⟩ ⟨rfl, rfl⟩ ⟨Nat.le_of_ble_eq_true rfl, Nat.le_of_ble_eq_true rfl⟩ rfl (Nat.le_of_ble_eq_true rfl) dX9_token_57 ?_
        refine v_if_eq (tgt := 116) C dX9_token_60 (by decide) (fun h11 => ?_) (fun h11 => ?_)
        · replace hf := bs_pos h11 hf
          refine v_iload_n C dX9_token_116 rfl rfl ?_
          obtain ⟨r7, hc8, hf⟩ := bs_bind hf
          refine v_callSi (y := yX9_isDigit) (As := [.int r3.1]) (rest := []) C (cX9_isDigit_ok  hc8) ml_X9_160 wzX9_isDigit dpX9_isDigit ⟨Nat.le_of_ble_eq_true rfl, Nat.le_of_ble_eq_true rfl⟩ ⟨rfl, rfl⟩ ⟨Nat.le_of_ble_eq_true rfl, Nat.le_of_ble_eq_true rfl⟩ rfl (Nat.le_of_ble_eq_true rfl) dX9_token_117 ?_
          refine v_if_eq (tgt := 220) C dX9_token_120 (by decide) (fun h10 => ?_) (fun h10 => ?_)
          · replace hf := bs_pos h10 hf
            refine v_aload_n C dX9_token_220 rfl rfl ?_
            refine v_iload_n C dX9_token_221 rfl rfl ?_
            refine v_bipush (v := 59) C dX9_token_222 (by decide) ?_
            refine v_icmp_ne (tgt := 231) C dX9_token_224 (by decide) (fun h9 => ?_) (fun h9 => ?_)
            · replace hf := bs_neg h9 hf
              refine v_iconst (v := 4) C dX9_token_231 (by decide) ?_
              refine v_sub [1] rfl ?_
              exact wX9_token_232   C  _ _  hf
            · replace hf := bs_pos h9 hf
              refine v_iconst (v := 3) C dX9_token_227 (by decide) ?_
              refine v_goto (tgt := 232) C dX9_token_228 (by decide) ?_
              refine v_sub [1] rfl ?_
              exact wX9_token_232   C  _ _  hf
          · replace hf := bs_neg h10 hf
            refine v_aload_n C dX9_token_123 rfl rfl ?_
            refine v_iconst (v := 0) C dX9_token_124 (by decide) ?_
            refine pf_X9_163 C dX9_token_125 ?_
            refine v_sub [1] rfl ?_
            exact wX9_token_128   C  bsF _  hf
        · replace hf := bs_neg h11 hf
          refine v_sub [1] rfl ?_
          exact wX9_token_63   C  bsF _  hf
      · replace hf := bs_pos h12 hf
        refine v_aload_n C dX9_token_48 rfl rfl ?_
        refine v_iconst (v := 0) C dX9_token_49 (by decide) ?_
        refine pf_X9_154 C dX9_token_50 ?_
        refine v_goto (tgt := 245) C dX9_token_53 (by decide) ?_
        exact v_vret C hf dX9_token_245
    · replace hf := bs_pos h13 hf
      refine v_aload_n C dX9_token_13 rfl rfl ?_
      refine v_dup C dX9_token_14 rfl ?_
      refine gf_X9_145 C dX9_token_15 ?_
      refine v_iconst (v := 1) C dX9_token_18 (by decide) ?_
      refine v_iadd C dX9_token_19 ?_
      refine pf_X9_145 C dX9_token_20 ?_
      refine v_goto (tgt := 0) C dX9_token_23 (by decide) ?_
      refine v_sub [0] rfl ?_
      exact ih _  hf
set_option maxHeartbeats 4000000 in
set_option maxRecDepth 100000 in
theorem cX9_token_ok {l : Launch} {ρ : bsR} {cA : Nat → ClassId} {dC : Nat → ClassId} {dI : Nat → Nat → Nat} {Rz : va_W}  {X : bsX} {z : bsX} (hf : fX9_token  X = some z) : bsMv l yX9_token cX9_token 2 none rmX9_token ρ cA dC dI Rz [.ref (ρ 14 0 0)] X z := by
  refine bsMv_of (by decide) (Nat.le_of_ble_eq_true rfl) (fun p e s m args below meth c C => ?_)
  have C : bsCx p m c cX9_token 2 s args (Cond.code yX9_token cX9_token 2 none :: bsG) RX9 ρ cA dC dI Rz meth none := C
  rw [fX9_token] at hf
  refine v_sub [0] rfl ?_
  refine v_sub [0] rfl ?_
  exact wX9_token_0   C  bsF _  hf
/-! BootSlotsModel.fails(I)V -/
def fX9_fails (a1 : Int32) (X : bsX) : Option bsX := if (X 14 0 0 15) = 0 then (some (bsWr (bsWr X 14 0 0 15 a1) 14 0 0 16 ((bsWr X 14 0 0 15 a1) 14 0 0 12))) else (some X)
abbrev rmX9_fails : Room := { frames := 0, cells := 0, slots := 0, locals := 0 }
set_option maxHeartbeats 4000000 in
set_option maxRecDepth 100000 in
theorem cX9_fails_ok {l : Launch} {ρ : bsR} {cA : Nat → ClassId} {dC : Nat → ClassId} {dI : Nat → Nat → Nat} {Rz : va_W}  {a1 : Int32} {X : bsX} {z : bsX} (hf : fX9_fails a1 X = some z) : bsMv l yX9_fails cX9_fails 2 none rmX9_fails ρ cA dC dI Rz [.ref (ρ 14 0 0), .int a1] X z := by
  refine bsMv_of (by decide) (Nat.le_of_ble_eq_true rfl) (fun p e s m args below meth c C => ?_)
  have C : bsCx p m c cX9_fails 2 s args (Cond.code yX9_fails cX9_fails 2 none :: bsG) RX9 ρ cA dC dI Rz meth none := C
  rw [fX9_fails] at hf
  refine v_sub [0, 1] rfl ?_
  refine v_aload_n C dX9_fails_0 rfl rfl ?_
  refine gf_X9_166 C dX9_fails_1 ?_
  refine v_if_ne (tgt := 20) C dX9_fails_4 (by decide) (fun h1 => ?_) (fun h1 => ?_)
  · replace hf := bs_neg h1 hf
    exact v_vret C hf dX9_fails_20
  · replace hf := bs_pos h1 hf
    refine v_aload_n C dX9_fails_7 rfl rfl ?_
    refine v_iload_n C dX9_fails_8 rfl rfl ?_
    refine pf_X9_166 C dX9_fails_9 ?_
    refine v_aload_n C dX9_fails_12 rfl rfl ?_
    refine v_aload_n C dX9_fails_13 rfl rfl ?_
    refine gf_X9_151 C dX9_fails_14 ?_
    refine pf_X9_169 C dX9_fails_17 ?_
    exact v_vret C hf dX9_fails_20
/-! BootSlotsModel.failsIf(ZI)V -/
def fX9_failsIf (a1 : Int32) (a2 : Int32) (X : bsX) : Option bsX := if a1 = 0 then (some X) else ((fX9_fails  a2 X).bind fun r1 => some r1)
abbrev rmX9_failsIf : Room := { frames := 1, cells := 0, slots := 0, locals := 21 }
set_option maxHeartbeats 4000000 in
set_option maxRecDepth 100000 in
theorem cX9_failsIf_ok {l : Launch} {ρ : bsR} {cA : Nat → ClassId} {dC : Nat → ClassId} {dI : Nat → Nat → Nat} {Rz : va_W}  {a1 : Int32} {a2 : Int32} {X : bsX} {z : bsX} (hf : fX9_failsIf a1 a2 X = some z) : bsMv l yX9_failsIf cX9_failsIf 3 none rmX9_failsIf ρ cA dC dI Rz [.ref (ρ 14 0 0), .int a1, .int a2] X z := by
  refine bsMv_of (by decide) (Nat.le_of_ble_eq_true rfl) (fun p e s m args below meth c C => ?_)
  have C : bsCx p m c cX9_failsIf 3 s args (Cond.code yX9_failsIf cX9_failsIf 3 none :: bsG) RX9 ρ cA dC dI Rz meth none := C
  rw [fX9_failsIf] at hf
  refine v_sub [0, 1, 2] rfl ?_
  refine v_iload_n C dX9_failsIf_0 rfl rfl ?_
  refine v_if_eq (tgt := 9) C dX9_failsIf_1 (by decide) (fun h3 => ?_) (fun h3 => ?_)
  · replace hf := bs_pos h3 hf
    exact v_vret C hf dX9_failsIf_9
  · replace hf := bs_neg h3 hf
    refine v_aload_n C dX9_failsIf_4 rfl rfl ?_
    refine v_iload_n C dX9_failsIf_5 rfl rfl ?_
    obtain ⟨r1, hc2, hf⟩ := bs_bind hf
    refine v_callVv (y := yX9_fails) (As := [.int a2]) (rest := []) C (cX9_fails_ok  hc2) ml_X9_172 wyX9_fails (bsm_X9) (bsc_X9) rfl dpX9_fails ⟨Nat.le_of_ble_eq_true rfl, Nat.le_of_ble_eq_true rfl⟩ ⟨rfl, rfl⟩ ⟨Nat.le_of_ble_eq_true rfl, Nat.le_of_ble_eq_true rfl⟩ rfl (Nat.le_of_ble_eq_true rfl) dX9_failsIf_6 ?_
    exact v_vret C hf dX9_failsIf_9
/-! BootSlotsModel.goesOn()V -/
def fX9_goesOn (X : bsX) : Option bsX := if (X 14 0 0 15) = 0 then ((fX9_token   X).bind fun r1 => some r1) else (some X)
abbrev rmX9_goesOn : Room := { frames := 2, cells := 0, slots := 0, locals := 42 }
set_option maxHeartbeats 4000000 in
set_option maxRecDepth 100000 in
theorem cX9_goesOn_ok {l : Launch} {ρ : bsR} {cA : Nat → ClassId} {dC : Nat → ClassId} {dI : Nat → Nat → Nat} {Rz : va_W}  {X : bsX} {z : bsX} (hf : fX9_goesOn  X = some z) : bsMv l yX9_goesOn cX9_goesOn 1 none rmX9_goesOn ρ cA dC dI Rz [.ref (ρ 14 0 0)] X z := by
  refine bsMv_of (by decide) (Nat.le_of_ble_eq_true rfl) (fun p e s m args below meth c C => ?_)
  have C : bsCx p m c cX9_goesOn 1 s args (Cond.code yX9_goesOn cX9_goesOn 1 none :: bsG) RX9 ρ cA dC dI Rz meth none := C
  rw [fX9_goesOn] at hf
  refine v_sub [0] rfl ?_
  refine v_aload_n C dX9_goesOn_0 rfl rfl ?_
  refine gf_X9_166 C dX9_goesOn_1 ?_
  refine v_if_ne (tgt := 11) C dX9_goesOn_4 (by decide) (fun h3 => ?_) (fun h3 => ?_)
  · replace hf := bs_neg h3 hf
    exact v_vret C hf dX9_goesOn_11
  · replace hf := bs_pos h3 hf
    refine v_aload_n C dX9_goesOn_7 rfl rfl ?_
    obtain ⟨r1, hc2, hf⟩ := bs_bind hf
    refine v_callVv (y := yX9_token) (As := []) (rest := []) C (cX9_token_ok  hc2) ml_X9_175 wyX9_token (bsm_X9) (bsc_X9) rfl dpX9_token ⟨Nat.le_of_ble_eq_true rfl, Nat.le_of_ble_eq_true rfl⟩ ⟨rfl, rfl⟩ ⟨Nat.le_of_ble_eq_true rfl, Nat.le_of_ble_eq_true rfl⟩ rfl (Nat.le_of_ble_eq_true rfl) dX9_goesOn_8 ?_
    exact v_vret C hf dX9_goesOn_11
/-! BootSlotsModel.isWord(Ljava/lang/String;)Z -/
def fX9_isWord_35 (t1 : Nat) : Nat → Int32 → bsX → Option (Int32 × bsX)
  | 0, _, _ => none
  | n + 1, x2, X => if (bsLen t1) ≤ x2 then (some ((1 : Int32), X)) else ((fX9_seen  ((X 14 0 0 12) + x2) X).bind fun r1 => if bsIn x2 (bsSl.getD t1 0) then (if r1.1 = (bsChr t1 (bsIx x2)) then (fX9_isWord_35 t1 n (x2 + (1 : Int32)) r1.2) else (some ((0 : Int32), r1.2))) else none)
def fX9_isWord (t1 : Nat) (X : bsX) : Option (Int32 × bsX) := if (X 14 0 0 15) = 0 then (if (X 14 0 0 13) = (1 : Int32) then (if ((X 14 0 0 11) - (X 14 0 0 12)) = (bsLen t1) then (fX9_isWord_35 t1  bsF (0 : Int32) X) else (some ((0 : Int32), X))) else (some ((0 : Int32), X))) else (some ((0 : Int32), X))
abbrev rmX9_isWord : Room := { frames := 4, cells := 0, slots := 0, locals := 85 }
set_option maxHeartbeats 4000000 in
set_option maxRecDepth 100000 in
theorem wX9_isWord_35 {p : Program} {l : Launch} {e : Env} {s : State} {m : MethodId} {args : Array Value} {below : List Frame} {meth : Method} {c : Code} {ρ : bsR} {cA : Nat → ClassId} {dC : Nat → ClassId} {dI : Nat → Nat → Nat} {Rz : va_W} {Ts : List Cond} {t1 : Nat} (ht1 : t1 < 14)  {z : (Int32 × bsX)} (C : bsCx p m c cX9_isWord 3 s args Ts RX9 ρ cA dC dI Rz meth (some .boolean)) : ∀ (n : Nat) (x2 : Int32) (X : bsX), fX9_isWord_35 t1 n x2 X = some z → bsV p l e rmX9_isWord s m args below meth c 0 0 (MQ below (bsQi ρ cA dC dI Rz z s.heap.size) args s 0 0 (bsA ρ cA Rz s.heap.size)) ρ cA dC dI Rz 3 35 [(0, .ref (ρ 14 0 0)), (1, .ref (ρ 16 0 t1)), (2, .int x2)] [] X := by
  intro n
  induction n with
  | zero => intro x2 X hf; exact (nomatch hf)
  | succ n ih =>
    intro x2 X hf
    rw [fX9_isWord_35] at hf
    refine v_iload_n C dX9_isWord_35 rfl rfl ?_
    refine v_aload_n C dX9_isWord_36 rfl rfl ?_
    refine v_callTi (y := yJ0_length_8abf5) (As := []) (rest := [.int x2]) C ht1 rfl (cJ0_length_8abf5_ok ht1) ml_X9_178 wyJ0_length_8abf5 dpJ0_length_8abf5 ⟨Nat.le_of_ble_eq_true rfl, Nat.le_of_ble_eq_true rfl⟩ ⟨rfl, rfl⟩ ⟨Nat.zero_le _, Nat.zero_le _⟩ rfl (Nat.le_of_ble_eq_true rfl) dX9_isWord_37 ?_
    refine v_icmp_ge (tgt := 69) C dX9_isWord_40 (by decide) (fun h5 => ?_) (fun h5 => ?_)
    · replace hf := bs_pos h5 hf
      refine v_iconst (v := 1) C dX9_isWord_69 (by decide) ?_
      exact v_zret C (bsZ01 (by decide)).1 hf dX9_isWord_70
    · replace hf := bs_neg h5 hf
      refine v_aload_n C dX9_isWord_43 rfl rfl ?_
      refine v_aload_n C dX9_isWord_44 rfl rfl ?_
      refine gf_X9_151 C dX9_isWord_45 ?_
      refine v_iload_n C dX9_isWord_48 rfl rfl ?_
      refine v_iadd C dX9_isWord_49 ?_
      obtain ⟨r1, hc2, hf⟩ := bs_bind hf
      refine v_callVi (y := yX9_seen) (As := [.int ((X 14 0 0 12) + x2)]) (rest := []) C (cX9_seen_ok  hc2) ml_X9_148 wyX9_seen (bsm_X9) (bsc_X9) rfl dpX9_seen ⟨Nat.le_of_ble_eq_true rfl, Nat.le_of_ble_eq_true rfl⟩ ⟨rfl, rfl⟩ ⟨Nat.le_of_ble_eq_true rfl, Nat.le_of_ble_eq_true rfl⟩ rfl (Nat.le_of_ble_eq_true rfl) dX9_isWord_50 ?_
      refine v_aload_n C dX9_isWord_53 rfl rfl ?_
      refine v_iload_n C dX9_isWord_54 rfl rfl ?_
      obtain ⟨hi3, hf⟩ := bs_if hf
      refine v_callTi (y := yJ0_charAt_5068e) (As := [.int x2]) (rest := [.int r1.1]) C ht1 rfl (cJ0_charAt_5068e_ok ht1 hi3) ml_X9_182 wyJ0_charAt_5068e dpJ0_charAt_5068e ⟨Nat.le_of_ble_eq_true rfl, Nat.le_of_ble_eq_true rfl⟩ ⟨rfl, rfl⟩ ⟨Nat.zero_le _, Nat.zero_le _⟩ rfl (Nat.le_of_ble_eq_true rfl) dX9_isWord_55 ?_
      refine v_icmp_eq (tgt := 63) C dX9_isWord_58 (by decide) (fun h4 => ?_) (fun h4 => ?_)
      · replace hf := bs_pos h4 hf
        refine v_iinc (k0 := 2) (v := (x2 + (1 : Int32))) (lv' := [(2, .int (x2 + (1 : Int32))), (0, .ref (ρ 14 0 0)), (1, .ref (ρ 16 0 t1))]) C dX9_isWord_63 rfl rfl (by decide) rfl ?_
        refine v_goto (tgt := 35) C dX9_isWord_66 (by decide) ?_
        refine v_sub [1, 2, 0] rfl ?_
        exact ih _ _  hf
      · replace hf := bs_neg h4 hf
        refine v_iconst (v := 0) C dX9_isWord_61 (by decide) ?_
        exact v_zret C (bsZ01 (by decide)).1 hf dX9_isWord_62
set_option maxHeartbeats 4000000 in
set_option maxRecDepth 100000 in
theorem cX9_isWord_ok {l : Launch} {ρ : bsR} {cA : Nat → ClassId} {dC : Nat → ClassId} {dI : Nat → Nat → Nat} {Rz : va_W} {t1 : Nat} (ht1 : t1 < 14) {X : bsX} {z : (Int32 × bsX)} (hf : fX9_isWord t1 X = some z) : bsMi l yX9_isWord cX9_isWord 3 (some .boolean) rmX9_isWord ρ cA dC dI Rz [.ref (ρ 14 0 0), .ref (ρ 16 0 t1)] X z := by
  refine bsMi_of (by decide) (Nat.le_of_ble_eq_true rfl) (fun p e s m args below meth c C => ?_)
  have C : bsCx p m c cX9_isWord 3 s args (Cond.code yX9_isWord cX9_isWord 3 (some .boolean) :: bsG) RX9 ρ cA dC dI Rz meth (some .boolean) := C
  rw [fX9_isWord] at hf
  refine v_sub [0, 1] rfl ?_
  refine v_aload_n C dX9_isWord_0 rfl rfl ?_
  refine gf_X9_166 C dX9_isWord_1 ?_
  refine v_if_ne (tgt := 31) C dX9_isWord_4 (by decide) (fun h8 => ?_) (fun h8 => ?_)
  · replace hf := bs_neg h8 hf
    refine v_iconst (v := 0) C dX9_isWord_31 (by decide) ?_
    exact v_zret C (bsZ01 (by decide)).1 hf dX9_isWord_32
  · replace hf := bs_pos h8 hf
    refine v_aload_n C dX9_isWord_7 rfl rfl ?_
    refine gf_X9_154 C dX9_isWord_8 ?_
    refine v_iconst (v := 1) C dX9_isWord_11 (by decide) ?_
    refine v_icmp_ne (tgt := 31) C dX9_isWord_12 (by decide) (fun h7 => ?_) (fun h7 => ?_)
    · replace hf := bs_neg h7 hf
      refine v_iconst (v := 0) C dX9_isWord_31 (by decide) ?_
      exact v_zret C (bsZ01 (by decide)).1 hf dX9_isWord_32
    · replace hf := bs_pos h7 hf
      refine v_aload_n C dX9_isWord_15 rfl rfl ?_
      refine gf_X9_145 C dX9_isWord_16 ?_
      refine v_aload_n C dX9_isWord_19 rfl rfl ?_
      refine gf_X9_151 C dX9_isWord_20 ?_
      refine v_isub C dX9_isWord_23 ?_
      refine v_aload_n C dX9_isWord_24 rfl rfl ?_
      refine v_callTi (y := yJ0_length_8abf5) (As := []) (rest := [.int ((X 14 0 0 11) - (X 14 0 0 12))]) C ht1 rfl (cJ0_length_8abf5_ok ht1) ml_X9_178 wyJ0_length_8abf5 dpJ0_length_8abf5 ⟨Nat.le_of_ble_eq_true rfl, Nat.le_of_ble_eq_true rfl⟩ ⟨rfl, rfl⟩ ⟨Nat.zero_le _, Nat.zero_le _⟩ rfl (Nat.le_of_ble_eq_true rfl) dX9_isWord_25 ?_
      refine v_icmp_eq (tgt := 33) C dX9_isWord_28 (by decide) (fun h6 => ?_) (fun h6 => ?_)
      · replace hf := bs_pos h6 hf
        refine v_iconst (v := 0) C dX9_isWord_33 (by decide) ?_
        refine v_istore_n (lv' := [(2, .int (0 : Int32)), (0, .ref (ρ 14 0 0)), (1, .ref (ρ 16 0 t1))]) C dX9_isWord_34 rfl (by decide) rfl ?_
        refine v_sub [1, 2, 0] rfl ?_
        exact wX9_isWord_35 ht1  C  bsF _ _  hf
      · replace hf := bs_neg h6 hf
        refine v_iconst (v := 0) C dX9_isWord_31 (by decide) ?_
        exact v_zret C (bsZ01 (by decide)).1 hf dX9_isWord_32
/-! BootSlotsModel.looks(II)I -/
def fX9_looks_36 (x1 : Int32) (X : bsX) : Option (Int32 × bsX) := if (X 14 0 0 15) = 0 then (some ((X 14 0 0 14), X)) else (some (x1, X))
def fX9_looks (a1 : Int32) (a2 : Int32) (X : bsX) : Option (Int32 × bsX) := if (X 14 0 0 13) = (2 : Int32) then ((fX9_in  ((X 14 0 0 14).toInt64) a1.toInt64 a2.toInt64 X).bind fun r2 => if r2.1 = 0 then ((fX9_fails  (2 : Int32) r2.2).bind fun r4 => fX9_looks_36   a1 r4) else (fX9_looks_36   a1 r2.2)) else ((fX9_fails  (1 : Int32) X).bind fun r7 => fX9_looks_36   a1 r7)
abbrev rmX9_looks : Room := { frames := 1, cells := 0, slots := 0, locals := 25 }
set_option maxHeartbeats 4000000 in
set_option maxRecDepth 100000 in
theorem wX9_looks_36 {p : Program} {l : Launch} {e : Env} {s : State} {m : MethodId} {args : Array Value} {below : List Frame} {meth : Method} {c : Code} {ρ : bsR} {cA : Nat → ClassId} {dC : Nat → ClassId} {dI : Nat → Nat → Nat} {Rz : va_W} {Ts : List Cond}   {z : (Int32 × bsX)} (C : bsCx p m c cX9_looks 3 s args Ts RX9 ρ cA dC dI Rz meth (some .int)) (x1 : Int32) (X : bsX) (hf : fX9_looks_36 x1 X = some z) : bsV p l e rmX9_looks s m args below meth c 0 0 (MQ below (bsQi ρ cA dC dI Rz z s.heap.size) args s 0 0 (bsA ρ cA Rz s.heap.size)) ρ cA dC dI Rz 3 36 [(0, .ref (ρ 14 0 0)), (1, .int x1)] [] X := by
  rw [fX9_looks_36] at hf
  refine v_aload_n C dX9_looks_36 rfl rfl ?_
  refine gf_X9_166 C dX9_looks_37 ?_
  refine v_if_eq (tgt := 47) C dX9_looks_40 (by decide) (fun h1 => ?_) (fun h1 => ?_)
  · replace hf := bs_pos h1 hf
    refine v_aload_n C dX9_looks_47 rfl rfl ?_
    refine gf_X9_163 C dX9_looks_48 ?_
    exact v_iret C hf dX9_looks_51
  · replace hf := bs_neg h1 hf
    refine v_iload_n C dX9_looks_43 rfl rfl ?_
    refine v_goto (tgt := 51) C dX9_looks_44 (by decide) ?_
    exact v_iret C hf dX9_looks_51
set_option maxHeartbeats 4000000 in
set_option maxRecDepth 100000 in
theorem cX9_looks_ok {l : Launch} {ρ : bsR} {cA : Nat → ClassId} {dC : Nat → ClassId} {dI : Nat → Nat → Nat} {Rz : va_W}  {a1 : Int32} {a2 : Int32} {X : bsX} {z : (Int32 × bsX)} (hf : fX9_looks a1 a2 X = some z) : bsMi l yX9_looks cX9_looks 3 (some .int) rmX9_looks ρ cA dC dI Rz [.ref (ρ 14 0 0), .int a1, .int a2] X z := by
  refine bsMi_of (by decide) (Nat.le_of_ble_eq_true rfl) (fun p e s m args below meth c C => ?_)
  have C : bsCx p m c cX9_looks 3 s args (Cond.code yX9_looks cX9_looks 3 (some .int) :: bsG) RX9 ρ cA dC dI Rz meth (some .int) := C
  rw [fX9_looks] at hf
  refine v_sub [0, 1, 2] rfl ?_
  refine v_aload_n C dX9_looks_0 rfl rfl ?_
  refine gf_X9_154 C dX9_looks_1 ?_
  refine v_iconst (v := 2) C dX9_looks_4 (by decide) ?_
  refine v_icmp_eq (tgt := 16) C dX9_looks_5 (by decide) (fun h9 => ?_) (fun h9 => ?_)
  · replace hf := bs_pos h9 hf
    refine v_aload_n C dX9_looks_16 rfl rfl ?_
    refine gf_X9_163 C dX9_looks_17 ?_
    refine v_i2l C dX9_looks_20 ?_
    refine v_iload_n C dX9_looks_21 rfl rfl ?_
    refine v_i2l C dX9_looks_22 ?_
    refine v_iload_n C dX9_looks_23 rfl rfl ?_
    refine v_i2l C dX9_looks_24 ?_
    obtain ⟨r2, hc3, hf⟩ := bs_bind hf
    refine v_callSi (y := yX9_in) (As := [.long (X 14 0 0 14).toInt64, .long a1.toInt64, .long a2.toInt64]) (rest := []) C (cX9_in_ok  hc3) ml_X9_44 wzX9_in dpX9_in ⟨Nat.le_of_ble_eq_true rfl, Nat.le_of_ble_eq_true rfl⟩ ⟨rfl, rfl⟩ ⟨Nat.le_of_ble_eq_true rfl, Nat.le_of_ble_eq_true rfl⟩ rfl (Nat.le_of_ble_eq_true rfl) dX9_looks_25 ?_
    refine v_if_ne (tgt := 36) C dX9_looks_28 (by decide) (fun h6 => ?_) (fun h6 => ?_)
    · replace hf := bs_neg h6 hf
      refine v_sub [0, 1] rfl ?_
      exact wX9_looks_36   C  _ _  hf
    · replace hf := bs_pos h6 hf
      refine v_aload_n C dX9_looks_31 rfl rfl ?_
      refine v_iconst (v := 2) C dX9_looks_32 (by decide) ?_
      obtain ⟨r4, hc5, hf⟩ := bs_bind hf
      refine v_callVv (y := yX9_fails) (As := [.int (2 : Int32)]) (rest := []) C (cX9_fails_ok  hc5) ml_X9_172 wyX9_fails (bsm_X9) (bsc_X9) rfl dpX9_fails ⟨Nat.le_of_ble_eq_true rfl, Nat.le_of_ble_eq_true rfl⟩ ⟨rfl, rfl⟩ ⟨Nat.le_of_ble_eq_true rfl, Nat.le_of_ble_eq_true rfl⟩ rfl (Nat.le_of_ble_eq_true rfl) dX9_looks_33 ?_
      refine v_sub [0, 1] rfl ?_
      exact wX9_looks_36   C  _ _  hf
  · replace hf := bs_neg h9 hf
    refine v_aload_n C dX9_looks_8 rfl rfl ?_
    refine v_iconst (v := 1) C dX9_looks_9 (by decide) ?_
    obtain ⟨r7, hc8, hf⟩ := bs_bind hf
    refine v_callVv (y := yX9_fails) (As := [.int (1 : Int32)]) (rest := []) C (cX9_fails_ok  hc8) ml_X9_172 wyX9_fails (bsm_X9) (bsc_X9) rfl dpX9_fails ⟨Nat.le_of_ble_eq_true rfl, Nat.le_of_ble_eq_true rfl⟩ ⟨rfl, rfl⟩ ⟨Nat.le_of_ble_eq_true rfl, Nat.le_of_ble_eq_true rfl⟩ rfl (Nat.le_of_ble_eq_true rfl) dX9_looks_10 ?_
    refine v_goto (tgt := 36) C dX9_looks_13 (by decide) ?_
    refine v_sub [0, 1] rfl ?_
    exact wX9_looks_36   C  _ _  hf
/-! BootSlotsModel.takes(II)I -/
def fX9_takes (a1 : Int32) (a2 : Int32) (X : bsX) : Option (Int32 × bsX) := (fX9_looks  a1 a2 X).bind fun r1 => (fX9_goesOn   r1.2).bind fun r3 => some (r1.1, r3)
abbrev rmX9_takes : Room := { frames := 3, cells := 0, slots := 0, locals := 62 }
set_option maxHeartbeats 4000000 in
set_option maxRecDepth 100000 in
theorem cX9_takes_ok {l : Launch} {ρ : bsR} {cA : Nat → ClassId} {dC : Nat → ClassId} {dI : Nat → Nat → Nat} {Rz : va_W}  {a1 : Int32} {a2 : Int32} {X : bsX} {z : (Int32 × bsX)} (hf : fX9_takes a1 a2 X = some z) : bsMi l yX9_takes cX9_takes 4 (some .int) rmX9_takes ρ cA dC dI Rz [.ref (ρ 14 0 0), .int a1, .int a2] X z := by
  refine bsMi_of (by decide) (Nat.le_of_ble_eq_true rfl) (fun p e s m args below meth c C => ?_)
  have C : bsCx p m c cX9_takes 4 s args (Cond.code yX9_takes cX9_takes 4 (some .int) :: bsG) RX9 ρ cA dC dI Rz meth (some .int) := C
  rw [fX9_takes] at hf
  refine v_sub [0, 1, 2] rfl ?_
  refine v_aload_n C dX9_takes_0 rfl rfl ?_
  refine v_iload_n C dX9_takes_1 rfl rfl ?_
  refine v_iload_n C dX9_takes_2 rfl rfl ?_
  obtain ⟨r1, hc2, hf⟩ := bs_bind hf
  refine v_callVi (y := yX9_looks) (As := [.int a1, .int a2]) (rest := []) C (cX9_looks_ok  hc2) ml_X9_186 wyX9_looks (bsm_X9) (bsc_X9) rfl dpX9_looks ⟨Nat.le_of_ble_eq_true rfl, Nat.le_of_ble_eq_true rfl⟩ ⟨rfl, rfl⟩ ⟨Nat.le_of_ble_eq_true rfl, Nat.le_of_ble_eq_true rfl⟩ rfl (Nat.le_of_ble_eq_true rfl) dX9_takes_3 ?_
  refine v_istore_n (lv' := [(3, .int r1.1), (0, .ref (ρ 14 0 0)), (1, .int a1), (2, .int a2)]) C dX9_takes_6 rfl (by decide) rfl ?_
  refine v_aload_n C dX9_takes_7 rfl rfl ?_
  obtain ⟨r3, hc4, hf⟩ := bs_bind hf
  refine v_callVv (y := yX9_goesOn) (As := []) (rest := []) C (cX9_goesOn_ok  hc4) ml_X9_189 wyX9_goesOn (bsm_X9) (bsc_X9) rfl dpX9_goesOn ⟨Nat.le_of_ble_eq_true rfl, Nat.le_of_ble_eq_true rfl⟩ ⟨rfl, rfl⟩ ⟨Nat.le_of_ble_eq_true rfl, Nat.le_of_ble_eq_true rfl⟩ rfl (Nat.le_of_ble_eq_true rfl) dX9_takes_8 ?_
  refine v_iload_n C dX9_takes_11 rfl rfl ?_
  exact v_iret C hf dX9_takes_12
/-! BootSlotsModel.slotLine()V -/
def fX9_slotLine_40 (X : bsX) : Option bsX := (fX9_goesOn   X).bind fun r1 => some r1
def fX9_slotLine_19 (y1 : Int32) (X : bsX) : Option bsX := (fX9_failsIf  y1 (5 : Int32) X).bind fun r3 => if (r3 14 0 0 15) = 0 then (if bsIn (0 : Int32) 160 then (fX9_slotLine_40    (bsWr r3 14 1 0 (bsIx (0 : Int32)) ((r3 14 1 0 (bsIx (0 : Int32))) + (1 : Int32)))) else none) else (fX9_slotLine_40    r3)
def fX9_slotLine (X : bsX) : Option bsX := if bsIn (0 : Int32) 160 then (if (X 14 1 0 (bsIx (0 : Int32))) = (6 : Int32) then (fX9_slotLine_19   (1 : Int32) X) else (fX9_slotLine_19   (0 : Int32) X)) else none
abbrev rmX9_slotLine : Room := { frames := 3, cells := 0, slots := 0, locals := 62 }
set_option maxHeartbeats 4000000 in
set_option maxRecDepth 100000 in
theorem wX9_slotLine_40 {p : Program} {l : Launch} {e : Env} {s : State} {m : MethodId} {args : Array Value} {below : List Frame} {meth : Method} {c : Code} {ρ : bsR} {cA : Nat → ClassId} {dC : Nat → ClassId} {dI : Nat → Nat → Nat} {Rz : va_W} {Ts : List Cond}   {z : bsX} (C : bsCx p m c cX9_slotLine 2 s args Ts RX9 ρ cA dC dI Rz meth none) (X : bsX) (hf : fX9_slotLine_40  X = some z) : bsV p l e rmX9_slotLine s m args below meth c 0 0 (MQ below (bsQv ρ cA dC dI Rz z s.heap.size) args s 0 0 (bsA ρ cA Rz s.heap.size)) ρ cA dC dI Rz 2 40 [(0, .ref (ρ 14 0 0))] [] X := by
  rw [fX9_slotLine_40] at hf
  refine v_aload_n C dX9_slotLine_40 rfl rfl ?_
  obtain ⟨r1, hc2, hf⟩ := bs_bind hf
  refine v_callVv (y := yX9_goesOn) (As := []) (rest := []) C (cX9_goesOn_ok  hc2) ml_X9_189 wyX9_goesOn (bsm_X9) (bsc_X9) rfl dpX9_goesOn ⟨Nat.le_of_ble_eq_true rfl, Nat.le_of_ble_eq_true rfl⟩ ⟨rfl, rfl⟩ ⟨Nat.le_of_ble_eq_true rfl, Nat.le_of_ble_eq_true rfl⟩ rfl (Nat.le_of_ble_eq_true rfl) dX9_slotLine_41 ?_
  exact v_vret C hf dX9_slotLine_44
set_option maxHeartbeats 4000000 in
set_option maxRecDepth 100000 in
theorem wX9_slotLine_19 {p : Program} {l : Launch} {e : Env} {s : State} {m : MethodId} {args : Array Value} {below : List Frame} {meth : Method} {c : Code} {ρ : bsR} {cA : Nat → ClassId} {dC : Nat → ClassId} {dI : Nat → Nat → Nat} {Rz : va_W} {Ts : List Cond}   {z : bsX} (C : bsCx p m c cX9_slotLine 2 s args Ts RX9 ρ cA dC dI Rz meth none) (y1 : Int32) (X : bsX) (hf : fX9_slotLine_19 y1 X = some z) : bsV p l e rmX9_slotLine s m args below meth c 0 0 (MQ below (bsQv ρ cA dC dI Rz z s.heap.size) args s 0 0 (bsA ρ cA Rz s.heap.size)) ρ cA dC dI Rz 2 19 [(0, .ref (ρ 14 0 0))] [.int y1, .ref (ρ 14 0 0)] X := by
  rw [fX9_slotLine_19] at hf
  refine v_iconst (v := 5) C dX9_slotLine_19 (by decide) ?_
  obtain ⟨r3, hc4, hf⟩ := bs_bind hf
  refine v_callVv (y := yX9_failsIf) (As := [.int y1, .int (5 : Int32)]) (rest := []) C (cX9_failsIf_ok  hc4) ml_X9_192 wyX9_failsIf (bsm_X9) (bsc_X9) rfl dpX9_failsIf ⟨Nat.le_of_ble_eq_true rfl, Nat.le_of_ble_eq_true rfl⟩ ⟨rfl, rfl⟩ ⟨Nat.le_of_ble_eq_true rfl, Nat.le_of_ble_eq_true rfl⟩ rfl (Nat.le_of_ble_eq_true rfl) dX9_slotLine_20 ?_
  refine v_aload_n C dX9_slotLine_23 rfl rfl ?_
  refine gf_X9_166 C dX9_slotLine_24 ?_
  refine v_if_ne (tgt := 40) C dX9_slotLine_27 (by decide) (fun h7 => ?_) (fun h7 => ?_)
  · replace hf := bs_neg h7 hf
    refine v_sub [0] rfl ?_
    exact wX9_slotLine_40   C  _  hf
  · replace hf := bs_pos h7 hf
    refine v_aload_n C dX9_slotLine_30 rfl rfl ?_
    refine gf_X9_7 C dX9_slotLine_31 ?_
    refine v_iconst (v := 0) C dX9_slotLine_34 (by decide) ?_
    refine v_dup2 C dX9_slotLine_35 rfl rfl ?_
    obtain ⟨hi5, hf⟩ := bs_if hf
    refine v_iald (n := 160) C bsm_14_1 bsc_14_1 hi5 dX9_slotLine_36 ?_
    refine v_iconst (v := 1) C dX9_slotLine_37 (by decide) ?_
    refine v_iadd C dX9_slotLine_38 ?_
    refine v_iast (n := 160) C bsm_14_1 (fun _ => bsc_14_1) hi5 dX9_slotLine_39 ?_
    refine v_sub [0] rfl ?_
    exact wX9_slotLine_40   C  _  hf
set_option maxHeartbeats 4000000 in
set_option maxRecDepth 100000 in
theorem cX9_slotLine_ok {l : Launch} {ρ : bsR} {cA : Nat → ClassId} {dC : Nat → ClassId} {dI : Nat → Nat → Nat} {Rz : va_W}  {X : bsX} {z : bsX} (hf : fX9_slotLine  X = some z) : bsMv l yX9_slotLine cX9_slotLine 2 none rmX9_slotLine ρ cA dC dI Rz [.ref (ρ 14 0 0)] X z := by
  refine bsMv_of (by decide) (Nat.le_of_ble_eq_true rfl) (fun p e s m args below meth c C => ?_)
  have C : bsCx p m c cX9_slotLine 2 s args (Cond.code yX9_slotLine cX9_slotLine 2 none :: bsG) RX9 ρ cA dC dI Rz meth none := C
  rw [fX9_slotLine] at hf
  refine v_sub [0] rfl ?_
  refine v_aload_n C dX9_slotLine_0 rfl rfl ?_
  refine gf_X9_7 C dX9_slotLine_1 ?_
  refine v_iconst (v := 0) C dX9_slotLine_4 (by decide) ?_
  obtain ⟨hi8, hf⟩ := bs_if hf
  refine v_iald (n := 160) C bsm_14_1 bsc_14_1 hi8 dX9_slotLine_5 ?_
  refine v_istore_n (lv' := [(1, .int (X 14 1 0 (bsIx (0 : Int32)))), (0, .ref (ρ 14 0 0))]) C dX9_slotLine_6 rfl (by decide) rfl ?_
  refine v_aload_n C dX9_slotLine_7 rfl rfl ?_
  refine v_iload_n C dX9_slotLine_8 rfl rfl ?_
  refine v_bipush (v := 6) C dX9_slotLine_9 (by decide) ?_
  refine v_icmp_ne (tgt := 18) C dX9_slotLine_11 (by decide) (fun h9 => ?_) (fun h9 => ?_)
  · replace hf := bs_neg h9 hf
    refine v_iconst (v := 0) C dX9_slotLine_18 (by decide) ?_
    refine v_sub [1] rfl ?_
    exact wX9_slotLine_19   C  _ _  hf
  · replace hf := bs_pos h9 hf
    refine v_iconst (v := 1) C dX9_slotLine_14 (by decide) ?_
    refine v_goto (tgt := 19) C dX9_slotLine_15 (by decide) ?_
    refine v_sub [1] rfl ?_
    exact wX9_slotLine_19   C  _ _  hf
/-! BootSlotsModel.told(Ljava/lang/String;)I -/
def fX9_told_14 (t1 : Nat) (x2 : Int32) (X : bsX) : Option (Int32 × bsX) := (fX9_flag  x2 X).bind fun r1 => some (r1.1, r1.2)
def fX9_told (t1 : Nat) (X : bsX) : Option (Int32 × bsX) := (fX9_isWord t1  X).bind fun r3 => if r3.1 = 0 then (fX9_told_14 t1  r3.1 r3.2) else ((fX9_token   r3.2).bind fun r5 => fX9_told_14 t1  r3.1 r5)
abbrev rmX9_told : Room := { frames := 5, cells := 0, slots := 0, locals := 107 }
set_option maxHeartbeats 4000000 in
set_option maxRecDepth 100000 in
theorem wX9_told_14 {p : Program} {l : Launch} {e : Env} {s : State} {m : MethodId} {args : Array Value} {below : List Frame} {meth : Method} {c : Code} {ρ : bsR} {cA : Nat → ClassId} {dC : Nat → ClassId} {dI : Nat → Nat → Nat} {Rz : va_W} {Ts : List Cond} {t1 : Nat} (ht1 : t1 < 14)  {z : (Int32 × bsX)} (C : bsCx p m c cX9_told 3 s args Ts RX9 ρ cA dC dI Rz meth (some .int)) (x2 : Int32) (X : bsX) (hf : fX9_told_14 t1 x2 X = some z) : bsV p l e rmX9_told s m args below meth c 0 0 (MQ below (bsQi ρ cA dC dI Rz z s.heap.size) args s 0 0 (bsA ρ cA Rz s.heap.size)) ρ cA dC dI Rz 3 14 [(2, .int x2)] [] X := by
  rw [fX9_told_14] at hf
  refine v_iload_n C dX9_told_14 rfl rfl ?_
  obtain ⟨r1, hc2, hf⟩ := bs_bind hf
  refine v_callSi (y := yX9_flag) (As := [.int x2]) (rest := []) C (cX9_flag_ok  hc2) ml_X9_113 wzX9_flag dpX9_flag ⟨Nat.le_of_ble_eq_true rfl, Nat.le_of_ble_eq_true rfl⟩ ⟨rfl, rfl⟩ ⟨Nat.le_of_ble_eq_true rfl, Nat.le_of_ble_eq_true rfl⟩ rfl (Nat.le_of_ble_eq_true rfl) dX9_told_15 ?_
  exact v_iret C hf dX9_told_18
set_option maxHeartbeats 4000000 in
set_option maxRecDepth 100000 in
theorem cX9_told_ok {l : Launch} {ρ : bsR} {cA : Nat → ClassId} {dC : Nat → ClassId} {dI : Nat → Nat → Nat} {Rz : va_W} {t1 : Nat} (ht1 : t1 < 14) {X : bsX} {z : (Int32 × bsX)} (hf : fX9_told t1 X = some z) : bsMi l yX9_told cX9_told 3 (some .int) rmX9_told ρ cA dC dI Rz [.ref (ρ 14 0 0), .ref (ρ 16 0 t1)] X z := by
  refine bsMi_of (by decide) (Nat.le_of_ble_eq_true rfl) (fun p e s m args below meth c C => ?_)
  have C : bsCx p m c cX9_told 3 s args (Cond.code yX9_told cX9_told 3 (some .int) :: bsG) RX9 ρ cA dC dI Rz meth (some .int) := C
  rw [fX9_told] at hf
  refine v_sub [0, 1] rfl ?_
  refine v_aload_n C dX9_told_0 rfl rfl ?_
  refine v_aload_n C dX9_told_1 rfl rfl ?_
  obtain ⟨r3, hc4, hf⟩ := bs_bind hf
  refine v_callVi (y := yX9_isWord) (As := [.ref (ρ 16 0 t1)]) (rest := []) C (cX9_isWord_ok ht1 hc4) ml_X9_196 wyX9_isWord (bsm_X9) (bsc_X9) rfl dpX9_isWord ⟨Nat.le_of_ble_eq_true rfl, Nat.le_of_ble_eq_true rfl⟩ ⟨rfl, rfl⟩ ⟨Nat.le_of_ble_eq_true rfl, Nat.le_of_ble_eq_true rfl⟩ rfl (Nat.le_of_ble_eq_true rfl) dX9_told_2 ?_
  refine v_istore_n (lv' := [(2, .int r3.1), (0, .ref (ρ 14 0 0)), (1, .ref (ρ 16 0 t1))]) C dX9_told_5 rfl (by decide) rfl ?_
  refine v_iload_n C dX9_told_6 rfl rfl ?_
  refine v_if_eq (tgt := 14) C dX9_told_7 (by decide) (fun h7 => ?_) (fun h7 => ?_)
  · replace hf := bs_pos h7 hf
    refine v_sub [0] rfl ?_
    exact wX9_told_14 ht1  C  _ _  hf
  · replace hf := bs_neg h7 hf
    refine v_aload_n C dX9_told_10 rfl rfl ?_
    obtain ⟨r5, hc6, hf⟩ := bs_bind hf
    refine v_callVv (y := yX9_token) (As := []) (rest := []) C (cX9_token_ok  hc6) ml_X9_175 wyX9_token (bsm_X9) (bsc_X9) rfl dpX9_token ⟨Nat.le_of_ble_eq_true rfl, Nat.le_of_ble_eq_true rfl⟩ ⟨rfl, rfl⟩ ⟨Nat.le_of_ble_eq_true rfl, Nat.le_of_ble_eq_true rfl⟩ rfl (Nat.le_of_ble_eq_true rfl) dX9_told_11 ?_
    refine v_sub [0] rfl ?_
    exact wX9_told_14 ht1  C  _ _  hf
/-! BootSlotsModel.imageLine()V -/
def fX9_imageLine_39 (x1 : Int32) (y1 : Int32) (X : bsX) : Option bsX := (fX9_failsIf  y1 (3 : Int32) X).bind fun r1 => (fX9_goesOn   r1).bind fun r3 => (fX9_takes  (0 : Int32) (99 : Int32) r3).bind fun r5 => (fX9_takes  (1 : Int32) (99 : Int32) r5.2).bind fun r7 => (fX9_takes  (0 : Int32) (99 : Int32) r7.2).bind fun r9 => if (r9.2 14 0 0 15) = 0 then ((fX9_puts  x1 (0 : Int32) (1 : Int32) r9.2).bind fun r11 => (fX9_puts  x1 (1 : Int32) (1 : Int32) r11).bind fun r13 => (fX9_puts  x1 (2 : Int32) (1 : Int32) r13).bind fun r15 => (fX9_puts  x1 (8 : Int32) r5.1 r15).bind fun r17 => (fX9_puts  x1 (9 : Int32) r7.1 r17).bind fun r19 => (fX9_puts  x1 (10 : Int32) r9.1 r19).bind fun r21 => (fX9_told 3  r21).bind fun r23 => (fX9_puts  x1 (11 : Int32) r23.1 r23.2).bind fun r25 => (fX9_told 4  r25).bind fun r27 => (fX9_puts  x1 (12 : Int32) r27.1 r27.2).bind fun r29 => some r29) else (some r9.2)
def fX9_imageLine_38 (x1 : Int32) (X : bsX) : Option bsX := fX9_imageLine_39   x1 (0 : Int32) X
def fX9_imageLine (X : bsX) : Option bsX := (fX9_goesOn   X).bind fun r32 => if bsIn (0 : Int32) 160 then ((fX9_looks  (0 : Int32) ((r32 14 1 0 (bsIx (0 : Int32))) - (1 : Int32)) r32).bind fun r35 => if (r35.2 14 0 0 15) = 0 then ((fX9_has  r35.1 r35.2).bind fun r37 => if r37.1 = 0 then (fX9_imageLine_38   r35.1 r37.2) else (fX9_imageLine_39   r35.1 (1 : Int32) r37.2)) else (fX9_imageLine_38   r35.1 r35.2)) else none
abbrev rmX9_imageLine : Room := { frames := 6, cells := 0, slots := 0, locals := 129 }
set_option maxHeartbeats 4000000 in
set_option maxRecDepth 100000 in
theorem wX9_imageLine_39 {p : Program} {l : Launch} {e : Env} {s : State} {m : MethodId} {args : Array Value} {below : List Frame} {meth : Method} {c : Code} {ρ : bsR} {cA : Nat → ClassId} {dC : Nat → ClassId} {dI : Nat → Nat → Nat} {Rz : va_W} {Ts : List Cond}   {z : bsX} (C : bsCx p m c cX9_imageLine 5 s args Ts RX9 ρ cA dC dI Rz meth none) (x1 : Int32) (y1 : Int32) (X : bsX) (hf : fX9_imageLine_39 x1 y1 X = some z) : bsV p l e rmX9_imageLine s m args below meth c 0 0 (MQ below (bsQv ρ cA dC dI Rz z s.heap.size) args s 0 0 (bsA ρ cA Rz s.heap.size)) ρ cA dC dI Rz 5 39 [(0, .ref (ρ 14 0 0)), (1, .int x1)] [.int y1, .ref (ρ 14 0 0)] X := by
  rw [fX9_imageLine_39] at hf
  refine v_iconst (v := 3) C dX9_imageLine_39 (by decide) ?_
  obtain ⟨r1, hc2, hf⟩ := bs_bind hf
  refine v_callVv (y := yX9_failsIf) (As := [.int y1, .int (3 : Int32)]) (rest := []) C (cX9_failsIf_ok  hc2) ml_X9_192 wyX9_failsIf (bsm_X9) (bsc_X9) rfl dpX9_failsIf ⟨Nat.le_of_ble_eq_true rfl, Nat.le_of_ble_eq_true rfl⟩ ⟨rfl, rfl⟩ ⟨Nat.le_of_ble_eq_true rfl, Nat.le_of_ble_eq_true rfl⟩ rfl (Nat.le_of_ble_eq_true rfl) dX9_imageLine_40 ?_
  refine v_aload_n C dX9_imageLine_43 rfl rfl ?_
  obtain ⟨r3, hc4, hf⟩ := bs_bind hf
  refine v_callVv (y := yX9_goesOn) (As := []) (rest := []) C (cX9_goesOn_ok  hc4) ml_X9_189 wyX9_goesOn (bsm_X9) (bsc_X9) rfl dpX9_goesOn ⟨Nat.le_of_ble_eq_true rfl, Nat.le_of_ble_eq_true rfl⟩ ⟨rfl, rfl⟩ ⟨Nat.le_of_ble_eq_true rfl, Nat.le_of_ble_eq_true rfl⟩ rfl (Nat.le_of_ble_eq_true rfl) dX9_imageLine_44 ?_
  refine v_aload_n C dX9_imageLine_47 rfl rfl ?_
  refine v_iconst (v := 0) C dX9_imageLine_48 (by decide) ?_
  refine v_bipush (v := 99) C dX9_imageLine_49 (by decide) ?_
  obtain ⟨r5, hc6, hf⟩ := bs_bind hf
  refine v_callVi (y := yX9_takes) (As := [.int (0 : Int32), .int (99 : Int32)]) (rest := []) C (cX9_takes_ok  hc6) ml_X9_200 wyX9_takes (bsm_X9) (bsc_X9) rfl dpX9_takes ⟨Nat.le_of_ble_eq_true rfl, Nat.le_of_ble_eq_true rfl⟩ ⟨rfl, rfl⟩ ⟨Nat.le_of_ble_eq_true rfl, Nat.le_of_ble_eq_true rfl⟩ rfl (Nat.le_of_ble_eq_true rfl) dX9_imageLine_51 ?_
  refine v_istore_n (lv' := [(2, .int r5.1), (0, .ref (ρ 14 0 0)), (1, .int x1)]) C dX9_imageLine_54 rfl (by decide) rfl ?_
  refine v_aload_n C dX9_imageLine_55 rfl rfl ?_
  refine v_iconst (v := 1) C dX9_imageLine_56 (by decide) ?_
  refine v_bipush (v := 99) C dX9_imageLine_57 (by decide) ?_
  obtain ⟨r7, hc8, hf⟩ := bs_bind hf
  refine v_callVi (y := yX9_takes) (As := [.int (1 : Int32), .int (99 : Int32)]) (rest := []) C (cX9_takes_ok  hc8) ml_X9_200 wyX9_takes (bsm_X9) (bsc_X9) rfl dpX9_takes ⟨Nat.le_of_ble_eq_true rfl, Nat.le_of_ble_eq_true rfl⟩ ⟨rfl, rfl⟩ ⟨Nat.le_of_ble_eq_true rfl, Nat.le_of_ble_eq_true rfl⟩ rfl (Nat.le_of_ble_eq_true rfl) dX9_imageLine_59 ?_
  refine v_istore_n (lv' := [(3, .int r7.1), (2, .int r5.1), (0, .ref (ρ 14 0 0)), (1, .int x1)]) C dX9_imageLine_62 rfl (by decide) rfl ?_
  refine v_aload_n C dX9_imageLine_63 rfl rfl ?_
  refine v_iconst (v := 0) C dX9_imageLine_64 (by decide) ?_
  refine v_bipush (v := 99) C dX9_imageLine_65 (by decide) ?_
  obtain ⟨r9, hc10, hf⟩ := bs_bind hf
  refine v_callVi (y := yX9_takes) (As := [.int (0 : Int32), .int (99 : Int32)]) (rest := []) C (cX9_takes_ok  hc10) ml_X9_200 wyX9_takes (bsm_X9) (bsc_X9) rfl dpX9_takes ⟨Nat.le_of_ble_eq_true rfl, Nat.le_of_ble_eq_true rfl⟩ ⟨rfl, rfl⟩ ⟨Nat.le_of_ble_eq_true rfl, Nat.le_of_ble_eq_true rfl⟩ rfl (Nat.le_of_ble_eq_true rfl) dX9_imageLine_67 ?_
  refine v_istore (lv' := [(4, .int r9.1), (3, .int r7.1), (2, .int r5.1), (0, .ref (ρ 14 0 0)), (1, .int x1)]) C dX9_imageLine_70 (by decide) rfl ?_
  refine v_aload_n C dX9_imageLine_72 rfl rfl ?_
  refine gf_X9_166 C dX9_imageLine_73 ?_
  refine v_if_eq (tgt := 80) C dX9_imageLine_76 (by decide) (fun h31 => ?_) (fun h31 => ?_)
  · replace hf := bs_pos h31 hf
    refine v_aload_n C dX9_imageLine_80 rfl rfl ?_
    refine v_iload_n C dX9_imageLine_81 rfl rfl ?_
    refine v_iconst (v := 0) C dX9_imageLine_82 (by decide) ?_
    refine v_iconst (v := 1) C dX9_imageLine_83 (by decide) ?_
    obtain ⟨r11, hc12, hf⟩ := bs_bind hf
    refine v_callVv (y := yX9_puts) (As := [.int x1, .int (0 : Int32), .int (1 : Int32)]) (rest := []) C (cX9_puts_ok  hc12) ml_X9_77 wyX9_puts (bsm_X9) (bsc_X9) rfl dpX9_puts ⟨Nat.le_of_ble_eq_true rfl, Nat.le_of_ble_eq_true rfl⟩ ⟨rfl, rfl⟩ ⟨Nat.le_of_ble_eq_true rfl, Nat.le_of_ble_eq_true rfl⟩ rfl (Nat.le_of_ble_eq_true rfl) dX9_imageLine_84 ?_
    refine v_aload_n C dX9_imageLine_87 rfl rfl ?_
    refine v_iload_n C dX9_imageLine_88 rfl rfl ?_
    refine v_iconst (v := 1) C dX9_imageLine_89 (by decide) ?_
    refine v_iconst (v := 1) C dX9_imageLine_90 (by decide) ?_
    obtain ⟨r13, hc14, hf⟩ := bs_bind hf
    refine v_callVv (y := yX9_puts) (As := [.int x1, .int (1 : Int32), .int (1 : Int32)]) (rest := []) C (cX9_puts_ok  hc14) ml_X9_77 wyX9_puts (bsm_X9) (bsc_X9) rfl dpX9_puts ⟨Nat.le_of_ble_eq_true rfl, Nat.le_of_ble_eq_true rfl⟩ ⟨rfl, rfl⟩ ⟨Nat.le_of_ble_eq_true rfl, Nat.le_of_ble_eq_true rfl⟩ rfl (Nat.le_of_ble_eq_true rfl) dX9_imageLine_91 ?_
    refine v_aload_n C dX9_imageLine_94 rfl rfl ?_
    refine v_iload_n C dX9_imageLine_95 rfl rfl ?_
    refine v_iconst (v := 2) C dX9_imageLine_96 (by decide) ?_
    refine v_iconst (v := 1) C dX9_imageLine_97 (by decide) ?_
    obtain ⟨r15, hc16, hf⟩ := bs_bind hf
    refine v_callVv (y := yX9_puts) (As := [.int x1, .int (2 : Int32), .int (1 : Int32)]) (rest := []) C (cX9_puts_ok  hc16) ml_X9_77 wyX9_puts (bsm_X9) (bsc_X9) rfl dpX9_puts ⟨Nat.le_of_ble_eq_true rfl, Nat.le_of_ble_eq_true rfl⟩ ⟨rfl, rfl⟩ ⟨Nat.le_of_ble_eq_true rfl, Nat.le_of_ble_eq_true rfl⟩ rfl (Nat.le_of_ble_eq_true rfl) dX9_imageLine_98 ?_
    refine v_aload_n C dX9_imageLine_101 rfl rfl ?_
    refine v_iload_n C dX9_imageLine_102 rfl rfl ?_
    refine v_bipush (v := 8) C dX9_imageLine_103 (by decide) ?_
    refine v_iload_n C dX9_imageLine_105 rfl rfl ?_
    obtain ⟨r17, hc18, hf⟩ := bs_bind hf
    refine v_callVv (y := yX9_puts) (As := [.int x1, .int (8 : Int32), .int r5.1]) (rest := []) C (cX9_puts_ok  hc18) ml_X9_77 wyX9_puts (bsm_X9) (bsc_X9) rfl dpX9_puts ⟨Nat.le_of_ble_eq_true rfl, Nat.le_of_ble_eq_true rfl⟩ ⟨rfl, rfl⟩ ⟨Nat.le_of_ble_eq_true rfl, Nat.le_of_ble_eq_true rfl⟩ rfl (Nat.le_of_ble_eq_true rfl) dX9_imageLine_106 ?_
    refine v_aload_n C dX9_imageLine_109 rfl rfl ?_
    refine v_iload_n C dX9_imageLine_110 rfl rfl ?_
    refine v_bipush (v := 9) C dX9_imageLine_111 (by decide) ?_
    refine v_iload_n C dX9_imageLine_113 rfl rfl ?_
    obtain ⟨r19, hc20, hf⟩ := bs_bind hf
    refine v_callVv (y := yX9_puts) (As := [.int x1, .int (9 : Int32), .int r7.1]) (rest := []) C (cX9_puts_ok  hc20) ml_X9_77 wyX9_puts (bsm_X9) (bsc_X9) rfl dpX9_puts ⟨Nat.le_of_ble_eq_true rfl, Nat.le_of_ble_eq_true rfl⟩ ⟨rfl, rfl⟩ ⟨Nat.le_of_ble_eq_true rfl, Nat.le_of_ble_eq_true rfl⟩ rfl (Nat.le_of_ble_eq_true rfl) dX9_imageLine_114 ?_
    refine v_aload_n C dX9_imageLine_117 rfl rfl ?_
    refine v_iload_n C dX9_imageLine_118 rfl rfl ?_
    refine v_bipush (v := 10) C dX9_imageLine_119 (by decide) ?_
    refine v_iload C dX9_imageLine_121 rfl ?_
    obtain ⟨r21, hc22, hf⟩ := bs_bind hf
    refine v_callVv (y := yX9_puts) (As := [.int x1, .int (10 : Int32), .int r9.1]) (rest := []) C (cX9_puts_ok  hc22) ml_X9_77 wyX9_puts (bsm_X9) (bsc_X9) rfl dpX9_puts ⟨Nat.le_of_ble_eq_true rfl, Nat.le_of_ble_eq_true rfl⟩ ⟨rfl, rfl⟩ ⟨Nat.le_of_ble_eq_true rfl, Nat.le_of_ble_eq_true rfl⟩ rfl (Nat.le_of_ble_eq_true rfl) dX9_imageLine_123 ?_
    refine v_aload_n C dX9_imageLine_126 rfl rfl ?_
    refine v_iload_n C dX9_imageLine_127 rfl rfl ?_
    refine v_bipush (v := 11) C dX9_imageLine_128 (by decide) ?_
    refine v_aload_n C dX9_imageLine_130 rfl rfl ?_
    refine v_ldcS (tx := "unsigned") (t := 3) C (by decide +kernel) dX9_imageLine_131 ?_
    obtain ⟨r23, hc24, hf⟩ := bs_bind hf
    refine v_callVi (y := yX9_told) (As := [.ref (ρ 16 0 3)]) (rest := [.int (11 : Int32), .int x1, .ref (ρ 14 0 0)]) C (cX9_told_ok (by decide) hc24) ml_X9_205 wyX9_told (bsm_X9) (bsc_X9) rfl dpX9_told ⟨Nat.le_of_ble_eq_true rfl, Nat.le_of_ble_eq_true rfl⟩ ⟨rfl, rfl⟩ ⟨Nat.le_of_ble_eq_true rfl, Nat.le_of_ble_eq_true rfl⟩ rfl (Nat.le_of_ble_eq_true rfl) dX9_imageLine_133 ?_
    obtain ⟨r25, hc26, hf⟩ := bs_bind hf
    refine v_callVv (y := yX9_puts) (As := [.int x1, .int (11 : Int32), .int r23.1]) (rest := []) C (cX9_puts_ok  hc26) ml_X9_77 wyX9_puts (bsm_X9) (bsc_X9) rfl dpX9_puts ⟨Nat.le_of_ble_eq_true rfl, Nat.le_of_ble_eq_true rfl⟩ ⟨rfl, rfl⟩ ⟨Nat.le_of_ble_eq_true rfl, Nat.le_of_ble_eq_true rfl⟩ rfl (Nat.le_of_ble_eq_true rfl) dX9_imageLine_136 ?_
    refine v_aload_n C dX9_imageLine_139 rfl rfl ?_
    refine v_iload_n C dX9_imageLine_140 rfl rfl ?_
    refine v_bipush (v := 12) C dX9_imageLine_141 (by decide) ?_
    refine v_aload_n C dX9_imageLine_143 rfl rfl ?_
    refine v_ldcS (tx := "damaged") (t := 4) C (by decide +kernel) dX9_imageLine_144 ?_
    obtain ⟨r27, hc28, hf⟩ := bs_bind hf
    refine v_callVi (y := yX9_told) (As := [.ref (ρ 16 0 4)]) (rest := [.int (12 : Int32), .int x1, .ref (ρ 14 0 0)]) C (cX9_told_ok (by decide) hc28) ml_X9_205 wyX9_told (bsm_X9) (bsc_X9) rfl dpX9_told ⟨Nat.le_of_ble_eq_true rfl, Nat.le_of_ble_eq_true rfl⟩ ⟨rfl, rfl⟩ ⟨Nat.le_of_ble_eq_true rfl, Nat.le_of_ble_eq_true rfl⟩ rfl (Nat.le_of_ble_eq_true rfl) dX9_imageLine_146 ?_
    obtain ⟨r29, hc30, hf⟩ := bs_bind hf
    refine v_callVv (y := yX9_puts) (As := [.int x1, .int (12 : Int32), .int r27.1]) (rest := []) C (cX9_puts_ok  hc30) ml_X9_77 wyX9_puts (bsm_X9) (bsc_X9) rfl dpX9_puts ⟨Nat.le_of_ble_eq_true rfl, Nat.le_of_ble_eq_true rfl⟩ ⟨rfl, rfl⟩ ⟨Nat.le_of_ble_eq_true rfl, Nat.le_of_ble_eq_true rfl⟩ rfl (Nat.le_of_ble_eq_true rfl) dX9_imageLine_149 ?_
    exact v_vret C hf dX9_imageLine_152
  · replace hf := bs_neg h31 hf
    exact v_vret C hf dX9_imageLine_79
set_option maxHeartbeats 4000000 in
set_option maxRecDepth 100000 in
theorem wX9_imageLine_38 {p : Program} {l : Launch} {e : Env} {s : State} {m : MethodId} {args : Array Value} {below : List Frame} {meth : Method} {c : Code} {ρ : bsR} {cA : Nat → ClassId} {dC : Nat → ClassId} {dI : Nat → Nat → Nat} {Rz : va_W} {Ts : List Cond}   {z : bsX} (C : bsCx p m c cX9_imageLine 5 s args Ts RX9 ρ cA dC dI Rz meth none) (x1 : Int32) (X : bsX) (hf : fX9_imageLine_38 x1 X = some z) : bsV p l e rmX9_imageLine s m args below meth c 0 0 (MQ below (bsQv ρ cA dC dI Rz z s.heap.size) args s 0 0 (bsA ρ cA Rz s.heap.size)) ρ cA dC dI Rz 5 38 [(0, .ref (ρ 14 0 0)), (1, .int x1)] [.ref (ρ 14 0 0)] X := by
  rw [fX9_imageLine_38] at hf
  refine v_iconst (v := 0) C dX9_imageLine_38 (by decide) ?_
  refine v_sub [0, 1] rfl ?_
  exact wX9_imageLine_39   C  _ _ _  hf
set_option maxHeartbeats 4000000 in
set_option maxRecDepth 100000 in
theorem cX9_imageLine_ok {l : Launch} {ρ : bsR} {cA : Nat → ClassId} {dC : Nat → ClassId} {dI : Nat → Nat → Nat} {Rz : va_W}  {X : bsX} {z : bsX} (hf : fX9_imageLine  X = some z) : bsMv l yX9_imageLine cX9_imageLine 5 none rmX9_imageLine ρ cA dC dI Rz [.ref (ρ 14 0 0)] X z := by
  refine bsMv_of (by decide) (Nat.le_of_ble_eq_true rfl) (fun p e s m args below meth c C => ?_)
  have C : bsCx p m c cX9_imageLine 5 s args (Cond.code yX9_imageLine cX9_imageLine 5 none :: bsG) RX9 ρ cA dC dI Rz meth none := C
  rw [fX9_imageLine] at hf
  refine v_sub [0] rfl ?_
  refine v_aload_n C dX9_imageLine_0 rfl rfl ?_
  obtain ⟨r32, hc33, hf⟩ := bs_bind hf
  refine v_callVv (y := yX9_goesOn) (As := []) (rest := []) C (cX9_goesOn_ok  hc33) ml_X9_189 wyX9_goesOn (bsm_X9) (bsc_X9) rfl dpX9_goesOn ⟨Nat.le_of_ble_eq_true rfl, Nat.le_of_ble_eq_true rfl⟩ ⟨rfl, rfl⟩ ⟨Nat.le_of_ble_eq_true rfl, Nat.le_of_ble_eq_true rfl⟩ rfl (Nat.le_of_ble_eq_true rfl) dX9_imageLine_1 ?_
  refine v_aload_n C dX9_imageLine_4 rfl rfl ?_
  refine v_iconst (v := 0) C dX9_imageLine_5 (by decide) ?_
  refine v_aload_n C dX9_imageLine_6 rfl rfl ?_
  refine gf_X9_7 C dX9_imageLine_7 ?_
  refine v_iconst (v := 0) C dX9_imageLine_10 (by decide) ?_
  obtain ⟨hi34, hf⟩ := bs_if hf
  refine v_iald (n := 160) C bsm_14_1 bsc_14_1 hi34 dX9_imageLine_11 ?_
  refine v_iconst (v := 1) C dX9_imageLine_12 (by decide) ?_
  refine v_isub C dX9_imageLine_13 ?_
  obtain ⟨r35, hc36, hf⟩ := bs_bind hf
  refine v_callVi (y := yX9_looks) (As := [.int (0 : Int32), .int ((r32 14 1 0 (bsIx (0 : Int32))) - (1 : Int32))]) (rest := []) C (cX9_looks_ok  hc36) ml_X9_186 wyX9_looks (bsm_X9) (bsc_X9) rfl dpX9_looks ⟨Nat.le_of_ble_eq_true rfl, Nat.le_of_ble_eq_true rfl⟩ ⟨rfl, rfl⟩ ⟨Nat.le_of_ble_eq_true rfl, Nat.le_of_ble_eq_true rfl⟩ rfl (Nat.le_of_ble_eq_true rfl) dX9_imageLine_14 ?_
  refine v_istore_n (lv' := [(1, .int r35.1), (0, .ref (ρ 14 0 0))]) C dX9_imageLine_17 rfl (by decide) rfl ?_
  refine v_aload_n C dX9_imageLine_18 rfl rfl ?_
  refine v_aload_n C dX9_imageLine_19 rfl rfl ?_
  refine gf_X9_166 C dX9_imageLine_20 ?_
  refine v_if_ne (tgt := 38) C dX9_imageLine_23 (by decide) (fun h40 => ?_) (fun h40 => ?_)
  · replace hf := bs_neg h40 hf
    refine v_sub [1, 0] rfl ?_
    exact wX9_imageLine_38   C  _ _  hf
  · replace hf := bs_pos h40 hf
    refine v_aload_n C dX9_imageLine_26 rfl rfl ?_
    refine v_iload_n C dX9_imageLine_27 rfl rfl ?_
    obtain ⟨r37, hc38, hf⟩ := bs_bind hf
    refine v_callVi (y := yX9_has) (As := [.int r35.1]) (rest := [.ref (ρ 14 0 0)]) C (cX9_has_ok  hc38) ml_X9_60 wyX9_has (bsm_X9) (bsc_X9) rfl dpX9_has ⟨Nat.le_of_ble_eq_true rfl, Nat.le_of_ble_eq_true rfl⟩ ⟨rfl, rfl⟩ ⟨Nat.le_of_ble_eq_true rfl, Nat.le_of_ble_eq_true rfl⟩ rfl (Nat.le_of_ble_eq_true rfl) dX9_imageLine_28 ?_
    refine v_if_eq (tgt := 38) C dX9_imageLine_31 (by decide) (fun h39 => ?_) (fun h39 => ?_)
    · replace hf := bs_pos h39 hf
      refine v_sub [1, 0] rfl ?_
      exact wX9_imageLine_38   C  _ _  hf
    · replace hf := bs_neg h39 hf
      refine v_iconst (v := 1) C dX9_imageLine_34 (by decide) ?_
      refine v_goto (tgt := 39) C dX9_imageLine_35 (by decide) ?_
      refine v_sub [1, 0] rfl ?_
      exact wX9_imageLine_39   C  _ _ _  hf
/-! BootSlotsModel.markLine()V -/
def fX9_markLine_68 (x1 : Int32) (y1 : Int32) (X : bsX) : Option bsX := (fX9_failsIf  y1 (4 : Int32) X).bind fun r7 => (fX9_goesOn   r7).bind fun r9 => (fX9_takes  (0 : Int32) (15 : Int32) r9).bind fun r11 => (fX9_takes  (0 : Int32) (7 : Int32) r11.2).bind fun r13 => if (r13.2 14 0 0 15) = 0 then ((fX9_puts  x1 (1 : Int32) r11.1 (bsWr r13.2 14 0 0 18 ((r13.2 14 0 0 18) ||| ((1 : Int32) <<< (x1 &&& 31))))).bind fun r15 => (fX9_puts  x1 (2 : Int32) r13.1 r15).bind fun r17 => (fX9_told 6  r17).bind fun r19 => (fX9_puts  x1 (3 : Int32) r19.1 r19.2).bind fun r21 => some r21) else (some r13.2)
def fX9_markLine_67 (x1 : Int32) (X : bsX) : Option bsX := fX9_markLine_68   x1 (0 : Int32) X
def fX9_markLine_43 (x1 : Int32) (y1 : Int32) (X : bsX) : Option bsX := (fX9_failsIf  y1 (3 : Int32) X).bind fun r1 => if (r1 14 0 0 15) = 0 then ((fX9_has  x1 r1).bind fun r3 => if r3.1 = 0 then (fX9_markLine_68   x1 (1 : Int32) r3.2) else (fX9_markLine_67   x1 r3.2)) else (fX9_markLine_67   x1 r1)
def fX9_markLine_42 (x1 : Int32) (X : bsX) : Option bsX := fX9_markLine_43   x1 (0 : Int32) X
def fX9_markLine (X : bsX) : Option bsX := (fX9_goesOn   X).bind fun r24 => if bsIn (0 : Int32) 160 then ((fX9_looks  (0 : Int32) ((r24 14 1 0 (bsIx (0 : Int32))) - (1 : Int32)) r24).bind fun r27 => if (r27.2 14 0 0 15) = 0 then (if (((r27.2 14 0 0 18) >>> (r27.1 &&& 31)) &&& (1 : Int32)) = (1 : Int32) then (fX9_markLine_43   r27.1 (1 : Int32) r27.2) else (fX9_markLine_42   r27.1 r27.2)) else (fX9_markLine_42   r27.1 r27.2)) else none
abbrev rmX9_markLine : Room := { frames := 6, cells := 0, slots := 0, locals := 129 }
set_option maxHeartbeats 4000000 in
set_option maxRecDepth 100000 in
theorem wX9_markLine_68 {p : Program} {l : Launch} {e : Env} {s : State} {m : MethodId} {args : Array Value} {below : List Frame} {meth : Method} {c : Code} {ρ : bsR} {cA : Nat → ClassId} {dC : Nat → ClassId} {dI : Nat → Nat → Nat} {Rz : va_W} {Ts : List Cond}   {z : bsX} (C : bsCx p m c cX9_markLine 4 s args Ts RX9 ρ cA dC dI Rz meth none) (x1 : Int32) (y1 : Int32) (X : bsX) (hf : fX9_markLine_68 x1 y1 X = some z) : bsV p l e rmX9_markLine s m args below meth c 0 0 (MQ below (bsQv ρ cA dC dI Rz z s.heap.size) args s 0 0 (bsA ρ cA Rz s.heap.size)) ρ cA dC dI Rz 4 68 [(0, .ref (ρ 14 0 0)), (1, .int x1)] [.int y1, .ref (ρ 14 0 0)] X := by
  rw [fX9_markLine_68] at hf
  refine v_iconst (v := 4) C dX9_markLine_68 (by decide) ?_
  obtain ⟨r7, hc8, hf⟩ := bs_bind hf
  refine v_callVv (y := yX9_failsIf) (As := [.int y1, .int (4 : Int32)]) (rest := []) C (cX9_failsIf_ok  hc8) ml_X9_192 wyX9_failsIf (bsm_X9) (bsc_X9) rfl dpX9_failsIf ⟨Nat.le_of_ble_eq_true rfl, Nat.le_of_ble_eq_true rfl⟩ ⟨rfl, rfl⟩ ⟨Nat.le_of_ble_eq_true rfl, Nat.le_of_ble_eq_true rfl⟩ rfl (Nat.le_of_ble_eq_true rfl) dX9_markLine_69 ?_
  refine v_aload_n C dX9_markLine_72 rfl rfl ?_
  obtain ⟨r9, hc10, hf⟩ := bs_bind hf
  refine v_callVv (y := yX9_goesOn) (As := []) (rest := []) C (cX9_goesOn_ok  hc10) ml_X9_189 wyX9_goesOn (bsm_X9) (bsc_X9) rfl dpX9_goesOn ⟨Nat.le_of_ble_eq_true rfl, Nat.le_of_ble_eq_true rfl⟩ ⟨rfl, rfl⟩ ⟨Nat.le_of_ble_eq_true rfl, Nat.le_of_ble_eq_true rfl⟩ rfl (Nat.le_of_ble_eq_true rfl) dX9_markLine_73 ?_
  refine v_aload_n C dX9_markLine_76 rfl rfl ?_
  refine v_iconst (v := 0) C dX9_markLine_77 (by decide) ?_
  refine v_bipush (v := 15) C dX9_markLine_78 (by decide) ?_
  obtain ⟨r11, hc12, hf⟩ := bs_bind hf
  refine v_callVi (y := yX9_takes) (As := [.int (0 : Int32), .int (15 : Int32)]) (rest := []) C (cX9_takes_ok  hc12) ml_X9_200 wyX9_takes (bsm_X9) (bsc_X9) rfl dpX9_takes ⟨Nat.le_of_ble_eq_true rfl, Nat.le_of_ble_eq_true rfl⟩ ⟨rfl, rfl⟩ ⟨Nat.le_of_ble_eq_true rfl, Nat.le_of_ble_eq_true rfl⟩ rfl (Nat.le_of_ble_eq_true rfl) dX9_markLine_80 ?_
  refine v_istore_n (lv' := [(2, .int r11.1), (0, .ref (ρ 14 0 0)), (1, .int x1)]) C dX9_markLine_83 rfl (by decide) rfl ?_
  refine v_aload_n C dX9_markLine_84 rfl rfl ?_
  refine v_iconst (v := 0) C dX9_markLine_85 (by decide) ?_
  refine v_bipush (v := 7) C dX9_markLine_86 (by decide) ?_
  obtain ⟨r13, hc14, hf⟩ := bs_bind hf
  refine v_callVi (y := yX9_takes) (As := [.int (0 : Int32), .int (7 : Int32)]) (rest := []) C (cX9_takes_ok  hc14) ml_X9_200 wyX9_takes (bsm_X9) (bsc_X9) rfl dpX9_takes ⟨Nat.le_of_ble_eq_true rfl, Nat.le_of_ble_eq_true rfl⟩ ⟨rfl, rfl⟩ ⟨Nat.le_of_ble_eq_true rfl, Nat.le_of_ble_eq_true rfl⟩ rfl (Nat.le_of_ble_eq_true rfl) dX9_markLine_88 ?_
  refine v_istore_n (lv' := [(3, .int r13.1), (2, .int r11.1), (0, .ref (ρ 14 0 0)), (1, .int x1)]) C dX9_markLine_91 rfl (by decide) rfl ?_
  refine v_aload_n C dX9_markLine_92 rfl rfl ?_
  refine gf_X9_166 C dX9_markLine_93 ?_
  refine v_if_eq (tgt := 100) C dX9_markLine_96 (by decide) (fun h23 => ?_) (fun h23 => ?_)
  · replace hf := bs_pos h23 hf
    refine v_aload_n C dX9_markLine_100 rfl rfl ?_
    refine v_dup C dX9_markLine_101 rfl ?_
    refine gf_X9_211 C dX9_markLine_102 ?_
    refine v_iconst (v := 1) C dX9_markLine_105 (by decide) ?_
    refine v_iload_n C dX9_markLine_106 rfl rfl ?_
    refine v_ishl C dX9_markLine_107 ?_
    refine v_ior C dX9_markLine_108 ?_
    refine pf_X9_211 C dX9_markLine_109 ?_
    refine v_aload_n C dX9_markLine_112 rfl rfl ?_
    refine v_iload_n C dX9_markLine_113 rfl rfl ?_
    refine v_iconst (v := 1) C dX9_markLine_114 (by decide) ?_
    refine v_iload_n C dX9_markLine_115 rfl rfl ?_
    obtain ⟨r15, hc16, hf⟩ := bs_bind hf
    refine v_callVv (y := yX9_puts) (As := [.int x1, .int (1 : Int32), .int r11.1]) (rest := []) C (cX9_puts_ok  hc16) ml_X9_77 wyX9_puts (bsm_X9) (bsc_X9) rfl dpX9_puts ⟨Nat.le_of_ble_eq_true rfl, Nat.le_of_ble_eq_true rfl⟩ ⟨rfl, rfl⟩ ⟨Nat.le_of_ble_eq_true rfl, Nat.le_of_ble_eq_true rfl⟩ rfl (Nat.le_of_ble_eq_true rfl) dX9_markLine_116 ?_
    refine v_aload_n C dX9_markLine_119 rfl rfl ?_
    refine v_iload_n C dX9_markLine_120 rfl rfl ?_
    refine v_iconst (v := 2) C dX9_markLine_121 (by decide) ?_
    refine v_iload_n C dX9_markLine_122 rfl rfl ?_
    obtain ⟨r17, hc18, hf⟩ := bs_bind hf
    refine v_callVv (y := yX9_puts) (As := [.int x1, .int (2 : Int32), .int r13.1]) (rest := []) C (cX9_puts_ok  hc18) ml_X9_77 wyX9_puts (bsm_X9) (bsc_X9) rfl dpX9_puts ⟨Nat.le_of_ble_eq_true rfl, Nat.le_of_ble_eq_true rfl⟩ ⟨rfl, rfl⟩ ⟨Nat.le_of_ble_eq_true rfl, Nat.le_of_ble_eq_true rfl⟩ rfl (Nat.le_of_ble_eq_true rfl) dX9_markLine_123 ?_
    refine v_aload_n C dX9_markLine_126 rfl rfl ?_
    refine v_iload_n C dX9_markLine_127 rfl rfl ?_
    refine v_iconst (v := 3) C dX9_markLine_128 (by decide) ?_
    refine v_aload_n C dX9_markLine_129 rfl rfl ?_
    refine v_ldcS (tx := "good") (t := 6) C (by decide +kernel) dX9_markLine_130 ?_
    obtain ⟨r19, hc20, hf⟩ := bs_bind hf
    refine v_callVi (y := yX9_told) (As := [.ref (ρ 16 0 6)]) (rest := [.int (3 : Int32), .int x1, .ref (ρ 14 0 0)]) C (cX9_told_ok (by decide) hc20) ml_X9_205 wyX9_told (bsm_X9) (bsc_X9) rfl dpX9_told ⟨Nat.le_of_ble_eq_true rfl, Nat.le_of_ble_eq_true rfl⟩ ⟨rfl, rfl⟩ ⟨Nat.le_of_ble_eq_true rfl, Nat.le_of_ble_eq_true rfl⟩ rfl (Nat.le_of_ble_eq_true rfl) dX9_markLine_132 ?_
    obtain ⟨r21, hc22, hf⟩ := bs_bind hf
    refine v_callVv (y := yX9_puts) (As := [.int x1, .int (3 : Int32), .int r19.1]) (rest := []) C (cX9_puts_ok  hc22) ml_X9_77 wyX9_puts (bsm_X9) (bsc_X9) rfl dpX9_puts ⟨Nat.le_of_ble_eq_true rfl, Nat.le_of_ble_eq_true rfl⟩ ⟨rfl, rfl⟩ ⟨Nat.le_of_ble_eq_true rfl, Nat.le_of_ble_eq_true rfl⟩ rfl (Nat.le_of_ble_eq_true rfl) dX9_markLine_135 ?_
    exact v_vret C hf dX9_markLine_138
  · replace hf := bs_neg h23 hf
    exact v_vret C hf dX9_markLine_99
set_option maxHeartbeats 4000000 in
set_option maxRecDepth 100000 in
theorem wX9_markLine_67 {p : Program} {l : Launch} {e : Env} {s : State} {m : MethodId} {args : Array Value} {below : List Frame} {meth : Method} {c : Code} {ρ : bsR} {cA : Nat → ClassId} {dC : Nat → ClassId} {dI : Nat → Nat → Nat} {Rz : va_W} {Ts : List Cond}   {z : bsX} (C : bsCx p m c cX9_markLine 4 s args Ts RX9 ρ cA dC dI Rz meth none) (x1 : Int32) (X : bsX) (hf : fX9_markLine_67 x1 X = some z) : bsV p l e rmX9_markLine s m args below meth c 0 0 (MQ below (bsQv ρ cA dC dI Rz z s.heap.size) args s 0 0 (bsA ρ cA Rz s.heap.size)) ρ cA dC dI Rz 4 67 [(0, .ref (ρ 14 0 0)), (1, .int x1)] [.ref (ρ 14 0 0)] X := by
  rw [fX9_markLine_67] at hf
  refine v_iconst (v := 0) C dX9_markLine_67 (by decide) ?_
  refine v_sub [0, 1] rfl ?_
  exact wX9_markLine_68   C  _ _ _  hf
set_option maxHeartbeats 4000000 in
set_option maxRecDepth 100000 in
theorem wX9_markLine_43 {p : Program} {l : Launch} {e : Env} {s : State} {m : MethodId} {args : Array Value} {below : List Frame} {meth : Method} {c : Code} {ρ : bsR} {cA : Nat → ClassId} {dC : Nat → ClassId} {dI : Nat → Nat → Nat} {Rz : va_W} {Ts : List Cond}   {z : bsX} (C : bsCx p m c cX9_markLine 4 s args Ts RX9 ρ cA dC dI Rz meth none) (x1 : Int32) (y1 : Int32) (X : bsX) (hf : fX9_markLine_43 x1 y1 X = some z) : bsV p l e rmX9_markLine s m args below meth c 0 0 (MQ below (bsQv ρ cA dC dI Rz z s.heap.size) args s 0 0 (bsA ρ cA Rz s.heap.size)) ρ cA dC dI Rz 4 43 [(0, .ref (ρ 14 0 0)), (1, .int x1)] [.int y1, .ref (ρ 14 0 0)] X := by
  rw [fX9_markLine_43] at hf
  refine v_iconst (v := 3) C dX9_markLine_43 (by decide) ?_
  obtain ⟨r1, hc2, hf⟩ := bs_bind hf
  refine v_callVv (y := yX9_failsIf) (As := [.int y1, .int (3 : Int32)]) (rest := []) C (cX9_failsIf_ok  hc2) ml_X9_192 wyX9_failsIf (bsm_X9) (bsc_X9) rfl dpX9_failsIf ⟨Nat.le_of_ble_eq_true rfl, Nat.le_of_ble_eq_true rfl⟩ ⟨rfl, rfl⟩ ⟨Nat.le_of_ble_eq_true rfl, Nat.le_of_ble_eq_true rfl⟩ rfl (Nat.le_of_ble_eq_true rfl) dX9_markLine_44 ?_
  refine v_aload_n C dX9_markLine_47 rfl rfl ?_
  refine v_aload_n C dX9_markLine_48 rfl rfl ?_
  refine gf_X9_166 C dX9_markLine_49 ?_
  refine v_if_ne (tgt := 67) C dX9_markLine_52 (by decide) (fun h6 => ?_) (fun h6 => ?_)
  · replace hf := bs_neg h6 hf
    refine v_sub [0, 1] rfl ?_
    exact wX9_markLine_67   C  _ _  hf
  · replace hf := bs_pos h6 hf
    refine v_aload_n C dX9_markLine_55 rfl rfl ?_
    refine v_iload_n C dX9_markLine_56 rfl rfl ?_
    obtain ⟨r3, hc4, hf⟩ := bs_bind hf
    refine v_callVi (y := yX9_has) (As := [.int x1]) (rest := [.ref (ρ 14 0 0)]) C (cX9_has_ok  hc4) ml_X9_60 wyX9_has (bsm_X9) (bsc_X9) rfl dpX9_has ⟨Nat.le_of_ble_eq_true rfl, Nat.le_of_ble_eq_true rfl⟩ ⟨rfl, rfl⟩ ⟨Nat.le_of_ble_eq_true rfl, Nat.le_of_ble_eq_true rfl⟩ rfl (Nat.le_of_ble_eq_true rfl) dX9_markLine_57 ?_
    refine v_if_ne (tgt := 67) C dX9_markLine_60 (by decide) (fun h5 => ?_) (fun h5 => ?_)
    · replace hf := bs_neg h5 hf
      refine v_sub [0, 1] rfl ?_
      exact wX9_markLine_67   C  _ _  hf
    · replace hf := bs_pos h5 hf
      refine v_iconst (v := 1) C dX9_markLine_63 (by decide) ?_
      refine v_goto (tgt := 68) C dX9_markLine_64 (by decide) ?_
      refine v_sub [0, 1] rfl ?_
      exact wX9_markLine_68   C  _ _ _  hf
set_option maxHeartbeats 4000000 in
set_option maxRecDepth 100000 in
theorem wX9_markLine_42 {p : Program} {l : Launch} {e : Env} {s : State} {m : MethodId} {args : Array Value} {below : List Frame} {meth : Method} {c : Code} {ρ : bsR} {cA : Nat → ClassId} {dC : Nat → ClassId} {dI : Nat → Nat → Nat} {Rz : va_W} {Ts : List Cond}   {z : bsX} (C : bsCx p m c cX9_markLine 4 s args Ts RX9 ρ cA dC dI Rz meth none) (x1 : Int32) (X : bsX) (hf : fX9_markLine_42 x1 X = some z) : bsV p l e rmX9_markLine s m args below meth c 0 0 (MQ below (bsQv ρ cA dC dI Rz z s.heap.size) args s 0 0 (bsA ρ cA Rz s.heap.size)) ρ cA dC dI Rz 4 42 [(0, .ref (ρ 14 0 0)), (1, .int x1)] [.ref (ρ 14 0 0)] X := by
  rw [fX9_markLine_42] at hf
  refine v_iconst (v := 0) C dX9_markLine_42 (by decide) ?_
  refine v_sub [0, 1] rfl ?_
  exact wX9_markLine_43   C  _ _ _  hf
set_option maxHeartbeats 4000000 in
set_option maxRecDepth 100000 in
theorem cX9_markLine_ok {l : Launch} {ρ : bsR} {cA : Nat → ClassId} {dC : Nat → ClassId} {dI : Nat → Nat → Nat} {Rz : va_W}  {X : bsX} {z : bsX} (hf : fX9_markLine  X = some z) : bsMv l yX9_markLine cX9_markLine 4 none rmX9_markLine ρ cA dC dI Rz [.ref (ρ 14 0 0)] X z := by
  refine bsMv_of (by decide) (Nat.le_of_ble_eq_true rfl) (fun p e s m args below meth c C => ?_)
  have C : bsCx p m c cX9_markLine 4 s args (Cond.code yX9_markLine cX9_markLine 4 none :: bsG) RX9 ρ cA dC dI Rz meth none := C
  rw [fX9_markLine] at hf
  refine v_sub [0] rfl ?_
  refine v_aload_n C dX9_markLine_0 rfl rfl ?_
  obtain ⟨r24, hc25, hf⟩ := bs_bind hf
  refine v_callVv (y := yX9_goesOn) (As := []) (rest := []) C (cX9_goesOn_ok  hc25) ml_X9_189 wyX9_goesOn (bsm_X9) (bsc_X9) rfl dpX9_goesOn ⟨Nat.le_of_ble_eq_true rfl, Nat.le_of_ble_eq_true rfl⟩ ⟨rfl, rfl⟩ ⟨Nat.le_of_ble_eq_true rfl, Nat.le_of_ble_eq_true rfl⟩ rfl (Nat.le_of_ble_eq_true rfl) dX9_markLine_1 ?_
  refine v_aload_n C dX9_markLine_4 rfl rfl ?_
  refine v_iconst (v := 0) C dX9_markLine_5 (by decide) ?_
  refine v_aload_n C dX9_markLine_6 rfl rfl ?_
  refine gf_X9_7 C dX9_markLine_7 ?_
  refine v_iconst (v := 0) C dX9_markLine_10 (by decide) ?_
  obtain ⟨hi26, hf⟩ := bs_if hf
  refine v_iald (n := 160) C bsm_14_1 bsc_14_1 hi26 dX9_markLine_11 ?_
  refine v_iconst (v := 1) C dX9_markLine_12 (by decide) ?_
  refine v_isub C dX9_markLine_13 ?_
  obtain ⟨r27, hc28, hf⟩ := bs_bind hf
  refine v_callVi (y := yX9_looks) (As := [.int (0 : Int32), .int ((r24 14 1 0 (bsIx (0 : Int32))) - (1 : Int32))]) (rest := []) C (cX9_looks_ok  hc28) ml_X9_186 wyX9_looks (bsm_X9) (bsc_X9) rfl dpX9_looks ⟨Nat.le_of_ble_eq_true rfl, Nat.le_of_ble_eq_true rfl⟩ ⟨rfl, rfl⟩ ⟨Nat.le_of_ble_eq_true rfl, Nat.le_of_ble_eq_true rfl⟩ rfl (Nat.le_of_ble_eq_true rfl) dX9_markLine_14 ?_
  refine v_istore_n (lv' := [(1, .int r27.1), (0, .ref (ρ 14 0 0))]) C dX9_markLine_17 rfl (by decide) rfl ?_
  refine v_aload_n C dX9_markLine_18 rfl rfl ?_
  refine v_aload_n C dX9_markLine_19 rfl rfl ?_
  refine gf_X9_166 C dX9_markLine_20 ?_
  refine v_if_ne (tgt := 42) C dX9_markLine_23 (by decide) (fun h30 => ?_) (fun h30 => ?_)
  · replace hf := bs_neg h30 hf
    refine v_sub [1, 0] rfl ?_
    exact wX9_markLine_42   C  _ _  hf
  · replace hf := bs_pos h30 hf
    refine v_aload_n C dX9_markLine_26 rfl rfl ?_
    refine gf_X9_211 C dX9_markLine_27 ?_
    refine v_iload_n C dX9_markLine_30 rfl rfl ?_
    refine v_ishr C dX9_markLine_31 ?_
    refine v_iconst (v := 1) C dX9_markLine_32 (by decide) ?_
    refine v_iand C dX9_markLine_33 ?_
    refine v_iconst (v := 1) C dX9_markLine_34 (by decide) ?_
    refine v_icmp_ne (tgt := 42) C dX9_markLine_35 (by decide) (fun h29 => ?_) (fun h29 => ?_)
    · replace hf := bs_neg h29 hf
      refine v_sub [1, 0] rfl ?_
      exact wX9_markLine_42   C  _ _  hf
    · replace hf := bs_pos h29 hf
      refine v_iconst (v := 1) C dX9_markLine_38 (by decide) ?_
      refine v_goto (tgt := 43) C dX9_markLine_39 (by decide) ?_
      refine v_sub [1, 0] rfl ?_
      exact wX9_markLine_43   C  _ _ _  hf
/-! BootSlotsModel.line()V -/
def fX9_line (X : bsX) : Option bsX := (fX9_isWord 1  X).bind fun r1 => if r1.1 = 0 then ((fX9_isWord 2  r1.2).bind fun r3 => if r3.1 = 0 then ((fX9_isWord 5  r3.2).bind fun r5 => if r5.1 = 0 then ((fX9_fails  (1 : Int32) r5.2).bind fun r7 => some r7) else ((fX9_markLine   r5.2).bind fun r9 => some r9)) else ((fX9_imageLine   r3.2).bind fun r12 => some r12)) else ((fX9_slotLine   r1.2).bind fun r15 => some r15)
abbrev rmX9_line : Room := { frames := 7, cells := 0, slots := 0, locals := 153 }
set_option maxHeartbeats 4000000 in
set_option maxRecDepth 100000 in
theorem cX9_line_ok {l : Launch} {ρ : bsR} {cA : Nat → ClassId} {dC : Nat → ClassId} {dI : Nat → Nat → Nat} {Rz : va_W}  {X : bsX} {z : bsX} (hf : fX9_line  X = some z) : bsMv l yX9_line cX9_line 1 none rmX9_line ρ cA dC dI Rz [.ref (ρ 14 0 0)] X z := by
  refine bsMv_of (by decide) (Nat.le_of_ble_eq_true rfl) (fun p e s m args below meth c C => ?_)
  have C : bsCx p m c cX9_line 1 s args (Cond.code yX9_line cX9_line 1 none :: bsG) RX9 ρ cA dC dI Rz meth none := C
  rw [fX9_line] at hf
  refine v_sub [0] rfl ?_
  refine v_aload_n C dX9_line_0 rfl rfl ?_
  refine v_ldcS (tx := "slot") (t := 1) C (by decide +kernel) dX9_line_1 ?_
  obtain ⟨r1, hc2, hf⟩ := bs_bind hf
  refine v_callVi (y := yX9_isWord) (As := [.ref (ρ 16 0 1)]) (rest := []) C (cX9_isWord_ok (by decide) hc2) ml_X9_196 wyX9_isWord (bsm_X9) (bsc_X9) rfl dpX9_isWord ⟨Nat.le_of_ble_eq_true rfl, Nat.le_of_ble_eq_true rfl⟩ ⟨rfl, rfl⟩ ⟨Nat.le_of_ble_eq_true rfl, Nat.le_of_ble_eq_true rfl⟩ rfl (Nat.le_of_ble_eq_true rfl) dX9_line_3 ?_
  refine v_if_eq (tgt := 16) C dX9_line_6 (by decide) (fun h17 => ?_) (fun h17 => ?_)
  · replace hf := bs_pos h17 hf
    refine v_aload_n C dX9_line_16 rfl rfl ?_
    refine v_ldcS (tx := "image") (t := 2) C (by decide +kernel) dX9_line_17 ?_
    obtain ⟨r3, hc4, hf⟩ := bs_bind hf
    refine v_callVi (y := yX9_isWord) (As := [.ref (ρ 16 0 2)]) (rest := []) C (cX9_isWord_ok (by decide) hc4) ml_X9_196 wyX9_isWord (bsm_X9) (bsc_X9) rfl dpX9_isWord ⟨Nat.le_of_ble_eq_true rfl, Nat.le_of_ble_eq_true rfl⟩ ⟨rfl, rfl⟩ ⟨Nat.le_of_ble_eq_true rfl, Nat.le_of_ble_eq_true rfl⟩ rfl (Nat.le_of_ble_eq_true rfl) dX9_line_19 ?_
    refine v_if_eq (tgt := 32) C dX9_line_22 (by decide) (fun h14 => ?_) (fun h14 => ?_)
    · replace hf := bs_pos h14 hf
      refine v_aload_n C dX9_line_32 rfl rfl ?_
      refine v_ldcS (tx := "mark") (t := 5) C (by decide +kernel) dX9_line_33 ?_
      obtain ⟨r5, hc6, hf⟩ := bs_bind hf
      refine v_callVi (y := yX9_isWord) (As := [.ref (ρ 16 0 5)]) (rest := []) C (cX9_isWord_ok (by decide) hc6) ml_X9_196 wyX9_isWord (bsm_X9) (bsc_X9) rfl dpX9_isWord ⟨Nat.le_of_ble_eq_true rfl, Nat.le_of_ble_eq_true rfl⟩ ⟨rfl, rfl⟩ ⟨Nat.le_of_ble_eq_true rfl, Nat.le_of_ble_eq_true rfl⟩ rfl (Nat.le_of_ble_eq_true rfl) dX9_line_35 ?_
      refine v_if_eq (tgt := 48) C dX9_line_38 (by decide) (fun h11 => ?_) (fun h11 => ?_)
      · replace hf := bs_pos h11 hf
        refine v_aload_n C dX9_line_48 rfl rfl ?_
        refine v_iconst (v := 1) C dX9_line_49 (by decide) ?_
        obtain ⟨r7, hc8, hf⟩ := bs_bind hf
        refine v_callVv (y := yX9_fails) (As := [.int (1 : Int32)]) (rest := []) C (cX9_fails_ok  hc8) ml_X9_172 wyX9_fails (bsm_X9) (bsc_X9) rfl dpX9_fails ⟨Nat.le_of_ble_eq_true rfl, Nat.le_of_ble_eq_true rfl⟩ ⟨rfl, rfl⟩ ⟨Nat.le_of_ble_eq_true rfl, Nat.le_of_ble_eq_true rfl⟩ rfl (Nat.le_of_ble_eq_true rfl) dX9_line_50 ?_
        exact v_vret C hf dX9_line_53
      · replace hf := bs_neg h11 hf
        refine v_aload_n C dX9_line_41 rfl rfl ?_
        obtain ⟨r9, hc10, hf⟩ := bs_bind hf
        refine v_callVv (y := yX9_markLine) (As := []) (rest := []) C (cX9_markLine_ok  hc10) ml_X9_228 wyX9_markLine (bsm_X9) (bsc_X9) rfl dpX9_markLine ⟨Nat.le_of_ble_eq_true rfl, Nat.le_of_ble_eq_true rfl⟩ ⟨rfl, rfl⟩ ⟨Nat.le_of_ble_eq_true rfl, Nat.le_of_ble_eq_true rfl⟩ rfl (Nat.le_of_ble_eq_true rfl) dX9_line_42 ?_
        refine v_goto (tgt := 53) C dX9_line_45 (by decide) ?_
        exact v_vret C hf dX9_line_53
    · replace hf := bs_neg h14 hf
      refine v_aload_n C dX9_line_25 rfl rfl ?_
      obtain ⟨r12, hc13, hf⟩ := bs_bind hf
      refine v_callVv (y := yX9_imageLine) (As := []) (rest := []) C (cX9_imageLine_ok  hc13) ml_X9_223 wyX9_imageLine (bsm_X9) (bsc_X9) rfl dpX9_imageLine ⟨Nat.le_of_ble_eq_true rfl, Nat.le_of_ble_eq_true rfl⟩ ⟨rfl, rfl⟩ ⟨Nat.le_of_ble_eq_true rfl, Nat.le_of_ble_eq_true rfl⟩ rfl (Nat.le_of_ble_eq_true rfl) dX9_line_26 ?_
      refine v_goto (tgt := 53) C dX9_line_29 (by decide) ?_
      exact v_vret C hf dX9_line_53
  · replace hf := bs_neg h17 hf
    refine v_aload_n C dX9_line_9 rfl rfl ?_
    obtain ⟨r15, hc16, hf⟩ := bs_bind hf
    refine v_callVv (y := yX9_slotLine) (As := []) (rest := []) C (cX9_slotLine_ok  hc16) ml_X9_218 wyX9_slotLine (bsm_X9) (bsc_X9) rfl dpX9_slotLine ⟨Nat.le_of_ble_eq_true rfl, Nat.le_of_ble_eq_true rfl⟩ ⟨rfl, rfl⟩ ⟨Nat.le_of_ble_eq_true rfl, Nat.le_of_ble_eq_true rfl⟩ rfl (Nat.le_of_ble_eq_true rfl) dX9_line_10 ?_
    refine v_goto (tgt := 53) C dX9_line_13 (by decide) ?_
    exact v_vret C hf dX9_line_53
/-! BootSlotsModel.least(I)I -/
def fX9_least_10 (X : bsX) : Option (Int32 × bsX) := some ((1 : Int32), X)
def fX9_least (a0 : Int32) (X : bsX) : Option (Int32 × bsX) := if a0 = (2 : Int32) then (fX9_least_10    X) else (if a0 = (3 : Int32) then (fX9_least_10    X) else (some ((0 : Int32), X)))
abbrev rmX9_least : Room := { frames := 0, cells := 0, slots := 0, locals := 0 }
set_option maxHeartbeats 4000000 in
set_option maxRecDepth 100000 in
theorem wX9_least_10 {p : Program} {l : Launch} {e : Env} {s : State} {m : MethodId} {args : Array Value} {below : List Frame} {meth : Method} {c : Code} {ρ : bsR} {cA : Nat → ClassId} {dC : Nat → ClassId} {dI : Nat → Nat → Nat} {Rz : va_W} {Ts : List Cond}   {z : (Int32 × bsX)} (C : bsCx p m c cX9_least 1 s args Ts RX9 ρ cA dC dI Rz meth (some .int)) (X : bsX) (hf : fX9_least_10  X = some z) : bsV p l e rmX9_least s m args below meth c 0 0 (MQ below (bsQi ρ cA dC dI Rz z s.heap.size) args s 0 0 (bsA ρ cA Rz s.heap.size)) ρ cA dC dI Rz 1 10 [] [] X := by
  rw [fX9_least_10] at hf
  refine v_iconst (v := 1) C dX9_least_10 (by decide) ?_
  refine v_goto (tgt := 15) C dX9_least_11 (by decide) ?_
  exact v_iret C hf dX9_least_15
set_option maxHeartbeats 4000000 in
set_option maxRecDepth 100000 in
theorem cX9_least_ok {l : Launch} {ρ : bsR} {cA : Nat → ClassId} {dC : Nat → ClassId} {dI : Nat → Nat → Nat} {Rz : va_W}  {a0 : Int32} {X : bsX} {z : (Int32 × bsX)} (hf : fX9_least a0 X = some z) : bsMi l yX9_least cX9_least 1 (some .int) rmX9_least ρ cA dC dI Rz [.int a0] X z := by
  refine bsMi_of (by decide) (Nat.le_of_ble_eq_true rfl) (fun p e s m args below meth c C => ?_)
  have C : bsCx p m c cX9_least 1 s args (Cond.code yX9_least cX9_least 1 (some .int) :: bsG) RX9 ρ cA dC dI Rz meth (some .int) := C
  rw [fX9_least] at hf
  refine v_sub [0] rfl ?_
  refine v_iload_n C dX9_least_0 rfl rfl ?_
  refine v_iconst (v := 2) C dX9_least_1 (by decide) ?_
  refine v_icmp_eq (tgt := 10) C dX9_least_2 (by decide) (fun h2 => ?_) (fun h2 => ?_)
  · replace hf := bs_pos h2 hf
    refine v_sub [] rfl ?_
    exact wX9_least_10   C  _  hf
  · replace hf := bs_neg h2 hf
    refine v_iload_n C dX9_least_5 rfl rfl ?_
    refine v_iconst (v := 3) C dX9_least_6 (by decide) ?_
    refine v_icmp_ne (tgt := 14) C dX9_least_7 (by decide) (fun h1 => ?_) (fun h1 => ?_)
    · replace hf := bs_neg h1 hf
      refine v_iconst (v := 0) C dX9_least_14 (by decide) ?_
      exact v_iret C hf dX9_least_15
    · replace hf := bs_pos h1 hf
      refine v_sub [] rfl ?_
      exact wX9_least_10   C  _  hf
/-! BootSlotsModel.most(I)I -/
def fX9_most (a0 : Int32) (X : bsX) : Option (Int32 × bsX) := if a0 = (3 : Int32) then (some ((9 : Int32), X)) else (if a0 = (4 : Int32) then (some ((7 : Int32), X)) else (some ((99 : Int32), X)))
abbrev rmX9_most : Room := { frames := 0, cells := 0, slots := 0, locals := 0 }
set_option maxHeartbeats 4000000 in
set_option maxRecDepth 100000 in
theorem cX9_most_ok {l : Launch} {ρ : bsR} {cA : Nat → ClassId} {dC : Nat → ClassId} {dI : Nat → Nat → Nat} {Rz : va_W}  {a0 : Int32} {X : bsX} {z : (Int32 × bsX)} (hf : fX9_most a0 X = some z) : bsMi l yX9_most cX9_most 1 (some .int) rmX9_most ρ cA dC dI Rz [.int a0] X z := by
  refine bsMi_of (by decide) (Nat.le_of_ble_eq_true rfl) (fun p e s m args below meth c C => ?_)
  have C : bsCx p m c cX9_most 1 s args (Cond.code yX9_most cX9_most 1 (some .int) :: bsG) RX9 ρ cA dC dI Rz meth (some .int) := C
  rw [fX9_most] at hf
  refine v_sub [0] rfl ?_
  refine v_iload_n C dX9_most_0 rfl rfl ?_
  refine v_iconst (v := 3) C dX9_most_1 (by decide) ?_
  refine v_icmp_ne (tgt := 10) C dX9_most_2 (by decide) (fun h2 => ?_) (fun h2 => ?_)
  · replace hf := bs_neg h2 hf
    refine v_iload_n C dX9_most_10 rfl rfl ?_
    refine v_iconst (v := 4) C dX9_most_11 (by decide) ?_
    refine v_icmp_ne (tgt := 20) C dX9_most_12 (by decide) (fun h1 => ?_) (fun h1 => ?_)
    · replace hf := bs_neg h1 hf
      refine v_bipush (v := 99) C dX9_most_20 (by decide) ?_
      exact v_iret C hf dX9_most_22
    · replace hf := bs_pos h1 hf
      refine v_bipush (v := 7) C dX9_most_15 (by decide) ?_
      refine v_goto (tgt := 22) C dX9_most_17 (by decide) ?_
      exact v_iret C hf dX9_most_22
  · replace hf := bs_pos h2 hf
    refine v_bipush (v := 9) C dX9_most_5 (by decide) ?_
    refine v_goto (tgt := 22) C dX9_most_7 (by decide) ?_
    exact v_iret C hf dX9_most_22
/-! BootSlotsModel.reads()V -/
def fX9_reads_151 (y1 : Int32) (X : bsX) : Option bsX := (fX9_failsIf  y1 (6 : Int32) X).bind fun r26 => some r26
def fX9_reads_132 (y1 : Int32) (X : bsX) : Option bsX := (fX9_failsIf  y1 (1 : Int32) X).bind fun r17 => if bsIn (0 : Int32) 160 then (if (r17 14 1 0 (bsIx (0 : Int32))) = 0 then (fX9_reads_151   (1 : Int32) r17) else (fX9_reads_151   (0 : Int32) r17)) else none
def fX9_reads_119 (X : bsX) : Option bsX := if (X 14 0 0 13) = 0 then (fX9_reads_132   (0 : Int32) X) else (fX9_reads_132   (1 : Int32) X)
def fX9_reads_93 : Nat → bsX → Option bsX
  | 0, _ => none
  | n + 1, X => if (X 14 0 0 15) = 0 then (if (X 14 0 0 13) = (3 : Int32) then ((fX9_token   X).bind fun r28 => (fX9_line   r28).bind fun r30 => fX9_reads_93 n  r30) else (fX9_reads_119    X)) else (fX9_reads_119    X)
def fX9_reads_64 : Nat → Int32 → bsX → Option bsX
  | 0, _, _ => none
  | n + 1, x1, X => if (5 : Int32) < x1 then (fX9_reads_93   bsF  X) else ((fX9_least  x1 X).bind fun r1 => (fX9_most  x1 r1.2).bind fun r3 => (fX9_takes  r1.1 r3.1 r3.2).bind fun r5 => if bsIn x1 160 then (fX9_reads_64 n (x1 + (1 : Int32)) (bsWr r5.2 14 1 0 (bsIx x1) r5.1)) else none)
def fX9_reads_54 (y1 : Int32) (X : bsX) : Option bsX := (fX9_failsIf  y1 (1 : Int32) X).bind fun r21 => (fX9_goesOn   r21).bind fun r23 => fX9_reads_64   bsF (2 : Int32) r23
def fX9_reads_2 : Nat → Int32 → bsX → Option bsX
  | 0, _, _ => none
  | n + 1, x1, X => if (160 : Int32) ≤ x1 then (if bsIn (7 : Int32) 160 then ((fX9_noInstall   (bsWr X 14 1 0 (bsIx (7 : Int32)) (-1 : Int32))).bind fun r10 => (fX9_isWord 0  (bsWr r10 14 0 0 18 (0 : Int32))).bind fun r12 => if r12.1 = 0 then (fX9_reads_54   (1 : Int32) r12.2) else (fX9_reads_54   (0 : Int32) r12.2)) else none) else (if bsIn x1 160 then (fX9_reads_2 n (x1 + (1 : Int32)) (bsWr X 14 1 0 (bsIx x1) (0 : Int32))) else none)
def fX9_reads (X : bsX) : Option bsX := fX9_reads_2   bsF (0 : Int32) X
abbrev rmX9_reads : Room := { frames := 8, cells := 0, slots := 0, locals := 173 }
set_option maxHeartbeats 4000000 in
set_option maxRecDepth 100000 in
theorem wX9_reads_151 {p : Program} {l : Launch} {e : Env} {s : State} {m : MethodId} {args : Array Value} {below : List Frame} {meth : Method} {c : Code} {ρ : bsR} {cA : Nat → ClassId} {dC : Nat → ClassId} {dI : Nat → Nat → Nat} {Rz : va_W} {Ts : List Cond}   {z : bsX} (C : bsCx p m c cX9_reads 2 s args Ts RX9 ρ cA dC dI Rz meth none) (y1 : Int32) (X : bsX) (hf : fX9_reads_151 y1 X = some z) : bsV p l e rmX9_reads s m args below meth c 0 0 (MQ below (bsQv ρ cA dC dI Rz z s.heap.size) args s 0 0 (bsA ρ cA Rz s.heap.size)) ρ cA dC dI Rz 2 151 [] [.int y1, .ref (ρ 14 0 0)] X := by
  rw [fX9_reads_151] at hf
  refine v_bipush (v := 6) C dX9_reads_151 (by decide) ?_
  obtain ⟨r26, hc27, hf⟩ := bs_bind hf
  refine v_callVv (y := yX9_failsIf) (As := [.int y1, .int (6 : Int32)]) (rest := []) C (cX9_failsIf_ok  hc27) ml_X9_192 wyX9_failsIf (bsm_X9) (bsc_X9) rfl dpX9_failsIf ⟨Nat.le_of_ble_eq_true rfl, Nat.le_of_ble_eq_true rfl⟩ ⟨rfl, rfl⟩ ⟨Nat.le_of_ble_eq_true rfl, Nat.le_of_ble_eq_true rfl⟩ rfl (Nat.le_of_ble_eq_true rfl) dX9_reads_153 ?_
  exact v_vret C hf dX9_reads_156
set_option maxHeartbeats 4000000 in
set_option maxRecDepth 100000 in
theorem wX9_reads_132 {p : Program} {l : Launch} {e : Env} {s : State} {m : MethodId} {args : Array Value} {below : List Frame} {meth : Method} {c : Code} {ρ : bsR} {cA : Nat → ClassId} {dC : Nat → ClassId} {dI : Nat → Nat → Nat} {Rz : va_W} {Ts : List Cond}   {z : bsX} (C : bsCx p m c cX9_reads 2 s args Ts RX9 ρ cA dC dI Rz meth none) (y1 : Int32) (X : bsX) (hf : fX9_reads_132 y1 X = some z) : bsV p l e rmX9_reads s m args below meth c 0 0 (MQ below (bsQv ρ cA dC dI Rz z s.heap.size) args s 0 0 (bsA ρ cA Rz s.heap.size)) ρ cA dC dI Rz 2 132 [(0, .ref (ρ 14 0 0))] [.int y1, .ref (ρ 14 0 0)] X := by
  rw [fX9_reads_132] at hf
  refine v_iconst (v := 1) C dX9_reads_132 (by decide) ?_
  obtain ⟨r17, hc18, hf⟩ := bs_bind hf
  refine v_callVv (y := yX9_failsIf) (As := [.int y1, .int (1 : Int32)]) (rest := []) C (cX9_failsIf_ok  hc18) ml_X9_192 wyX9_failsIf (bsm_X9) (bsc_X9) rfl dpX9_failsIf ⟨Nat.le_of_ble_eq_true rfl, Nat.le_of_ble_eq_true rfl⟩ ⟨rfl, rfl⟩ ⟨Nat.le_of_ble_eq_true rfl, Nat.le_of_ble_eq_true rfl⟩ rfl (Nat.le_of_ble_eq_true rfl) dX9_reads_133 ?_
  refine v_aload_n C dX9_reads_136 rfl rfl ?_
  refine v_aload_n C dX9_reads_137 rfl rfl ?_
  refine gf_X9_7 C dX9_reads_138 ?_
  refine v_iconst (v := 0) C dX9_reads_141 (by decide) ?_
  obtain ⟨hi19, hf⟩ := bs_if hf
  refine v_iald (n := 160) C bsm_14_1 bsc_14_1 hi19 dX9_reads_142 ?_
  refine v_if_ne (tgt := 150) C dX9_reads_143 (by decide) (fun h20 => ?_) (fun h20 => ?_)
  · replace hf := bs_neg h20 hf
    refine v_iconst (v := 0) C dX9_reads_150 (by decide) ?_
    refine v_sub [] rfl ?_
    exact wX9_reads_151   C  _ _  hf
  · replace hf := bs_pos h20 hf
    refine v_iconst (v := 1) C dX9_reads_146 (by decide) ?_
    refine v_goto (tgt := 151) C dX9_reads_147 (by decide) ?_
    refine v_sub [] rfl ?_
    exact wX9_reads_151   C  _ _  hf
set_option maxHeartbeats 4000000 in
set_option maxRecDepth 100000 in
theorem wX9_reads_119 {p : Program} {l : Launch} {e : Env} {s : State} {m : MethodId} {args : Array Value} {below : List Frame} {meth : Method} {c : Code} {ρ : bsR} {cA : Nat → ClassId} {dC : Nat → ClassId} {dI : Nat → Nat → Nat} {Rz : va_W} {Ts : List Cond}   {z : bsX} (C : bsCx p m c cX9_reads 2 s args Ts RX9 ρ cA dC dI Rz meth none) (X : bsX) (hf : fX9_reads_119  X = some z) : bsV p l e rmX9_reads s m args below meth c 0 0 (MQ below (bsQv ρ cA dC dI Rz z s.heap.size) args s 0 0 (bsA ρ cA Rz s.heap.size)) ρ cA dC dI Rz 2 119 [(0, .ref (ρ 14 0 0))] [] X := by
  rw [fX9_reads_119] at hf
  refine v_aload_n C dX9_reads_119 rfl rfl ?_
  refine v_aload_n C dX9_reads_120 rfl rfl ?_
  refine gf_X9_154 C dX9_reads_121 ?_
  refine v_if_eq (tgt := 131) C dX9_reads_124 (by decide) (fun h25 => ?_) (fun h25 => ?_)
  · replace hf := bs_pos h25 hf
    refine v_iconst (v := 0) C dX9_reads_131 (by decide) ?_
    refine v_sub [0] rfl ?_
    exact wX9_reads_132   C  _ _  hf
  · replace hf := bs_neg h25 hf
    refine v_iconst (v := 1) C dX9_reads_127 (by decide) ?_
    refine v_goto (tgt := 132) C dX9_reads_128 (by decide) ?_
    refine v_sub [0] rfl ?_
    exact wX9_reads_132   C  _ _  hf
set_option maxHeartbeats 4000000 in
set_option maxRecDepth 100000 in
theorem wX9_reads_93 {p : Program} {l : Launch} {e : Env} {s : State} {m : MethodId} {args : Array Value} {below : List Frame} {meth : Method} {c : Code} {ρ : bsR} {cA : Nat → ClassId} {dC : Nat → ClassId} {dI : Nat → Nat → Nat} {Rz : va_W} {Ts : List Cond}   {z : bsX} (C : bsCx p m c cX9_reads 2 s args Ts RX9 ρ cA dC dI Rz meth none) : ∀ (n : Nat) (X : bsX), fX9_reads_93  n  X = some z → bsV p l e rmX9_reads s m args below meth c 0 0 (MQ below (bsQv ρ cA dC dI Rz z s.heap.size) args s 0 0 (bsA ρ cA Rz s.heap.size)) ρ cA dC dI Rz 2 93 [(0, .ref (ρ 14 0 0))] [] X := by
  intro n
  induction n with
  | zero => intro X hf; exact (nomatch hf)
  | succ n ih =>
    intro X hf
    rw [fX9_reads_93] at hf
    refine v_aload_n C dX9_reads_93 rfl rfl ?_
    refine gf_X9_166 C dX9_reads_94 ?_
    refine v_if_ne (tgt := 119) C dX9_reads_97 (by decide) (fun h33 => ?_) (fun h33 => ?_)
    · replace hf := bs_neg h33 hf
      refine v_sub [0] rfl ?_
      exact wX9_reads_119   C  _  hf
    · replace hf := bs_pos h33 hf
      refine v_aload_n C dX9_reads_100 rfl rfl ?_
      refine gf_X9_154 C dX9_reads_101 ?_
      refine v_iconst (v := 3) C dX9_reads_104 (by decide) ?_
      refine v_icmp_ne (tgt := 119) C dX9_reads_105 (by decide) (fun h32 => ?_) (fun h32 => ?_)
      · replace hf := bs_neg h32 hf
        refine v_sub [0] rfl ?_
        exact wX9_reads_119   C  _  hf
      · replace hf := bs_pos h32 hf
        refine v_aload_n C dX9_reads_108 rfl rfl ?_
        obtain ⟨r28, hc29, hf⟩ := bs_bind hf
        refine v_callVv (y := yX9_token) (As := []) (rest := []) C (cX9_token_ok  hc29) ml_X9_175 wyX9_token (bsm_X9) (bsc_X9) rfl dpX9_token ⟨Nat.le_of_ble_eq_true rfl, Nat.le_of_ble_eq_true rfl⟩ ⟨rfl, rfl⟩ ⟨Nat.le_of_ble_eq_true rfl, Nat.le_of_ble_eq_true rfl⟩ rfl (Nat.le_of_ble_eq_true rfl) dX9_reads_109 ?_
        refine v_aload_n C dX9_reads_112 rfl rfl ?_
        obtain ⟨r30, hc31, hf⟩ := bs_bind hf
        refine v_callVv (y := yX9_line) (As := []) (rest := []) C (cX9_line_ok  hc31) ml_X9_239 wyX9_line (bsm_X9) (bsc_X9) rfl dpX9_line ⟨Nat.le_of_ble_eq_true rfl, Nat.le_of_ble_eq_true rfl⟩ ⟨rfl, rfl⟩ ⟨Nat.le_of_ble_eq_true rfl, Nat.le_of_ble_eq_true rfl⟩ rfl (Nat.le_of_ble_eq_true rfl) dX9_reads_113 ?_
        refine v_goto (tgt := 93) C dX9_reads_116 (by decide) ?_
        refine v_sub [0] rfl ?_
        exact ih _  hf
set_option maxHeartbeats 4000000 in
set_option maxRecDepth 100000 in
theorem wX9_reads_64 {p : Program} {l : Launch} {e : Env} {s : State} {m : MethodId} {args : Array Value} {below : List Frame} {meth : Method} {c : Code} {ρ : bsR} {cA : Nat → ClassId} {dC : Nat → ClassId} {dI : Nat → Nat → Nat} {Rz : va_W} {Ts : List Cond}   {z : bsX} (C : bsCx p m c cX9_reads 2 s args Ts RX9 ρ cA dC dI Rz meth none) : ∀ (n : Nat) (x1 : Int32) (X : bsX), fX9_reads_64  n x1 X = some z → bsV p l e rmX9_reads s m args below meth c 0 0 (MQ below (bsQv ρ cA dC dI Rz z s.heap.size) args s 0 0 (bsA ρ cA Rz s.heap.size)) ρ cA dC dI Rz 2 64 [(0, .ref (ρ 14 0 0)), (1, .int x1)] [] X := by
  intro n
  induction n with
  | zero => intro x1 X hf; exact (nomatch hf)
  | succ n ih =>
    intro x1 X hf
    rw [fX9_reads_64] at hf
    refine v_iload_n C dX9_reads_64 rfl rfl ?_
    refine v_iconst (v := 5) C dX9_reads_65 (by decide) ?_
    refine v_icmp_gt (tgt := 93) C dX9_reads_66 (by decide) (fun h8 => ?_) (fun h8 => ?_)
    · replace hf := bs_pos h8 hf
      refine v_sub [0] rfl ?_
      exact wX9_reads_93   C  bsF _  hf
    · replace hf := bs_neg h8 hf
      refine v_aload_n C dX9_reads_69 rfl rfl ?_
      refine gf_X9_7 C dX9_reads_70 ?_
      refine v_iload_n C dX9_reads_73 rfl rfl ?_
      refine v_aload_n C dX9_reads_74 rfl rfl ?_
      refine v_iload_n C dX9_reads_75 rfl rfl ?_
      obtain ⟨r1, hc2, hf⟩ := bs_bind hf
      refine v_callSi (y := yX9_least) (As := [.int x1]) (rest := [.ref (ρ 14 0 0), .int x1, .ref (ρ 14 1 0)]) C (cX9_least_ok  hc2) ml_X9_233 wzX9_least dpX9_least ⟨Nat.le_of_ble_eq_true rfl, Nat.le_of_ble_eq_true rfl⟩ ⟨rfl, rfl⟩ ⟨Nat.le_of_ble_eq_true rfl, Nat.le_of_ble_eq_true rfl⟩ rfl (Nat.le_of_ble_eq_true rfl) dX9_reads_76 ?_
      refine v_iload_n C dX9_reads_79 rfl rfl ?_
      obtain ⟨r3, hc4, hf⟩ := bs_bind hf
      refine v_callSi (y := yX9_most) (As := [.int x1]) (rest := [.int r1.1, .ref (ρ 14 0 0), .int x1, .ref (ρ 14 1 0)]) C (cX9_most_ok  hc4) ml_X9_236 wzX9_most dpX9_most ⟨Nat.le_of_ble_eq_true rfl, Nat.le_of_ble_eq_true rfl⟩ ⟨rfl, rfl⟩ ⟨Nat.le_of_ble_eq_true rfl, Nat.le_of_ble_eq_true rfl⟩ rfl (Nat.le_of_ble_eq_true rfl) dX9_reads_80 ?_
      obtain ⟨r5, hc6, hf⟩ := bs_bind hf
      refine v_callVi (y := yX9_takes) (As := [.int r1.1, .int r3.1]) (rest := [.int x1, .ref (ρ 14 1 0)]) C (cX9_takes_ok  hc6) ml_X9_200 wyX9_takes (bsm_X9) (bsc_X9) rfl dpX9_takes ⟨Nat.le_of_ble_eq_true rfl, Nat.le_of_ble_eq_true rfl⟩ ⟨rfl, rfl⟩ ⟨Nat.le_of_ble_eq_true rfl, Nat.le_of_ble_eq_true rfl⟩ rfl (Nat.le_of_ble_eq_true rfl) dX9_reads_83 ?_
      obtain ⟨hi7, hf⟩ := bs_if hf
      refine v_iast (n := 160) C bsm_14_1 (fun _ => bsc_14_1) hi7 dX9_reads_86 ?_
      refine v_iinc (k0 := 1) (v := (x1 + (1 : Int32))) (lv' := [(1, .int (x1 + (1 : Int32))), (0, .ref (ρ 14 0 0))]) C dX9_reads_87 rfl rfl (by decide) rfl ?_
      refine v_goto (tgt := 64) C dX9_reads_90 (by decide) ?_
      refine v_sub [1, 0] rfl ?_
      exact ih _ _  hf
set_option maxHeartbeats 4000000 in
set_option maxRecDepth 100000 in
theorem wX9_reads_54 {p : Program} {l : Launch} {e : Env} {s : State} {m : MethodId} {args : Array Value} {below : List Frame} {meth : Method} {c : Code} {ρ : bsR} {cA : Nat → ClassId} {dC : Nat → ClassId} {dI : Nat → Nat → Nat} {Rz : va_W} {Ts : List Cond}   {z : bsX} (C : bsCx p m c cX9_reads 2 s args Ts RX9 ρ cA dC dI Rz meth none) (y1 : Int32) (X : bsX) (hf : fX9_reads_54 y1 X = some z) : bsV p l e rmX9_reads s m args below meth c 0 0 (MQ below (bsQv ρ cA dC dI Rz z s.heap.size) args s 0 0 (bsA ρ cA Rz s.heap.size)) ρ cA dC dI Rz 2 54 [(0, .ref (ρ 14 0 0))] [.int y1, .ref (ρ 14 0 0)] X := by
  rw [fX9_reads_54] at hf
  refine v_iconst (v := 1) C dX9_reads_54 (by decide) ?_
  obtain ⟨r21, hc22, hf⟩ := bs_bind hf
  refine v_callVv (y := yX9_failsIf) (As := [.int y1, .int (1 : Int32)]) (rest := []) C (cX9_failsIf_ok  hc22) ml_X9_192 wyX9_failsIf (bsm_X9) (bsc_X9) rfl dpX9_failsIf ⟨Nat.le_of_ble_eq_true rfl, Nat.le_of_ble_eq_true rfl⟩ ⟨rfl, rfl⟩ ⟨Nat.le_of_ble_eq_true rfl, Nat.le_of_ble_eq_true rfl⟩ rfl (Nat.le_of_ble_eq_true rfl) dX9_reads_55 ?_
  refine v_aload_n C dX9_reads_58 rfl rfl ?_
  obtain ⟨r23, hc24, hf⟩ := bs_bind hf
  refine v_callVv (y := yX9_goesOn) (As := []) (rest := []) C (cX9_goesOn_ok  hc24) ml_X9_189 wyX9_goesOn (bsm_X9) (bsc_X9) rfl dpX9_goesOn ⟨Nat.le_of_ble_eq_true rfl, Nat.le_of_ble_eq_true rfl⟩ ⟨rfl, rfl⟩ ⟨Nat.le_of_ble_eq_true rfl, Nat.le_of_ble_eq_true rfl⟩ rfl (Nat.le_of_ble_eq_true rfl) dX9_reads_59 ?_
  refine v_iconst (v := 2) C dX9_reads_62 (by decide) ?_
  refine v_istore_n (lv' := [(1, .int (2 : Int32)), (0, .ref (ρ 14 0 0))]) C dX9_reads_63 rfl (by decide) rfl ?_
  refine v_sub [1, 0] rfl ?_
  exact wX9_reads_64   C  bsF _ _  hf
set_option maxHeartbeats 4000000 in
set_option maxRecDepth 100000 in
theorem wX9_reads_2 {p : Program} {l : Launch} {e : Env} {s : State} {m : MethodId} {args : Array Value} {below : List Frame} {meth : Method} {c : Code} {ρ : bsR} {cA : Nat → ClassId} {dC : Nat → ClassId} {dI : Nat → Nat → Nat} {Rz : va_W} {Ts : List Cond}   {z : bsX} (C : bsCx p m c cX9_reads 2 s args Ts RX9 ρ cA dC dI Rz meth none) : ∀ (n : Nat) (x1 : Int32) (X : bsX), fX9_reads_2  n x1 X = some z → bsV p l e rmX9_reads s m args below meth c 0 0 (MQ below (bsQv ρ cA dC dI Rz z s.heap.size) args s 0 0 (bsA ρ cA Rz s.heap.size)) ρ cA dC dI Rz 2 2 [(0, .ref (ρ 14 0 0)), (1, .int x1)] [] X := by
  intro n
  induction n with
  | zero => intro x1 X hf; exact (nomatch hf)
  | succ n ih =>
    intro x1 X hf
    rw [fX9_reads_2] at hf
    refine v_iload_n C dX9_reads_2 rfl rfl ?_
    refine v_sipush (v := 160) C dX9_reads_3 (by decide) ?_
    refine v_icmp_ge (tgt := 22) C dX9_reads_6 (by decide) (fun h16 => ?_) (fun h16 => ?_)
    · replace hf := bs_pos h16 hf
      refine v_aload_n C dX9_reads_22 rfl rfl ?_
      refine gf_X9_7 C dX9_reads_23 ?_
      refine v_bipush (v := 7) C dX9_reads_26 (by decide) ?_
      refine v_iconst (v := -1) C dX9_reads_28 (by decide) ?_
      obtain ⟨hi9, hf⟩ := bs_if hf
      refine v_iast (n := 160) C bsm_14_1 (fun _ => bsc_14_1) hi9 dX9_reads_29 ?_
      refine v_aload_n C dX9_reads_30 rfl rfl ?_
      obtain ⟨r10, hc11, hf⟩ := bs_bind hf
      refine v_callVv (y := yX9_noInstall) (As := []) (rest := []) C (cX9_noInstall_ok  hc11) ml_X9_121 wyX9_noInstall (bsm_X9) (bsc_X9) rfl dpX9_noInstall ⟨Nat.le_of_ble_eq_true rfl, Nat.le_of_ble_eq_true rfl⟩ ⟨rfl, rfl⟩ ⟨Nat.le_of_ble_eq_true rfl, Nat.le_of_ble_eq_true rfl⟩ rfl (Nat.le_of_ble_eq_true rfl) dX9_reads_31 ?_
      refine v_aload_n C dX9_reads_34 rfl rfl ?_
      refine v_iconst (v := 0) C dX9_reads_35 (by decide) ?_
      refine pf_X9_211 C dX9_reads_36 ?_
      refine v_aload_n C dX9_reads_39 rfl rfl ?_
      refine v_aload_n C dX9_reads_40 rfl rfl ?_
      refine v_ldcS (tx := "machine") (t := 0) C (by decide +kernel) dX9_reads_41 ?_
      obtain ⟨r12, hc13, hf⟩ := bs_bind hf
      refine v_callVi (y := yX9_isWord) (As := [.ref (ρ 16 0 0)]) (rest := [.ref (ρ 14 0 0)]) C (cX9_isWord_ok (by decide) hc13) ml_X9_196 wyX9_isWord (bsm_X9) (bsc_X9) rfl dpX9_isWord ⟨Nat.le_of_ble_eq_true rfl, Nat.le_of_ble_eq_true rfl⟩ ⟨rfl, rfl⟩ ⟨Nat.le_of_ble_eq_true rfl, Nat.le_of_ble_eq_true rfl⟩ rfl (Nat.le_of_ble_eq_true rfl) dX9_reads_43 ?_
      refine v_if_ne (tgt := 53) C dX9_reads_46 (by decide) (fun h14 => ?_) (fun h14 => ?_)
      · replace hf := bs_neg h14 hf
        refine v_iconst (v := 0) C dX9_reads_53 (by decide) ?_
        refine v_sub [0] rfl ?_
        exact wX9_reads_54   C  _ _  hf
      · replace hf := bs_pos h14 hf
        refine v_iconst (v := 1) C dX9_reads_49 (by decide) ?_
        refine v_goto (tgt := 54) C dX9_reads_50 (by decide) ?_
        refine v_sub [0] rfl ?_
        exact wX9_reads_54   C  _ _  hf
    · replace hf := bs_neg h16 hf
      refine v_aload_n C dX9_reads_9 rfl rfl ?_
      refine gf_X9_7 C dX9_reads_10 ?_
      refine v_iload_n C dX9_reads_13 rfl rfl ?_
      refine v_iconst (v := 0) C dX9_reads_14 (by decide) ?_
      obtain ⟨hi15, hf⟩ := bs_if hf
      refine v_iast (n := 160) C bsm_14_1 (fun _ => bsc_14_1) hi15 dX9_reads_15 ?_
      refine v_iinc (k0 := 1) (v := (x1 + (1 : Int32))) (lv' := [(1, .int (x1 + (1 : Int32))), (0, .ref (ρ 14 0 0))]) C dX9_reads_16 rfl rfl (by decide) rfl ?_
      refine v_goto (tgt := 2) C dX9_reads_19 (by decide) ?_
      refine v_sub [1, 0] rfl ?_
      exact ih _ _  hf
set_option maxHeartbeats 4000000 in
set_option maxRecDepth 100000 in
theorem cX9_reads_ok {l : Launch} {ρ : bsR} {cA : Nat → ClassId} {dC : Nat → ClassId} {dI : Nat → Nat → Nat} {Rz : va_W}  {X : bsX} {z : bsX} (hf : fX9_reads  X = some z) : bsMv l yX9_reads cX9_reads 2 none rmX9_reads ρ cA dC dI Rz [.ref (ρ 14 0 0)] X z := by
  refine bsMv_of (by decide) (Nat.le_of_ble_eq_true rfl) (fun p e s m args below meth c C => ?_)
  have C : bsCx p m c cX9_reads 2 s args (Cond.code yX9_reads cX9_reads 2 none :: bsG) RX9 ρ cA dC dI Rz meth none := C
  rw [fX9_reads] at hf
  refine v_sub [0] rfl ?_
  refine v_iconst (v := 0) C dX9_reads_0 (by decide) ?_
  refine v_istore_n (lv' := [(1, .int (0 : Int32)), (0, .ref (ρ 14 0 0))]) C dX9_reads_1 rfl (by decide) rfl ?_
  refine v_sub [1, 0] rfl ?_
  exact wX9_reads_2   C  bsF _ _  hf
/-! BootSlotsModel.load(I)I -/
def fX9_load_120 (y1 : Int32) (X : bsX) : Option (Int32 × bsX) := (fX9_refuse  y1 (2 : Int32) X).bind fun r12 => if r12.1 = 0 then (if bsIn (0 : Int32) 2 then (if bsIn (1 : Int32) 2 then (if bsIn (0 : Int32) 160 then (some (((bsWr (bsWr (bsWr (bsWr r12.2 14 0 0 1 (1 : Int32)) 14 0 0 4 (0 : Int32)) 14 3 0 (bsIx (0 : Int32)) (vp_nar .boolean (0 : Int32))) 14 3 0 (bsIx (1 : Int32)) (vp_nar .boolean (0 : Int32))) 14 1 0 (bsIx (0 : Int32))), (bsWr (bsWr (bsWr (bsWr r12.2 14 0 0 1 (1 : Int32)) 14 0 0 4 (0 : Int32)) 14 3 0 (bsIx (0 : Int32)) (vp_nar .boolean (0 : Int32))) 14 3 0 (bsIx (1 : Int32)) (vp_nar .boolean (0 : Int32))))) else none) else none) else none) else ((fX9_copies 5 160 1 160 (0 : Int32) (0 : Int32) r12.2).bind fun r17 => some ((0 : Int32), r17))
def fX9_load_104 (y1 : Int32) (X : bsX) : Option (Int32 × bsX) := if ((bsWr X 14 0 0 9 y1) 14 0 0 15) = 0 then (fX9_load_120   (0 : Int32) (bsWr X 14 0 0 9 y1)) else (fX9_load_120   (1 : Int32) (bsWr X 14 0 0 9 y1))
def fX9_load_25 (x1 : Int32) (y1 : Int32) (X : bsX) : Option (Int32 × bsX) := (fX9_refuse  y1 (1 : Int32) X).bind fun r2 => if r2.1 = 0 then ((fX9_copies 1 160 5 160 (0 : Int32) (0 : Int32) r2.2).bind fun r4 => (fX9_token   (bsWr (bsWr (bsWr (bsWr (bsWr r4 14 0 0 7 (0 : Int32)) 14 0 0 10 x1) 14 0 0 11 (0 : Int32)) 14 0 0 15 (0 : Int32)) 14 0 0 16 (-1 : Int32))).bind fun r6 => (fX9_reads   r6).bind fun r8 => if ((bsWr r8 14 0 0 8 (r8 14 0 0 15)) 14 0 0 15) = 0 then (fX9_load_104   (-1 : Int32) (bsWr r8 14 0 0 8 (r8 14 0 0 15))) else (fX9_load_104   ((bsWr r8 14 0 0 8 (r8 14 0 0 15)) 14 0 0 16) (bsWr r8 14 0 0 8 (r8 14 0 0 15)))) else (some ((0 : Int32), r2.2))
def fX9_load (a1 : Int32) (X : bsX) : Option (Int32 × bsX) := (fX9_in  a1.toInt64 (0 : Int64) (((bsWr X 14 0 0 0 (0 : Int32)) 14 0 0 7).toInt64) (bsWr X 14 0 0 0 (0 : Int32))).bind fun r20 => if r20.1 = 0 then (fX9_load_25   a1 (1 : Int32) r20.2) else (fX9_load_25   a1 (0 : Int32) r20.2)
abbrev rmX9_load : Room := { frames := 9, cells := 0, slots := 0, locals := 194 }
set_option maxHeartbeats 4000000 in
set_option maxRecDepth 100000 in
theorem wX9_load_120 {p : Program} {l : Launch} {e : Env} {s : State} {m : MethodId} {args : Array Value} {below : List Frame} {meth : Method} {c : Code} {ρ : bsR} {cA : Nat → ClassId} {dC : Nat → ClassId} {dI : Nat → Nat → Nat} {Rz : va_W} {Ts : List Cond}   {z : (Int32 × bsX)} (C : bsCx p m c cX9_load 2 s args Ts RX9 ρ cA dC dI Rz meth (some .int)) (y1 : Int32) (X : bsX) (hf : fX9_load_120 y1 X = some z) : bsV p l e rmX9_load s m args below meth c 0 0 (MQ below (bsQi ρ cA dC dI Rz z s.heap.size) args s 0 0 (bsA ρ cA Rz s.heap.size)) ρ cA dC dI Rz 2 120 [(0, .ref (ρ 14 0 0))] [.int y1, .ref (ρ 14 0 0)] X := by
  rw [fX9_load_120] at hf
  refine v_iconst (v := 2) C dX9_load_120 (by decide) ?_
  obtain ⟨r12, hc13, hf⟩ := bs_bind hf
  refine v_callVi (y := yX9_refuse) (As := [.int y1, .int (2 : Int32)]) (rest := []) C (cX9_refuse_ok  hc13) ml_X9_40 wyX9_refuse (bsm_X9) (bsc_X9) rfl dpX9_refuse ⟨Nat.le_of_ble_eq_true rfl, Nat.le_of_ble_eq_true rfl⟩ ⟨rfl, rfl⟩ ⟨Nat.le_of_ble_eq_true rfl, Nat.le_of_ble_eq_true rfl⟩ rfl (Nat.le_of_ble_eq_true rfl) dX9_load_121 ?_
  refine v_if_eq (tgt := 142) C dX9_load_124 (by decide) (fun h19 => ?_) (fun h19 => ?_)
  · replace hf := bs_pos h19 hf
    refine v_aload_n C dX9_load_142 rfl rfl ?_
    refine v_iconst (v := 1) C dX9_load_143 (by decide) ?_
    refine pf_X9_36 C (by decide) dX9_load_144 ?_
    refine v_aload_n C dX9_load_147 rfl rfl ?_
    refine v_iconst (v := 0) C dX9_load_148 (by decide) ?_
    refine pf_X9_249 C dX9_load_149 ?_
    refine v_aload_n C dX9_load_152 rfl rfl ?_
    refine gf_X9_16 C dX9_load_153 ?_
    refine v_iconst (v := 0) C dX9_load_156 (by decide) ?_
    refine v_iconst (v := 0) C dX9_load_157 (by decide) ?_
    obtain ⟨hi14, hf⟩ := bs_if hf
    refine v_zast (n := 2) C bsm_14_3 (fun _ => bsc_14_3) hi14 dX9_load_158 ?_
    refine v_aload_n C dX9_load_159 rfl rfl ?_
    refine gf_X9_16 C dX9_load_160 ?_
    refine v_iconst (v := 1) C dX9_load_163 (by decide) ?_
    refine v_iconst (v := 0) C dX9_load_164 (by decide) ?_
    obtain ⟨hi15, hf⟩ := bs_if hf
    refine v_zast (n := 2) C bsm_14_3 (fun _ => bsc_14_3) hi15 dX9_load_165 ?_
    refine v_aload_n C dX9_load_166 rfl rfl ?_
    refine gf_X9_7 C dX9_load_167 ?_
    refine v_iconst (v := 0) C dX9_load_170 (by decide) ?_
    obtain ⟨hi16, hf⟩ := bs_if hf
    refine v_iald (n := 160) C bsm_14_1 bsc_14_1 hi16 dX9_load_171 ?_
    exact v_iret C hf dX9_load_172
  · replace hf := bs_neg h19 hf
    refine v_aload_n C dX9_load_127 rfl rfl ?_
    refine gf_X9_27 C dX9_load_128 ?_
    refine v_iconst (v := 0) C dX9_load_131 (by decide) ?_
    refine v_aload_n C dX9_load_132 rfl rfl ?_
    refine gf_X9_7 C dX9_load_133 ?_
    refine v_iconst (v := 0) C dX9_load_136 (by decide) ?_
    obtain ⟨r17, hc18, hf⟩ := bs_bind hf
    refine v_callSv (y := yX9_copies) (As := [.ref (ρ 14 5 0), .int (0 : Int32), .ref (ρ 14 1 0), .int (0 : Int32)]) (rest := []) C (cX9_copies_ok bsm_14_5 (fun _ _ _ => bsc_14_5) bsm_14_1 (fun _ _ _ => bsc_14_1) hc18) ml_X9_242 wzX9_copies dpX9_copies ⟨Nat.le_of_ble_eq_true rfl, Nat.le_of_ble_eq_true rfl⟩ ⟨rfl, rfl⟩ ⟨Nat.le_of_ble_eq_true rfl, Nat.le_of_ble_eq_true rfl⟩ rfl (Nat.le_of_ble_eq_true rfl) dX9_load_137 ?_
    refine v_iconst (v := 0) C dX9_load_140 (by decide) ?_
    exact v_iret C hf dX9_load_141
set_option maxHeartbeats 4000000 in
set_option maxRecDepth 100000 in
theorem wX9_load_104 {p : Program} {l : Launch} {e : Env} {s : State} {m : MethodId} {args : Array Value} {below : List Frame} {meth : Method} {c : Code} {ρ : bsR} {cA : Nat → ClassId} {dC : Nat → ClassId} {dI : Nat → Nat → Nat} {Rz : va_W} {Ts : List Cond}   {z : (Int32 × bsX)} (C : bsCx p m c cX9_load 2 s args Ts RX9 ρ cA dC dI Rz meth (some .int)) (y1 : Int32) (X : bsX) (hf : fX9_load_104 y1 X = some z) : bsV p l e rmX9_load s m args below meth c 0 0 (MQ below (bsQi ρ cA dC dI Rz z s.heap.size) args s 0 0 (bsA ρ cA Rz s.heap.size)) ρ cA dC dI Rz 2 104 [(0, .ref (ρ 14 0 0))] [.int y1, .ref (ρ 14 0 0)] X := by
  rw [fX9_load_104] at hf
  refine pf_X9_23 C dX9_load_104 ?_
  refine v_aload_n C dX9_load_107 rfl rfl ?_
  refine v_aload_n C dX9_load_108 rfl rfl ?_
  refine gf_X9_166 C dX9_load_109 ?_
  refine v_if_eq (tgt := 119) C dX9_load_112 (by decide) (fun h1 => ?_) (fun h1 => ?_)
  · replace hf := bs_pos h1 hf
    refine v_iconst (v := 0) C dX9_load_119 (by decide) ?_
    refine v_sub [0] rfl ?_
    exact wX9_load_120   C  _ _  hf
  · replace hf := bs_neg h1 hf
    refine v_iconst (v := 1) C dX9_load_115 (by decide) ?_
    refine v_goto (tgt := 120) C dX9_load_116 (by decide) ?_
    refine v_sub [0] rfl ?_
    exact wX9_load_120   C  _ _  hf
set_option maxHeartbeats 4000000 in
set_option maxRecDepth 100000 in
theorem wX9_load_25 {p : Program} {l : Launch} {e : Env} {s : State} {m : MethodId} {args : Array Value} {below : List Frame} {meth : Method} {c : Code} {ρ : bsR} {cA : Nat → ClassId} {dC : Nat → ClassId} {dI : Nat → Nat → Nat} {Rz : va_W} {Ts : List Cond}   {z : (Int32 × bsX)} (C : bsCx p m c cX9_load 2 s args Ts RX9 ρ cA dC dI Rz meth (some .int)) (x1 : Int32) (y1 : Int32) (X : bsX) (hf : fX9_load_25 x1 y1 X = some z) : bsV p l e rmX9_load s m args below meth c 0 0 (MQ below (bsQi ρ cA dC dI Rz z s.heap.size) args s 0 0 (bsA ρ cA Rz s.heap.size)) ρ cA dC dI Rz 2 25 [(0, .ref (ρ 14 0 0)), (1, .int x1)] [.int y1, .ref (ρ 14 0 0)] X := by
  rw [fX9_load_25] at hf
  refine v_iconst (v := 1) C dX9_load_25 (by decide) ?_
  obtain ⟨r2, hc3, hf⟩ := bs_bind hf
  refine v_callVi (y := yX9_refuse) (As := [.int y1, .int (1 : Int32)]) (rest := []) C (cX9_refuse_ok  hc3) ml_X9_40 wyX9_refuse (bsm_X9) (bsc_X9) rfl dpX9_refuse ⟨Nat.le_of_ble_eq_true rfl, Nat.le_of_ble_eq_true rfl⟩ ⟨rfl, rfl⟩ ⟨Nat.le_of_ble_eq_true rfl, Nat.le_of_ble_eq_true rfl⟩ rfl (Nat.le_of_ble_eq_true rfl) dX9_load_26 ?_
  refine v_if_eq (tgt := 34) C dX9_load_29 (by decide) (fun h11 => ?_) (fun h11 => ?_)
  · replace hf := bs_pos h11 hf
    refine v_aload_n C dX9_load_34 rfl rfl ?_
    refine gf_X9_7 C dX9_load_35 ?_
    refine v_iconst (v := 0) C dX9_load_38 (by decide) ?_
    refine v_aload_n C dX9_load_39 rfl rfl ?_
    refine gf_X9_27 C dX9_load_40 ?_
    refine v_iconst (v := 0) C dX9_load_43 (by decide) ?_
    obtain ⟨r4, hc5, hf⟩ := bs_bind hf
    refine v_callSv (y := yX9_copies) (As := [.ref (ρ 14 1 0), .int (0 : Int32), .ref (ρ 14 5 0), .int (0 : Int32)]) (rest := []) C (cX9_copies_ok bsm_14_1 (fun _ _ _ => bsc_14_1) bsm_14_5 (fun _ _ _ => bsc_14_5) hc5) ml_X9_242 wzX9_copies dpX9_copies ⟨Nat.le_of_ble_eq_true rfl, Nat.le_of_ble_eq_true rfl⟩ ⟨rfl, rfl⟩ ⟨Nat.le_of_ble_eq_true rfl, Nat.le_of_ble_eq_true rfl⟩ rfl (Nat.le_of_ble_eq_true rfl) dX9_load_44 ?_
    refine v_aload_n C dX9_load_47 rfl rfl ?_
    refine v_iconst (v := 0) C dX9_load_48 (by decide) ?_
    refine pf_X9_136 C dX9_load_49 ?_
    refine v_aload_n C dX9_load_52 rfl rfl ?_
    refine v_iload_n C dX9_load_53 rfl rfl ?_
    refine pf_X9_142 C dX9_load_54 ?_
    refine v_aload_n C dX9_load_57 rfl rfl ?_
    refine v_iconst (v := 0) C dX9_load_58 (by decide) ?_
    refine pf_X9_145 C dX9_load_59 ?_
    refine v_aload_n C dX9_load_62 rfl rfl ?_
    refine v_iconst (v := 0) C dX9_load_63 (by decide) ?_
    refine pf_X9_166 C dX9_load_64 ?_
    refine v_aload_n C dX9_load_67 rfl rfl ?_
    refine v_iconst (v := -1) C dX9_load_68 (by decide) ?_
    refine pf_X9_169 C dX9_load_69 ?_
    refine v_aload_n C dX9_load_72 rfl rfl ?_
    obtain ⟨r6, hc7, hf⟩ := bs_bind hf
    refine v_callVv (y := yX9_token) (As := []) (rest := []) C (cX9_token_ok  hc7) ml_X9_175 wyX9_token (bsm_X9) (bsc_X9) rfl dpX9_token ⟨Nat.le_of_ble_eq_true rfl, Nat.le_of_ble_eq_true rfl⟩ ⟨rfl, rfl⟩ ⟨Nat.le_of_ble_eq_true rfl, Nat.le_of_ble_eq_true rfl⟩ rfl (Nat.le_of_ble_eq_true rfl) dX9_load_73 ?_
    refine v_aload_n C dX9_load_76 rfl rfl ?_
    obtain ⟨r8, hc9, hf⟩ := bs_bind hf
    refine v_callVv (y := yX9_reads) (As := []) (rest := []) C (cX9_reads_ok  hc9) ml_X9_246 wyX9_reads (bsm_X9) (bsc_X9) rfl dpX9_reads ⟨Nat.le_of_ble_eq_true rfl, Nat.le_of_ble_eq_true rfl⟩ ⟨rfl, rfl⟩ ⟨Nat.le_of_ble_eq_true rfl, Nat.le_of_ble_eq_true rfl⟩ rfl (Nat.le_of_ble_eq_true rfl) dX9_load_77 ?_
    refine v_aload_n C dX9_load_80 rfl rfl ?_
    refine v_aload_n C dX9_load_81 rfl rfl ?_
    refine gf_X9_166 C dX9_load_82 ?_
    refine pf_X9_139 C dX9_load_85 ?_
    refine v_aload_n C dX9_load_88 rfl rfl ?_
    refine v_aload_n C dX9_load_89 rfl rfl ?_
    refine gf_X9_166 C dX9_load_90 ?_
    refine v_if_ne (tgt := 100) C dX9_load_93 (by decide) (fun h10 => ?_) (fun h10 => ?_)
    · replace hf := bs_neg h10 hf
      refine v_aload_n C dX9_load_100 rfl rfl ?_
      refine gf_X9_169 C dX9_load_101 ?_
      refine v_sub [0] rfl ?_
      exact wX9_load_104   C  _ _  hf
    · replace hf := bs_pos h10 hf
      refine v_iconst (v := -1) C dX9_load_96 (by decide) ?_
      refine v_goto (tgt := 104) C dX9_load_97 (by decide) ?_
      refine v_sub [0] rfl ?_
      exact wX9_load_104   C  _ _  hf
  · replace hf := bs_neg h11 hf
    refine v_iconst (v := 0) C dX9_load_32 (by decide) ?_
    exact v_iret C hf dX9_load_33
set_option maxHeartbeats 4000000 in
set_option maxRecDepth 100000 in
theorem cX9_load_ok {l : Launch} {ρ : bsR} {cA : Nat → ClassId} {dC : Nat → ClassId} {dI : Nat → Nat → Nat} {Rz : va_W}  {a1 : Int32} {X : bsX} {z : (Int32 × bsX)} (hf : fX9_load a1 X = some z) : bsMi l yX9_load cX9_load 2 (some .int) rmX9_load ρ cA dC dI Rz [.ref (ρ 14 0 0), .int a1] X z := by
  refine bsMi_of (by decide) (Nat.le_of_ble_eq_true rfl) (fun p e s m args below meth c C => ?_)
  have C : bsCx p m c cX9_load 2 s args (Cond.code yX9_load cX9_load 2 (some .int) :: bsG) RX9 ρ cA dC dI Rz meth (some .int) := C
  rw [fX9_load] at hf
  refine v_sub [0, 1] rfl ?_
  refine v_aload_n C dX9_load_0 rfl rfl ?_
  refine v_iconst (v := 0) C dX9_load_1 (by decide) ?_
  refine pf_X9_33 C dX9_load_2 ?_
  refine v_aload_n C dX9_load_5 rfl rfl ?_
  refine v_iload_n C dX9_load_6 rfl rfl ?_
  refine v_i2l C dX9_load_7 ?_
  refine v_lconst (v := (0 : Int64)) C dX9_load_8 (by decide) ?_
  refine v_aload_n C dX9_load_9 rfl rfl ?_
  refine gf_X9_136 C dX9_load_10 ?_
  refine v_i2l C dX9_load_13 ?_
  obtain ⟨r20, hc21, hf⟩ := bs_bind hf
  refine v_callSi (y := yX9_in) (As := [.long a1.toInt64, .long (0 : Int64), .long ((bsWr X 14 0 0 0 (0 : Int32)) 14 0 0 7).toInt64]) (rest := [.ref (ρ 14 0 0)]) C (cX9_in_ok  hc21) ml_X9_44 wzX9_in dpX9_in ⟨Nat.le_of_ble_eq_true rfl, Nat.le_of_ble_eq_true rfl⟩ ⟨rfl, rfl⟩ ⟨Nat.le_of_ble_eq_true rfl, Nat.le_of_ble_eq_true rfl⟩ rfl (Nat.le_of_ble_eq_true rfl) dX9_load_14 ?_
  refine v_if_ne (tgt := 24) C dX9_load_17 (by decide) (fun h22 => ?_) (fun h22 => ?_)
  · replace hf := bs_neg h22 hf
    refine v_iconst (v := 0) C dX9_load_24 (by decide) ?_
    refine v_sub [0, 1] rfl ?_
    exact wX9_load_25   C  _ _ _  hf
  · replace hf := bs_pos h22 hf
    refine v_iconst (v := 1) C dX9_load_20 (by decide) ?_
    refine v_goto (tgt := 25) C dX9_load_21 (by decide) ?_
    refine v_sub [0, 1] rfl ?_
    exact wX9_load_25   C  _ _ _  hf
/-! BootSlotsModel.bootable()I -/
def fX9_bootable_4 : Nat → Int32 → Int32 → bsX → Option (Int32 × bsX)
  | 0, _, _, _ => none
  | n + 1, x1, x2, X => if bsIn (0 : Int32) 160 then (if (X 14 1 0 (bsIx (0 : Int32))) ≤ x2 then (some (x1, X)) else ((fX9_canBoot  x2 X).bind fun r2 => (fX9_flag  r2.1 r2.2).bind fun r4 => fX9_bootable_4 n (x1 + r4.1) (x2 + (1 : Int32)) r4.2)) else none
def fX9_bootable (X : bsX) : Option (Int32 × bsX) := fX9_bootable_4   bsF (0 : Int32) (0 : Int32) X
abbrev rmX9_bootable : Room := { frames := 4, cells := 0, slots := 0, locals := 85 }
set_option maxHeartbeats 4000000 in
set_option maxRecDepth 100000 in
theorem wX9_bootable_4 {p : Program} {l : Launch} {e : Env} {s : State} {m : MethodId} {args : Array Value} {below : List Frame} {meth : Method} {c : Code} {ρ : bsR} {cA : Nat → ClassId} {dC : Nat → ClassId} {dI : Nat → Nat → Nat} {Rz : va_W} {Ts : List Cond}   {z : (Int32 × bsX)} (C : bsCx p m c cX9_bootable 3 s args Ts RX9 ρ cA dC dI Rz meth (some .int)) : ∀ (n : Nat) (x1 : Int32) (x2 : Int32) (X : bsX), fX9_bootable_4  n x1 x2 X = some z → bsV p l e rmX9_bootable s m args below meth c 0 0 (MQ below (bsQi ρ cA dC dI Rz z s.heap.size) args s 0 0 (bsA ρ cA Rz s.heap.size)) ρ cA dC dI Rz 3 4 [(0, .ref (ρ 14 0 0)), (1, .int x1), (2, .int x2)] [] X := by
  intro n
  induction n with
  | zero => intro x1 x2 X hf; exact (nomatch hf)
  | succ n ih =>
    intro x1 x2 X hf
    rw [fX9_bootable_4] at hf
    refine v_iload_n C dX9_bootable_4 rfl rfl ?_
    refine v_aload_n C dX9_bootable_5 rfl rfl ?_
    refine gf_X9_7 C dX9_bootable_6 ?_
    refine v_iconst (v := 0) C dX9_bootable_9 (by decide) ?_
    obtain ⟨hi1, hf⟩ := bs_if hf
    refine v_iald (n := 160) C bsm_14_1 bsc_14_1 hi1 dX9_bootable_10 ?_
    refine v_icmp_ge (tgt := 31) C dX9_bootable_11 (by decide) (fun h6 => ?_) (fun h6 => ?_)
    · replace hf := bs_pos h6 hf
      refine v_iload_n C dX9_bootable_31 rfl rfl ?_
      exact v_iret C hf dX9_bootable_32
    · replace hf := bs_neg h6 hf
      refine v_iload_n C dX9_bootable_14 rfl rfl ?_
      refine v_aload_n C dX9_bootable_15 rfl rfl ?_
      refine v_iload_n C dX9_bootable_16 rfl rfl ?_
      obtain ⟨r2, hc3, hf⟩ := bs_bind hf
      refine v_callVi (y := yX9_canBoot) (As := [.int x2]) (rest := [.int x1]) C (cX9_canBoot_ok  hc3) ml_X9_70 wyX9_canBoot (bsm_X9) (bsc_X9) rfl dpX9_canBoot ⟨Nat.le_of_ble_eq_true rfl, Nat.le_of_ble_eq_true rfl⟩ ⟨rfl, rfl⟩ ⟨Nat.le_of_ble_eq_true rfl, Nat.le_of_ble_eq_true rfl⟩ rfl (Nat.le_of_ble_eq_true rfl) dX9_bootable_17 ?_
      obtain ⟨r4, hc5, hf⟩ := bs_bind hf
      refine v_callSi (y := yX9_flag) (As := [.int r2.1]) (rest := [.int x1]) C (cX9_flag_ok  hc5) ml_X9_113 wzX9_flag dpX9_flag ⟨Nat.le_of_ble_eq_true rfl, Nat.le_of_ble_eq_true rfl⟩ ⟨rfl, rfl⟩ ⟨Nat.le_of_ble_eq_true rfl, Nat.le_of_ble_eq_true rfl⟩ rfl (Nat.le_of_ble_eq_true rfl) dX9_bootable_20 ?_
      refine v_iadd C dX9_bootable_23 ?_
      refine v_istore_n (lv' := [(1, .int (x1 + r4.1)), (0, .ref (ρ 14 0 0)), (2, .int x2)]) C dX9_bootable_24 rfl (by decide) rfl ?_
      refine v_iinc (k0 := 2) (v := (x2 + (1 : Int32))) (lv' := [(2, .int (x2 + (1 : Int32))), (1, .int (x1 + r4.1)), (0, .ref (ρ 14 0 0))]) C dX9_bootable_25 rfl rfl (by decide) rfl ?_
      refine v_goto (tgt := 4) C dX9_bootable_28 (by decide) ?_
      refine v_sub [2, 1, 0] rfl ?_
      exact ih _ _ _  hf
set_option maxHeartbeats 4000000 in
set_option maxRecDepth 100000 in
theorem cX9_bootable_ok {l : Launch} {ρ : bsR} {cA : Nat → ClassId} {dC : Nat → ClassId} {dI : Nat → Nat → Nat} {Rz : va_W}  {X : bsX} {z : (Int32 × bsX)} (hf : fX9_bootable  X = some z) : bsMi l yX9_bootable cX9_bootable 3 (some .int) rmX9_bootable ρ cA dC dI Rz [.ref (ρ 14 0 0)] X z := by
  refine bsMi_of (by decide) (Nat.le_of_ble_eq_true rfl) (fun p e s m args below meth c C => ?_)
  have C : bsCx p m c cX9_bootable 3 s args (Cond.code yX9_bootable cX9_bootable 3 (some .int) :: bsG) RX9 ρ cA dC dI Rz meth (some .int) := C
  rw [fX9_bootable] at hf
  refine v_sub [0] rfl ?_
  refine v_iconst (v := 0) C dX9_bootable_0 (by decide) ?_
  refine v_istore_n (lv' := [(1, .int (0 : Int32)), (0, .ref (ρ 14 0 0))]) C dX9_bootable_1 rfl (by decide) rfl ?_
  refine v_iconst (v := 0) C dX9_bootable_2 (by decide) ?_
  refine v_istore_n (lv' := [(2, .int (0 : Int32)), (1, .int (0 : Int32)), (0, .ref (ρ 14 0 0))]) C dX9_bootable_3 rfl (by decide) rfl ?_
  refine v_sub [2, 1, 0] rfl ?_
  exact wX9_bootable_4   C  bsF _ _ _  hf
/-! BootSlotsModel.sumOf(I)I -/
def fX9_sumOf_4 : Nat → Int32 → Int32 → Int32 → bsX → Option (Int32 × bsX)
  | 0, _, _, _, _ => none
  | n + 1, x1, x2, x3, X => if bsIn (0 : Int32) 160 then (if (X 14 1 0 (bsIx (0 : Int32))) ≤ x3 then (some (x2, X)) else ((fX9_of  x3 x1 X).bind fun r2 => fX9_sumOf_4 n x1 (x2 + r2.1) (x3 + (1 : Int32)) r2.2)) else none
def fX9_sumOf (a1 : Int32) (X : bsX) : Option (Int32 × bsX) := fX9_sumOf_4   bsF a1 (0 : Int32) (0 : Int32) X
abbrev rmX9_sumOf : Room := { frames := 1, cells := 0, slots := 0, locals := 22 }
set_option maxHeartbeats 4000000 in
set_option maxRecDepth 100000 in
theorem wX9_sumOf_4 {p : Program} {l : Launch} {e : Env} {s : State} {m : MethodId} {args : Array Value} {below : List Frame} {meth : Method} {c : Code} {ρ : bsR} {cA : Nat → ClassId} {dC : Nat → ClassId} {dI : Nat → Nat → Nat} {Rz : va_W} {Ts : List Cond}   {z : (Int32 × bsX)} (C : bsCx p m c cX9_sumOf 4 s args Ts RX9 ρ cA dC dI Rz meth (some .int)) : ∀ (n : Nat) (x1 : Int32) (x2 : Int32) (x3 : Int32) (X : bsX), fX9_sumOf_4  n x1 x2 x3 X = some z → bsV p l e rmX9_sumOf s m args below meth c 0 0 (MQ below (bsQi ρ cA dC dI Rz z s.heap.size) args s 0 0 (bsA ρ cA Rz s.heap.size)) ρ cA dC dI Rz 4 4 [(0, .ref (ρ 14 0 0)), (1, .int x1), (2, .int x2), (3, .int x3)] [] X := by
  intro n
  induction n with
  | zero => intro x1 x2 x3 X hf; exact (nomatch hf)
  | succ n ih =>
    intro x1 x2 x3 X hf
    rw [fX9_sumOf_4] at hf
    refine v_iload_n C dX9_sumOf_4 rfl rfl ?_
    refine v_aload_n C dX9_sumOf_5 rfl rfl ?_
    refine gf_X9_7 C dX9_sumOf_6 ?_
    refine v_iconst (v := 0) C dX9_sumOf_9 (by decide) ?_
    obtain ⟨hi1, hf⟩ := bs_if hf
    refine v_iald (n := 160) C bsm_14_1 bsc_14_1 hi1 dX9_sumOf_10 ?_
    refine v_icmp_ge (tgt := 29) C dX9_sumOf_11 (by decide) (fun h4 => ?_) (fun h4 => ?_)
    · replace hf := bs_pos h4 hf
      refine v_iload_n C dX9_sumOf_29 rfl rfl ?_
      exact v_iret C hf dX9_sumOf_30
    · replace hf := bs_neg h4 hf
      refine v_iload_n C dX9_sumOf_14 rfl rfl ?_
      refine v_aload_n C dX9_sumOf_15 rfl rfl ?_
      refine v_iload_n C dX9_sumOf_16 rfl rfl ?_
      refine v_iload_n C dX9_sumOf_17 rfl rfl ?_
      obtain ⟨r2, hc3, hf⟩ := bs_bind hf
      refine v_callVi (y := yX9_of) (As := [.int x3, .int x1]) (rest := [.int x2]) C (cX9_of_ok  hc3) ml_X9_56 wyX9_of (bsm_X9) (bsc_X9) rfl dpX9_of ⟨Nat.le_of_ble_eq_true rfl, Nat.le_of_ble_eq_true rfl⟩ ⟨rfl, rfl⟩ ⟨Nat.le_of_ble_eq_true rfl, Nat.le_of_ble_eq_true rfl⟩ rfl (Nat.le_of_ble_eq_true rfl) dX9_sumOf_18 ?_
      refine v_iadd C dX9_sumOf_21 ?_
      refine v_istore_n (lv' := [(2, .int (x2 + r2.1)), (0, .ref (ρ 14 0 0)), (1, .int x1), (3, .int x3)]) C dX9_sumOf_22 rfl (by decide) rfl ?_
      refine v_iinc (k0 := 3) (v := (x3 + (1 : Int32))) (lv' := [(3, .int (x3 + (1 : Int32))), (2, .int (x2 + r2.1)), (0, .ref (ρ 14 0 0)), (1, .int x1)]) C dX9_sumOf_23 rfl rfl (by decide) rfl ?_
      refine v_goto (tgt := 4) C dX9_sumOf_26 (by decide) ?_
      refine v_sub [2, 3, 1, 0] rfl ?_
      exact ih _ _ _ _  hf
set_option maxHeartbeats 4000000 in
set_option maxRecDepth 100000 in
theorem cX9_sumOf_ok {l : Launch} {ρ : bsR} {cA : Nat → ClassId} {dC : Nat → ClassId} {dI : Nat → Nat → Nat} {Rz : va_W}  {a1 : Int32} {X : bsX} {z : (Int32 × bsX)} (hf : fX9_sumOf a1 X = some z) : bsMi l yX9_sumOf cX9_sumOf 4 (some .int) rmX9_sumOf ρ cA dC dI Rz [.ref (ρ 14 0 0), .int a1] X z := by
  refine bsMi_of (by decide) (Nat.le_of_ble_eq_true rfl) (fun p e s m args below meth c C => ?_)
  have C : bsCx p m c cX9_sumOf 4 s args (Cond.code yX9_sumOf cX9_sumOf 4 (some .int) :: bsG) RX9 ρ cA dC dI Rz meth (some .int) := C
  rw [fX9_sumOf] at hf
  refine v_sub [0, 1] rfl ?_
  refine v_iconst (v := 0) C dX9_sumOf_0 (by decide) ?_
  refine v_istore_n (lv' := [(2, .int (0 : Int32)), (0, .ref (ρ 14 0 0)), (1, .int a1)]) C dX9_sumOf_1 rfl (by decide) rfl ?_
  refine v_iconst (v := 0) C dX9_sumOf_2 (by decide) ?_
  refine v_istore_n (lv' := [(3, .int (0 : Int32)), (2, .int (0 : Int32)), (0, .ref (ρ 14 0 0)), (1, .int a1)]) C dX9_sumOf_3 rfl (by decide) rfl ?_
  refine v_sub [2, 3, 1, 0] rfl ?_
  exact wX9_sumOf_4   C  bsF _ _ _ _  hf
/-! BootSlotsModel.count(I)I -/
def fX9_count_25 (x1 : Int32) (y1 : Int32) (X : bsX) : Option (Int32 × bsX) := (fX9_refuse  y1 (2 : Int32) X).bind fun r1 => if r1.1 = 0 then (if x1.toInt < 9 ∨ 11 < x1.toInt then (if bsIn x1 160 then (some ((r1.2 14 1 0 (bsIx x1)), r1.2)) else none) else (if x1 = 9 then ((fX9_bootable   r1.2).bind fun r5 => some (r5.1, r5.2)) else (if x1 = 10 then ((fX9_sumOf  (3 : Int32) r1.2).bind fun r7 => some (r7.1, r7.2)) else (if x1 = 11 then ((fX9_sumOf  (2 : Int32) r1.2).bind fun r9 => some (r9.1, r9.2)) else (none))))) else (some ((0 : Int32), r1.2))
def fX9_count (a1 : Int32) (X : bsX) : Option (Int32 × bsX) := (fX9_notLoaded   X).bind fun r15 => if r15.1 = 0 then ((fX9_in  a1.toInt64 (0 : Int64) (19 : Int64) r15.2).bind fun r17 => if r17.1 = 0 then (fX9_count_25   a1 (1 : Int32) r17.2) else (fX9_count_25   a1 (0 : Int32) r17.2)) else (some ((0 : Int32), r15.2))
abbrev rmX9_count : Room := { frames := 5, cells := 0, slots := 0, locals := 107 }
set_option maxHeartbeats 4000000 in
set_option maxRecDepth 100000 in
theorem wX9_count_25 {p : Program} {l : Launch} {e : Env} {s : State} {m : MethodId} {args : Array Value} {below : List Frame} {meth : Method} {c : Code} {ρ : bsR} {cA : Nat → ClassId} {dC : Nat → ClassId} {dI : Nat → Nat → Nat} {Rz : va_W} {Ts : List Cond}   {z : (Int32 × bsX)} (C : bsCx p m c cX9_count 2 s args Ts RX9 ρ cA dC dI Rz meth (some .int)) (x1 : Int32) (y1 : Int32) (X : bsX) (hf : fX9_count_25 x1 y1 X = some z) : bsV p l e rmX9_count s m args below meth c 0 0 (MQ below (bsQi ρ cA dC dI Rz z s.heap.size) args s 0 0 (bsA ρ cA Rz s.heap.size)) ρ cA dC dI Rz 2 25 [(0, .ref (ρ 14 0 0)), (1, .int x1)] [.int y1, .ref (ρ 14 0 0)] X := by
  rw [fX9_count_25] at hf
  refine v_iconst (v := 2) C dX9_count_25 (by decide) ?_
  obtain ⟨r1, hc2, hf⟩ := bs_bind hf
  refine v_callVi (y := yX9_refuse) (As := [.int y1, .int (2 : Int32)]) (rest := []) C (cX9_refuse_ok  hc2) ml_X9_40 wyX9_refuse (bsm_X9) (bsc_X9) rfl dpX9_refuse ⟨Nat.le_of_ble_eq_true rfl, Nat.le_of_ble_eq_true rfl⟩ ⟨rfl, rfl⟩ ⟨Nat.le_of_ble_eq_true rfl, Nat.le_of_ble_eq_true rfl⟩ rfl (Nat.le_of_ble_eq_true rfl) dX9_count_26 ?_
  refine v_if_eq (tgt := 34) C dX9_count_29 (by decide) (fun h14 => ?_) (fun h14 => ?_)
  · replace hf := bs_pos h14 hf
    refine v_iload_n C dX9_count_34 rfl rfl ?_
    by_cases h4 : x1.toInt < 9 ∨ 11 < x1.toInt
    · replace hf := bs_pos h4 hf
      refine v_tabOut (tgt := 77) C dX9_count_35 h4 (by decide) ?_
      refine v_aload_n C dX9_count_77 rfl rfl ?_
      refine gf_X9_7 C dX9_count_78 ?_
      refine v_iload_n C dX9_count_81 rfl rfl ?_
      obtain ⟨hi3, hf⟩ := bs_if hf
      refine v_iald (n := 160) C bsm_14_1 bsc_14_1 hi3 dX9_count_82 ?_
      exact v_iret C hf dX9_count_83
    replace hf := bs_neg h4 hf
    by_cases h11 : x1 = 9
    · replace hf := bs_pos h11 hf
      refine v_tabIn (off := 25) (tgt := 60) C 9 dX9_count_35 h11 (by decide) (by decide) rfl (by decide) ?_
      refine v_aload_n C dX9_count_60 rfl rfl ?_
      obtain ⟨r5, hc6, hf⟩ := bs_bind hf
      refine v_callVi (y := yX9_bootable) (As := []) (rest := []) C (cX9_bootable_ok  hc6) ml_X9_254 wyX9_bootable (bsm_X9) (bsc_X9) rfl dpX9_bootable ⟨Nat.le_of_ble_eq_true rfl, Nat.le_of_ble_eq_true rfl⟩ ⟨rfl, rfl⟩ ⟨Nat.le_of_ble_eq_true rfl, Nat.le_of_ble_eq_true rfl⟩ rfl (Nat.le_of_ble_eq_true rfl) dX9_count_61 ?_
      exact v_iret C hf dX9_count_64
    replace hf := bs_neg h11 hf
    by_cases h12 : x1 = 10
    · replace hf := bs_pos h12 hf
      refine v_tabIn (off := 30) (tgt := 65) C 10 dX9_count_35 h12 (by decide) (by decide) rfl (by decide) ?_
      refine v_aload_n C dX9_count_65 rfl rfl ?_
      refine v_iconst (v := 3) C dX9_count_66 (by decide) ?_
      obtain ⟨r7, hc8, hf⟩ := bs_bind hf
      refine v_callVi (y := yX9_sumOf) (As := [.int (3 : Int32)]) (rest := []) C (cX9_sumOf_ok  hc8) ml_X9_257 wyX9_sumOf (bsm_X9) (bsc_X9) rfl dpX9_sumOf ⟨Nat.le_of_ble_eq_true rfl, Nat.le_of_ble_eq_true rfl⟩ ⟨rfl, rfl⟩ ⟨Nat.le_of_ble_eq_true rfl, Nat.le_of_ble_eq_true rfl⟩ rfl (Nat.le_of_ble_eq_true rfl) dX9_count_67 ?_
      exact v_iret C hf dX9_count_70
    replace hf := bs_neg h12 hf
    by_cases h13 : x1 = 11
    · replace hf := bs_pos h13 hf
      refine v_tabIn (off := 36) (tgt := 71) C 11 dX9_count_35 h13 (by decide) (by decide) rfl (by decide) ?_
      refine v_aload_n C dX9_count_71 rfl rfl ?_
      refine v_iconst (v := 2) C dX9_count_72 (by decide) ?_
      obtain ⟨r9, hc10, hf⟩ := bs_bind hf
      refine v_callVi (y := yX9_sumOf) (As := [.int (2 : Int32)]) (rest := []) C (cX9_sumOf_ok  hc10) ml_X9_257 wyX9_sumOf (bsm_X9) (bsc_X9) rfl dpX9_sumOf ⟨Nat.le_of_ble_eq_true rfl, Nat.le_of_ble_eq_true rfl⟩ ⟨rfl, rfl⟩ ⟨Nat.le_of_ble_eq_true rfl, Nat.le_of_ble_eq_true rfl⟩ rfl (Nat.le_of_ble_eq_true rfl) dX9_count_73 ?_
      exact v_iret C hf dX9_count_76
    replace hf := bs_neg h13 hf
    exact (nomatch hf)
  · replace hf := bs_neg h14 hf
    refine v_iconst (v := 0) C dX9_count_32 (by decide) ?_
    exact v_iret C hf dX9_count_33
set_option maxHeartbeats 4000000 in
set_option maxRecDepth 100000 in
theorem cX9_count_ok {l : Launch} {ρ : bsR} {cA : Nat → ClassId} {dC : Nat → ClassId} {dI : Nat → Nat → Nat} {Rz : va_W}  {a1 : Int32} {X : bsX} {z : (Int32 × bsX)} (hf : fX9_count a1 X = some z) : bsMi l yX9_count cX9_count 2 (some .int) rmX9_count ρ cA dC dI Rz [.ref (ρ 14 0 0), .int a1] X z := by
  refine bsMi_of (by decide) (Nat.le_of_ble_eq_true rfl) (fun p e s m args below meth c C => ?_)
  have C : bsCx p m c cX9_count 2 s args (Cond.code yX9_count cX9_count 2 (some .int) :: bsG) RX9 ρ cA dC dI Rz meth (some .int) := C
  rw [fX9_count] at hf
  refine v_sub [0, 1] rfl ?_
  refine v_aload_n C dX9_count_0 rfl rfl ?_
  obtain ⟨r15, hc16, hf⟩ := bs_bind hf
  refine v_callVi (y := yX9_notLoaded) (As := []) (rest := []) C (cX9_notLoaded_ok  hc16) ml_X9_48 wyX9_notLoaded (bsm_X9) (bsc_X9) rfl dpX9_notLoaded ⟨Nat.le_of_ble_eq_true rfl, Nat.le_of_ble_eq_true rfl⟩ ⟨rfl, rfl⟩ ⟨Nat.le_of_ble_eq_true rfl, Nat.le_of_ble_eq_true rfl⟩ rfl (Nat.le_of_ble_eq_true rfl) dX9_count_1 ?_
  refine v_if_ne (tgt := 32) C dX9_count_4 (by decide) (fun h20 => ?_) (fun h20 => ?_)
  · replace hf := bs_neg h20 hf
    refine v_iconst (v := 0) C dX9_count_32 (by decide) ?_
    exact v_iret C hf dX9_count_33
  · replace hf := bs_pos h20 hf
    refine v_aload_n C dX9_count_7 rfl rfl ?_
    refine v_iload_n C dX9_count_8 rfl rfl ?_
    refine v_i2l C dX9_count_9 ?_
    refine v_lconst (v := (0 : Int64)) C dX9_count_10 (by decide) ?_
    refine v_ldc2 (v := (19 : Int64)) C (bsG_in 1633 (by decide +kernel) rfl) dX9_count_11 ?_
    obtain ⟨r17, hc18, hf⟩ := bs_bind hf
    refine v_callSi (y := yX9_in) (As := [.long a1.toInt64, .long (0 : Int64), .long (19 : Int64)]) (rest := [.ref (ρ 14 0 0)]) C (cX9_in_ok  hc18) ml_X9_44 wzX9_in dpX9_in ⟨Nat.le_of_ble_eq_true rfl, Nat.le_of_ble_eq_true rfl⟩ ⟨rfl, rfl⟩ ⟨Nat.le_of_ble_eq_true rfl, Nat.le_of_ble_eq_true rfl⟩ rfl (Nat.le_of_ble_eq_true rfl) dX9_count_14 ?_
    refine v_if_ne (tgt := 24) C dX9_count_17 (by decide) (fun h19 => ?_) (fun h19 => ?_)
    · replace hf := bs_neg h19 hf
      refine v_iconst (v := 0) C dX9_count_24 (by decide) ?_
      refine v_sub [0, 1] rfl ?_
      exact wX9_count_25   C  _ _ _  hf
    · replace hf := bs_pos h19 hf
      refine v_iconst (v := 1) C dX9_count_20 (by decide) ?_
      refine v_goto (tgt := 25) C dX9_count_21 (by decide) ?_
      refine v_sub [0, 1] rfl ?_
      exact wX9_count_25   C  _ _ _  hf
/-! BootSlotsModel.slot(II)I -/
def fX9_slot_63 (y1 : Int32) (y2 : Int32) (X : bsX) : Option (Int32 × bsX) := (fX9_of  y1 y2 X).bind fun r10 => some (r10.1, r10.2)
def fX9_slot_26 (x1 : Int32) (x2 : Int32) (y1 : Int32) (X : bsX) : Option (Int32 × bsX) := (fX9_refuse  y1 (3 : Int32) X).bind fun r1 => if r1.1 = 0 then (if x2 = (5 : Int32) then ((fX9_canBoot  x1 r1.2).bind fun r4 => (fX9_flag  r4.1 r4.2).bind fun r6 => some (r6.1, r6.2)) else (if (5 : Int32) ≤ x2 then (fX9_slot_63   x1 (x2 - (1 : Int32)) r1.2) else (fX9_slot_63   x1 x2 r1.2))) else (some ((0 : Int32), r1.2))
def fX9_slot (a1 : Int32) (a2 : Int32) (X : bsX) : Option (Int32 × bsX) := (fX9_noSlot  a1 X).bind fun r12 => if r12.1 = 0 then ((fX9_in  a2.toInt64 (0 : Int64) (8 : Int64) r12.2).bind fun r14 => if r14.1 = 0 then (fX9_slot_26   a1 a2 (1 : Int32) r14.2) else (fX9_slot_26   a1 a2 (0 : Int32) r14.2)) else (some ((0 : Int32), r12.2))
abbrev rmX9_slot : Room := { frames := 4, cells := 0, slots := 0, locals := 85 }
set_option maxHeartbeats 4000000 in
set_option maxRecDepth 100000 in
theorem wX9_slot_63 {p : Program} {l : Launch} {e : Env} {s : State} {m : MethodId} {args : Array Value} {below : List Frame} {meth : Method} {c : Code} {ρ : bsR} {cA : Nat → ClassId} {dC : Nat → ClassId} {dI : Nat → Nat → Nat} {Rz : va_W} {Ts : List Cond}   {z : (Int32 × bsX)} (C : bsCx p m c cX9_slot 3 s args Ts RX9 ρ cA dC dI Rz meth (some .int)) (y1 : Int32) (y2 : Int32) (X : bsX) (hf : fX9_slot_63 y1 y2 X = some z) : bsV p l e rmX9_slot s m args below meth c 0 0 (MQ below (bsQi ρ cA dC dI Rz z s.heap.size) args s 0 0 (bsA ρ cA Rz s.heap.size)) ρ cA dC dI Rz 3 63 [] [.int y2, .int y1, .ref (ρ 14 0 0)] X := by
  rw [fX9_slot_63] at hf
  obtain ⟨r10, hc11, hf⟩ := bs_bind hf
  refine v_callVi (y := yX9_of) (As := [.int y1, .int y2]) (rest := []) C (cX9_of_ok  hc11) ml_X9_56 wyX9_of (bsm_X9) (bsc_X9) rfl dpX9_of ⟨Nat.le_of_ble_eq_true rfl, Nat.le_of_ble_eq_true rfl⟩ ⟨rfl, rfl⟩ ⟨Nat.le_of_ble_eq_true rfl, Nat.le_of_ble_eq_true rfl⟩ rfl (Nat.le_of_ble_eq_true rfl) dX9_slot_63 ?_
  exact v_iret C hf dX9_slot_66
set_option maxHeartbeats 4000000 in
set_option maxRecDepth 100000 in
theorem wX9_slot_26 {p : Program} {l : Launch} {e : Env} {s : State} {m : MethodId} {args : Array Value} {below : List Frame} {meth : Method} {c : Code} {ρ : bsR} {cA : Nat → ClassId} {dC : Nat → ClassId} {dI : Nat → Nat → Nat} {Rz : va_W} {Ts : List Cond}   {z : (Int32 × bsX)} (C : bsCx p m c cX9_slot 3 s args Ts RX9 ρ cA dC dI Rz meth (some .int)) (x1 : Int32) (x2 : Int32) (y1 : Int32) (X : bsX) (hf : fX9_slot_26 x1 x2 y1 X = some z) : bsV p l e rmX9_slot s m args below meth c 0 0 (MQ below (bsQi ρ cA dC dI Rz z s.heap.size) args s 0 0 (bsA ρ cA Rz s.heap.size)) ρ cA dC dI Rz 3 26 [(0, .ref (ρ 14 0 0)), (1, .int x1), (2, .int x2)] [.int y1, .ref (ρ 14 0 0)] X := by
  rw [fX9_slot_26] at hf
  refine v_iconst (v := 3) C dX9_slot_26 (by decide) ?_
  obtain ⟨r1, hc2, hf⟩ := bs_bind hf
  refine v_callVi (y := yX9_refuse) (As := [.int y1, .int (3 : Int32)]) (rest := []) C (cX9_refuse_ok  hc2) ml_X9_40 wyX9_refuse (bsm_X9) (bsc_X9) rfl dpX9_refuse ⟨Nat.le_of_ble_eq_true rfl, Nat.le_of_ble_eq_true rfl⟩ ⟨rfl, rfl⟩ ⟨Nat.le_of_ble_eq_true rfl, Nat.le_of_ble_eq_true rfl⟩ rfl (Nat.le_of_ble_eq_true rfl) dX9_slot_27 ?_
  refine v_if_eq (tgt := 35) C dX9_slot_30 (by decide) (fun h9 => ?_) (fun h9 => ?_)
  · replace hf := bs_pos h9 hf
    refine v_iload_n C dX9_slot_35 rfl rfl ?_
    refine v_iconst (v := 5) C dX9_slot_36 (by decide) ?_
    refine v_icmp_ne (tgt := 49) C dX9_slot_37 (by decide) (fun h8 => ?_) (fun h8 => ?_)
    · replace hf := bs_neg h8 hf
      refine v_aload_n C dX9_slot_49 rfl rfl ?_
      refine v_iload_n C dX9_slot_50 rfl rfl ?_
      refine v_iload_n C dX9_slot_51 rfl rfl ?_
      refine v_iconst (v := 5) C dX9_slot_52 (by decide) ?_
      refine v_icmp_ge (tgt := 60) C dX9_slot_53 (by decide) (fun h3 => ?_) (fun h3 => ?_)
      · replace hf := bs_pos h3 hf
        refine v_iload_n C dX9_slot_60 rfl rfl ?_
        refine v_iconst (v := 1) C dX9_slot_61 (by decide) ?_
        refine v_isub C dX9_slot_62 ?_
        refine v_sub [] rfl ?_
        exact wX9_slot_63   C  _ _ _  hf
      · replace hf := bs_neg h3 hf
        refine v_iload_n C dX9_slot_56 rfl rfl ?_
        refine v_goto (tgt := 63) C dX9_slot_57 (by decide) ?_
        refine v_sub [] rfl ?_
        exact wX9_slot_63   C  _ _ _  hf
    · replace hf := bs_pos h8 hf
      refine v_aload_n C dX9_slot_40 rfl rfl ?_
      refine v_iload_n C dX9_slot_41 rfl rfl ?_
      obtain ⟨r4, hc5, hf⟩ := bs_bind hf
      refine v_callVi (y := yX9_canBoot) (As := [.int x1]) (rest := []) C (cX9_canBoot_ok  hc5) ml_X9_70 wyX9_canBoot (bsm_X9) (bsc_X9) rfl dpX9_canBoot ⟨Nat.le_of_ble_eq_true rfl, Nat.le_of_ble_eq_true rfl⟩ ⟨rfl, rfl⟩ ⟨Nat.le_of_ble_eq_true rfl, Nat.le_of_ble_eq_true rfl⟩ rfl (Nat.le_of_ble_eq_true rfl) dX9_slot_42 ?_
      obtain ⟨r6, hc7, hf⟩ := bs_bind hf
      refine v_callSi (y := yX9_flag) (As := [.int r4.1]) (rest := []) C (cX9_flag_ok  hc7) ml_X9_113 wzX9_flag dpX9_flag ⟨Nat.le_of_ble_eq_true rfl, Nat.le_of_ble_eq_true rfl⟩ ⟨rfl, rfl⟩ ⟨Nat.le_of_ble_eq_true rfl, Nat.le_of_ble_eq_true rfl⟩ rfl (Nat.le_of_ble_eq_true rfl) dX9_slot_45 ?_
      exact v_iret C hf dX9_slot_48
  · replace hf := bs_neg h9 hf
    refine v_iconst (v := 0) C dX9_slot_33 (by decide) ?_
    exact v_iret C hf dX9_slot_34
set_option maxHeartbeats 4000000 in
set_option maxRecDepth 100000 in
theorem cX9_slot_ok {l : Launch} {ρ : bsR} {cA : Nat → ClassId} {dC : Nat → ClassId} {dI : Nat → Nat → Nat} {Rz : va_W}  {a1 : Int32} {a2 : Int32} {X : bsX} {z : (Int32 × bsX)} (hf : fX9_slot a1 a2 X = some z) : bsMi l yX9_slot cX9_slot 3 (some .int) rmX9_slot ρ cA dC dI Rz [.ref (ρ 14 0 0), .int a1, .int a2] X z := by
  refine bsMi_of (by decide) (Nat.le_of_ble_eq_true rfl) (fun p e s m args below meth c C => ?_)
  have C : bsCx p m c cX9_slot 3 s args (Cond.code yX9_slot cX9_slot 3 (some .int) :: bsG) RX9 ρ cA dC dI Rz meth (some .int) := C
  rw [fX9_slot] at hf
  refine v_sub [0, 1, 2] rfl ?_
  refine v_aload_n C dX9_slot_0 rfl rfl ?_
  refine v_iload_n C dX9_slot_1 rfl rfl ?_
  obtain ⟨r12, hc13, hf⟩ := bs_bind hf
  refine v_callVi (y := yX9_noSlot) (As := [.int a1]) (rest := []) C (cX9_noSlot_ok  hc13) ml_X9_260 wyX9_noSlot (bsm_X9) (bsc_X9) rfl dpX9_noSlot ⟨Nat.le_of_ble_eq_true rfl, Nat.le_of_ble_eq_true rfl⟩ ⟨rfl, rfl⟩ ⟨Nat.le_of_ble_eq_true rfl, Nat.le_of_ble_eq_true rfl⟩ rfl (Nat.le_of_ble_eq_true rfl) dX9_slot_2 ?_
  refine v_if_ne (tgt := 33) C dX9_slot_5 (by decide) (fun h17 => ?_) (fun h17 => ?_)
  · replace hf := bs_neg h17 hf
    refine v_iconst (v := 0) C dX9_slot_33 (by decide) ?_
    exact v_iret C hf dX9_slot_34
  · replace hf := bs_pos h17 hf
    refine v_aload_n C dX9_slot_8 rfl rfl ?_
    refine v_iload_n C dX9_slot_9 rfl rfl ?_
    refine v_i2l C dX9_slot_10 ?_
    refine v_lconst (v := (0 : Int64)) C dX9_slot_11 (by decide) ?_
    refine v_ldc2 (v := (8 : Int64)) C (bsG_in 1666 (by decide +kernel) rfl) dX9_slot_12 ?_
    obtain ⟨r14, hc15, hf⟩ := bs_bind hf
    refine v_callSi (y := yX9_in) (As := [.long a2.toInt64, .long (0 : Int64), .long (8 : Int64)]) (rest := [.ref (ρ 14 0 0)]) C (cX9_in_ok  hc15) ml_X9_44 wzX9_in dpX9_in ⟨Nat.le_of_ble_eq_true rfl, Nat.le_of_ble_eq_true rfl⟩ ⟨rfl, rfl⟩ ⟨Nat.le_of_ble_eq_true rfl, Nat.le_of_ble_eq_true rfl⟩ rfl (Nat.le_of_ble_eq_true rfl) dX9_slot_15 ?_
    refine v_if_ne (tgt := 25) C dX9_slot_18 (by decide) (fun h16 => ?_) (fun h16 => ?_)
    · replace hf := bs_neg h16 hf
      refine v_iconst (v := 0) C dX9_slot_25 (by decide) ?_
      refine v_sub [0, 1, 2] rfl ?_
      exact wX9_slot_26   C  _ _ _ _  hf
    · replace hf := bs_pos h16 hf
      refine v_iconst (v := 1) C dX9_slot_21 (by decide) ?_
      refine v_goto (tgt := 26) C dX9_slot_22 (by decide) ?_
      refine v_sub [0, 1, 2] rfl ?_
      exact wX9_slot_26   C  _ _ _ _  hf
/-! BootSlotsModel.image(II)I -/
def fX9_image_26 (x1 : Int32) (x2 : Int32) (y1 : Int32) (X : bsX) : Option (Int32 × bsX) := (fX9_refuse  y1 (3 : Int32) X).bind fun r1 => if r1.1 = 0 then ((fX9_has  x1 r1.2).bind fun r3 => if r3.1 = 0 then (some ((-1 : Int32), r3.2)) else ((fX9_of  x1 ((8 : Int32) + x2) r3.2).bind fun r5 => some (r5.1, r5.2))) else (some ((0 : Int32), r1.2))
def fX9_image (a1 : Int32) (a2 : Int32) (X : bsX) : Option (Int32 × bsX) := (fX9_noSlot  a1 X).bind fun r9 => if r9.1 = 0 then ((fX9_in  a2.toInt64 (0 : Int64) (4 : Int64) r9.2).bind fun r11 => if r11.1 = 0 then (fX9_image_26   a1 a2 (1 : Int32) r11.2) else (fX9_image_26   a1 a2 (0 : Int32) r11.2)) else (some ((0 : Int32), r9.2))
abbrev rmX9_image : Room := { frames := 3, cells := 0, slots := 0, locals := 67 }
set_option maxHeartbeats 4000000 in
set_option maxRecDepth 100000 in
theorem wX9_image_26 {p : Program} {l : Launch} {e : Env} {s : State} {m : MethodId} {args : Array Value} {below : List Frame} {meth : Method} {c : Code} {ρ : bsR} {cA : Nat → ClassId} {dC : Nat → ClassId} {dI : Nat → Nat → Nat} {Rz : va_W} {Ts : List Cond}   {z : (Int32 × bsX)} (C : bsCx p m c cX9_image 3 s args Ts RX9 ρ cA dC dI Rz meth (some .int)) (x1 : Int32) (x2 : Int32) (y1 : Int32) (X : bsX) (hf : fX9_image_26 x1 x2 y1 X = some z) : bsV p l e rmX9_image s m args below meth c 0 0 (MQ below (bsQi ρ cA dC dI Rz z s.heap.size) args s 0 0 (bsA ρ cA Rz s.heap.size)) ρ cA dC dI Rz 3 26 [(0, .ref (ρ 14 0 0)), (1, .int x1), (2, .int x2)] [.int y1, .ref (ρ 14 0 0)] X := by
  rw [fX9_image_26] at hf
  refine v_iconst (v := 3) C dX9_image_26 (by decide) ?_
  obtain ⟨r1, hc2, hf⟩ := bs_bind hf
  refine v_callVi (y := yX9_refuse) (As := [.int y1, .int (3 : Int32)]) (rest := []) C (cX9_refuse_ok  hc2) ml_X9_40 wyX9_refuse (bsm_X9) (bsc_X9) rfl dpX9_refuse ⟨Nat.le_of_ble_eq_true rfl, Nat.le_of_ble_eq_true rfl⟩ ⟨rfl, rfl⟩ ⟨Nat.le_of_ble_eq_true rfl, Nat.le_of_ble_eq_true rfl⟩ rfl (Nat.le_of_ble_eq_true rfl) dX9_image_27 ?_
  refine v_if_eq (tgt := 35) C dX9_image_30 (by decide) (fun h8 => ?_) (fun h8 => ?_)
  · replace hf := bs_pos h8 hf
    refine v_aload_n C dX9_image_35 rfl rfl ?_
    refine v_iload_n C dX9_image_36 rfl rfl ?_
    obtain ⟨r3, hc4, hf⟩ := bs_bind hf
    refine v_callVi (y := yX9_has) (As := [.int x1]) (rest := []) C (cX9_has_ok  hc4) ml_X9_60 wyX9_has (bsm_X9) (bsc_X9) rfl dpX9_has ⟨Nat.le_of_ble_eq_true rfl, Nat.le_of_ble_eq_true rfl⟩ ⟨rfl, rfl⟩ ⟨Nat.le_of_ble_eq_true rfl, Nat.le_of_ble_eq_true rfl⟩ rfl (Nat.le_of_ble_eq_true rfl) dX9_image_37 ?_
    refine v_if_eq (tgt := 55) C dX9_image_40 (by decide) (fun h7 => ?_) (fun h7 => ?_)
    · replace hf := bs_pos h7 hf
      refine v_iconst (v := -1) C dX9_image_55 (by decide) ?_
      exact v_iret C hf dX9_image_56
    · replace hf := bs_neg h7 hf
      refine v_aload_n C dX9_image_43 rfl rfl ?_
      refine v_iload_n C dX9_image_44 rfl rfl ?_
      refine v_bipush (v := 8) C dX9_image_45 (by decide) ?_
      refine v_iload_n C dX9_image_47 rfl rfl ?_
      refine v_iadd C dX9_image_48 ?_
      obtain ⟨r5, hc6, hf⟩ := bs_bind hf
      refine v_callVi (y := yX9_of) (As := [.int x1, .int ((8 : Int32) + x2)]) (rest := []) C (cX9_of_ok  hc6) ml_X9_56 wyX9_of (bsm_X9) (bsc_X9) rfl dpX9_of ⟨Nat.le_of_ble_eq_true rfl, Nat.le_of_ble_eq_true rfl⟩ ⟨rfl, rfl⟩ ⟨Nat.le_of_ble_eq_true rfl, Nat.le_of_ble_eq_true rfl⟩ rfl (Nat.le_of_ble_eq_true rfl) dX9_image_49 ?_
      refine v_goto (tgt := 56) C dX9_image_52 (by decide) ?_
      exact v_iret C hf dX9_image_56
  · replace hf := bs_neg h8 hf
    refine v_iconst (v := 0) C dX9_image_33 (by decide) ?_
    exact v_iret C hf dX9_image_34
set_option maxHeartbeats 4000000 in
set_option maxRecDepth 100000 in
theorem cX9_image_ok {l : Launch} {ρ : bsR} {cA : Nat → ClassId} {dC : Nat → ClassId} {dI : Nat → Nat → Nat} {Rz : va_W}  {a1 : Int32} {a2 : Int32} {X : bsX} {z : (Int32 × bsX)} (hf : fX9_image a1 a2 X = some z) : bsMi l yX9_image cX9_image 3 (some .int) rmX9_image ρ cA dC dI Rz [.ref (ρ 14 0 0), .int a1, .int a2] X z := by
  refine bsMi_of (by decide) (Nat.le_of_ble_eq_true rfl) (fun p e s m args below meth c C => ?_)
  have C : bsCx p m c cX9_image 3 s args (Cond.code yX9_image cX9_image 3 (some .int) :: bsG) RX9 ρ cA dC dI Rz meth (some .int) := C
  rw [fX9_image] at hf
  refine v_sub [0, 1, 2] rfl ?_
  refine v_aload_n C dX9_image_0 rfl rfl ?_
  refine v_iload_n C dX9_image_1 rfl rfl ?_
  obtain ⟨r9, hc10, hf⟩ := bs_bind hf
  refine v_callVi (y := yX9_noSlot) (As := [.int a1]) (rest := []) C (cX9_noSlot_ok  hc10) ml_X9_260 wyX9_noSlot (bsm_X9) (bsc_X9) rfl dpX9_noSlot ⟨Nat.le_of_ble_eq_true rfl, Nat.le_of_ble_eq_true rfl⟩ ⟨rfl, rfl⟩ ⟨Nat.le_of_ble_eq_true rfl, Nat.le_of_ble_eq_true rfl⟩ rfl (Nat.le_of_ble_eq_true rfl) dX9_image_2 ?_
  refine v_if_ne (tgt := 33) C dX9_image_5 (by decide) (fun h14 => ?_) (fun h14 => ?_)
  · replace hf := bs_neg h14 hf
    refine v_iconst (v := 0) C dX9_image_33 (by decide) ?_
    exact v_iret C hf dX9_image_34
  · replace hf := bs_pos h14 hf
    refine v_aload_n C dX9_image_8 rfl rfl ?_
    refine v_iload_n C dX9_image_9 rfl rfl ?_
    refine v_i2l C dX9_image_10 ?_
    refine v_lconst (v := (0 : Int64)) C dX9_image_11 (by decide) ?_
    refine v_ldc2 (v := (4 : Int64)) C (bsG_in 1671 (by decide +kernel) rfl) dX9_image_12 ?_
    obtain ⟨r11, hc12, hf⟩ := bs_bind hf
    refine v_callSi (y := yX9_in) (As := [.long a2.toInt64, .long (0 : Int64), .long (4 : Int64)]) (rest := [.ref (ρ 14 0 0)]) C (cX9_in_ok  hc12) ml_X9_44 wzX9_in dpX9_in ⟨Nat.le_of_ble_eq_true rfl, Nat.le_of_ble_eq_true rfl⟩ ⟨rfl, rfl⟩ ⟨Nat.le_of_ble_eq_true rfl, Nat.le_of_ble_eq_true rfl⟩ rfl (Nat.le_of_ble_eq_true rfl) dX9_image_15 ?_
    refine v_if_ne (tgt := 25) C dX9_image_18 (by decide) (fun h13 => ?_) (fun h13 => ?_)
    · replace hf := bs_neg h13 hf
      refine v_iconst (v := 0) C dX9_image_25 (by decide) ?_
      refine v_sub [0, 1, 2] rfl ?_
      exact wX9_image_26   C  _ _ _ _  hf
    · replace hf := bs_pos h13 hf
      refine v_iconst (v := 1) C dX9_image_21 (by decide) ?_
      refine v_goto (tgt := 26) C dX9_image_22 (by decide) ?_
      refine v_sub [0, 1, 2] rfl ?_
      exact wX9_image_26   C  _ _ _ _  hf
/-! BootSlotsModel.install(I)I -/
def fX9_install_25 (x1 : Int32) (y1 : Int32) (X : bsX) : Option (Int32 × bsX) := (fX9_refuse  y1 (2 : Int32) X).bind fun r1 => if r1.1 = 0 then (if (3 : Int32) ≤ x1 then (if bsIn ((20 : Int32) + (7 : Int32)) 160 then (some ((r1.2 14 1 0 (bsIx ((20 : Int32) + (7 : Int32)))), r1.2)) else none) else (if bsIn ((20 : Int32) + x1) 160 then (some ((r1.2 14 1 0 (bsIx ((20 : Int32) + x1))), r1.2)) else none)) else (some ((0 : Int32), r1.2))
def fX9_install (a1 : Int32) (X : bsX) : Option (Int32 × bsX) := (fX9_notLoaded   X).bind fun r7 => if r7.1 = 0 then ((fX9_in  a1.toInt64 (0 : Int64) (3 : Int64) r7.2).bind fun r9 => if r9.1 = 0 then (fX9_install_25   a1 (1 : Int32) r9.2) else (fX9_install_25   a1 (0 : Int32) r9.2)) else (some ((0 : Int32), r7.2))
abbrev rmX9_install : Room := { frames := 2, cells := 0, slots := 0, locals := 42 }
set_option maxHeartbeats 4000000 in
set_option maxRecDepth 100000 in
theorem wX9_install_25 {p : Program} {l : Launch} {e : Env} {s : State} {m : MethodId} {args : Array Value} {below : List Frame} {meth : Method} {c : Code} {ρ : bsR} {cA : Nat → ClassId} {dC : Nat → ClassId} {dI : Nat → Nat → Nat} {Rz : va_W} {Ts : List Cond}   {z : (Int32 × bsX)} (C : bsCx p m c cX9_install 2 s args Ts RX9 ρ cA dC dI Rz meth (some .int)) (x1 : Int32) (y1 : Int32) (X : bsX) (hf : fX9_install_25 x1 y1 X = some z) : bsV p l e rmX9_install s m args below meth c 0 0 (MQ below (bsQi ρ cA dC dI Rz z s.heap.size) args s 0 0 (bsA ρ cA Rz s.heap.size)) ρ cA dC dI Rz 2 25 [(0, .ref (ρ 14 0 0)), (1, .int x1)] [.int y1, .ref (ρ 14 0 0)] X := by
  rw [fX9_install_25] at hf
  refine v_iconst (v := 2) C dX9_install_25 (by decide) ?_
  obtain ⟨r1, hc2, hf⟩ := bs_bind hf
  refine v_callVi (y := yX9_refuse) (As := [.int y1, .int (2 : Int32)]) (rest := []) C (cX9_refuse_ok  hc2) ml_X9_40 wyX9_refuse (bsm_X9) (bsc_X9) rfl dpX9_refuse ⟨Nat.le_of_ble_eq_true rfl, Nat.le_of_ble_eq_true rfl⟩ ⟨rfl, rfl⟩ ⟨Nat.le_of_ble_eq_true rfl, Nat.le_of_ble_eq_true rfl⟩ rfl (Nat.le_of_ble_eq_true rfl) dX9_install_26 ?_
  refine v_if_eq (tgt := 34) C dX9_install_29 (by decide) (fun h6 => ?_) (fun h6 => ?_)
  · replace hf := bs_pos h6 hf
    refine v_aload_n C dX9_install_34 rfl rfl ?_
    refine gf_X9_7 C dX9_install_35 ?_
    refine v_bipush (v := 20) C dX9_install_38 (by decide) ?_
    refine v_iload_n C dX9_install_40 rfl rfl ?_
    refine v_iconst (v := 3) C dX9_install_41 (by decide) ?_
    refine v_icmp_ge (tgt := 49) C dX9_install_42 (by decide) (fun h5 => ?_) (fun h5 => ?_)
    · replace hf := bs_pos h5 hf
      refine v_bipush (v := 7) C dX9_install_49 (by decide) ?_
      refine v_iadd C dX9_install_51 ?_
      obtain ⟨hi3, hf⟩ := bs_if hf
      refine v_iald (n := 160) C bsm_14_1 bsc_14_1 hi3 dX9_install_52 ?_
      exact v_iret C hf dX9_install_53
    · replace hf := bs_neg h5 hf
      refine v_iload_n C dX9_install_45 rfl rfl ?_
      refine v_goto (tgt := 51) C dX9_install_46 (by decide) ?_
      refine v_iadd C dX9_install_51 ?_
      obtain ⟨hi4, hf⟩ := bs_if hf
      refine v_iald (n := 160) C bsm_14_1 bsc_14_1 hi4 dX9_install_52 ?_
      exact v_iret C hf dX9_install_53
  · replace hf := bs_neg h6 hf
    refine v_iconst (v := 0) C dX9_install_32 (by decide) ?_
    exact v_iret C hf dX9_install_33
set_option maxHeartbeats 4000000 in
set_option maxRecDepth 100000 in
theorem cX9_install_ok {l : Launch} {ρ : bsR} {cA : Nat → ClassId} {dC : Nat → ClassId} {dI : Nat → Nat → Nat} {Rz : va_W}  {a1 : Int32} {X : bsX} {z : (Int32 × bsX)} (hf : fX9_install a1 X = some z) : bsMi l yX9_install cX9_install 2 (some .int) rmX9_install ρ cA dC dI Rz [.ref (ρ 14 0 0), .int a1] X z := by
  refine bsMi_of (by decide) (Nat.le_of_ble_eq_true rfl) (fun p e s m args below meth c C => ?_)
  have C : bsCx p m c cX9_install 2 s args (Cond.code yX9_install cX9_install 2 (some .int) :: bsG) RX9 ρ cA dC dI Rz meth (some .int) := C
  rw [fX9_install] at hf
  refine v_sub [0, 1] rfl ?_
  refine v_aload_n C dX9_install_0 rfl rfl ?_
  obtain ⟨r7, hc8, hf⟩ := bs_bind hf
  refine v_callVi (y := yX9_notLoaded) (As := []) (rest := []) C (cX9_notLoaded_ok  hc8) ml_X9_48 wyX9_notLoaded (bsm_X9) (bsc_X9) rfl dpX9_notLoaded ⟨Nat.le_of_ble_eq_true rfl, Nat.le_of_ble_eq_true rfl⟩ ⟨rfl, rfl⟩ ⟨Nat.le_of_ble_eq_true rfl, Nat.le_of_ble_eq_true rfl⟩ rfl (Nat.le_of_ble_eq_true rfl) dX9_install_1 ?_
  refine v_if_ne (tgt := 32) C dX9_install_4 (by decide) (fun h12 => ?_) (fun h12 => ?_)
  · replace hf := bs_neg h12 hf
    refine v_iconst (v := 0) C dX9_install_32 (by decide) ?_
    exact v_iret C hf dX9_install_33
  · replace hf := bs_pos h12 hf
    refine v_aload_n C dX9_install_7 rfl rfl ?_
    refine v_iload_n C dX9_install_8 rfl rfl ?_
    refine v_i2l C dX9_install_9 ?_
    refine v_lconst (v := (0 : Int64)) C dX9_install_10 (by decide) ?_
    refine v_ldc2 (v := (3 : Int64)) C (bsG_in 1676 (by decide +kernel) rfl) dX9_install_11 ?_
    obtain ⟨r9, hc10, hf⟩ := bs_bind hf
    refine v_callSi (y := yX9_in) (As := [.long a1.toInt64, .long (0 : Int64), .long (3 : Int64)]) (rest := [.ref (ρ 14 0 0)]) C (cX9_in_ok  hc10) ml_X9_44 wzX9_in dpX9_in ⟨Nat.le_of_ble_eq_true rfl, Nat.le_of_ble_eq_true rfl⟩ ⟨rfl, rfl⟩ ⟨Nat.le_of_ble_eq_true rfl, Nat.le_of_ble_eq_true rfl⟩ rfl (Nat.le_of_ble_eq_true rfl) dX9_install_14 ?_
    refine v_if_ne (tgt := 24) C dX9_install_17 (by decide) (fun h11 => ?_) (fun h11 => ?_)
    · replace hf := bs_neg h11 hf
      refine v_iconst (v := 0) C dX9_install_24 (by decide) ?_
      refine v_sub [0, 1] rfl ?_
      exact wX9_install_25   C  _ _ _  hf
    · replace hf := bs_pos h11 hf
      refine v_iconst (v := 1) C dX9_install_20 (by decide) ?_
      refine v_goto (tgt := 25) C dX9_install_21 (by decide) ?_
      refine v_sub [0, 1] rfl ?_
      exact wX9_install_25   C  _ _ _  hf
/-! BootSlotsModel.boot(II)I -/
def fX9_boot_25 (x1 : Int32) (x2 : Int32) (y1 : Int32) (X : bsX) : Option (Int32 × bsX) := (fX9_refuse  y1 (2 : Int32) X).bind fun r1 => if r1.1 = 0 then (if bsIn (28 : Int32) 160 then ((fX9_in  x1.toInt64 (0 : Int64) (((r1.2 14 1 0 (bsIx (28 : Int32))) - (1 : Int32)).toInt64) r1.2).bind fun r4 => if r4.1 = 0 then (some ((-2 : Int32), r4.2)) else (if bsIn (((29 : Int32) + ((4 : Int32) * (((r4.2 14 1 0 (bsIx (28 : Int32))) - (1 : Int32)) - x1))) + x2) 160 then (some ((r4.2 14 1 0 (bsIx (((29 : Int32) + ((4 : Int32) * (((r4.2 14 1 0 (bsIx (28 : Int32))) - (1 : Int32)) - x1))) + x2))), r4.2)) else none)) else none) else (some ((0 : Int32), r1.2))
def fX9_boot (a1 : Int32) (a2 : Int32) (X : bsX) : Option (Int32 × bsX) := (fX9_notLoaded   X).bind fun r10 => if r10.1 = 0 then ((fX9_in  a2.toInt64 (0 : Int64) (3 : Int64) r10.2).bind fun r12 => if r12.1 = 0 then (fX9_boot_25   a1 a2 (1 : Int32) r12.2) else (fX9_boot_25   a1 a2 (0 : Int32) r12.2)) else (some ((0 : Int32), r10.2))
abbrev rmX9_boot : Room := { frames := 2, cells := 0, slots := 0, locals := 42 }
set_option maxHeartbeats 4000000 in
set_option maxRecDepth 100000 in
theorem wX9_boot_25 {p : Program} {l : Launch} {e : Env} {s : State} {m : MethodId} {args : Array Value} {below : List Frame} {meth : Method} {c : Code} {ρ : bsR} {cA : Nat → ClassId} {dC : Nat → ClassId} {dI : Nat → Nat → Nat} {Rz : va_W} {Ts : List Cond}   {z : (Int32 × bsX)} (C : bsCx p m c cX9_boot 3 s args Ts RX9 ρ cA dC dI Rz meth (some .int)) (x1 : Int32) (x2 : Int32) (y1 : Int32) (X : bsX) (hf : fX9_boot_25 x1 x2 y1 X = some z) : bsV p l e rmX9_boot s m args below meth c 0 0 (MQ below (bsQi ρ cA dC dI Rz z s.heap.size) args s 0 0 (bsA ρ cA Rz s.heap.size)) ρ cA dC dI Rz 3 25 [(0, .ref (ρ 14 0 0)), (1, .int x1), (2, .int x2)] [.int y1, .ref (ρ 14 0 0)] X := by
  rw [fX9_boot_25] at hf
  refine v_iconst (v := 2) C dX9_boot_25 (by decide) ?_
  obtain ⟨r1, hc2, hf⟩ := bs_bind hf
  refine v_callVi (y := yX9_refuse) (As := [.int y1, .int (2 : Int32)]) (rest := []) C (cX9_refuse_ok  hc2) ml_X9_40 wyX9_refuse (bsm_X9) (bsc_X9) rfl dpX9_refuse ⟨Nat.le_of_ble_eq_true rfl, Nat.le_of_ble_eq_true rfl⟩ ⟨rfl, rfl⟩ ⟨Nat.le_of_ble_eq_true rfl, Nat.le_of_ble_eq_true rfl⟩ rfl (Nat.le_of_ble_eq_true rfl) dX9_boot_26 ?_
  refine v_if_eq (tgt := 34) C dX9_boot_29 (by decide) (fun h9 => ?_) (fun h9 => ?_)
  · replace hf := bs_pos h9 hf
    refine v_iload_n C dX9_boot_34 rfl rfl ?_
    refine v_i2l C dX9_boot_35 ?_
    refine v_lconst (v := (0 : Int64)) C dX9_boot_36 (by decide) ?_
    refine v_aload_n C dX9_boot_37 rfl rfl ?_
    refine gf_X9_7 C dX9_boot_38 ?_
    refine v_bipush (v := 28) C dX9_boot_41 (by decide) ?_
    obtain ⟨hi3, hf⟩ := bs_if hf
    refine v_iald (n := 160) C bsm_14_1 bsc_14_1 hi3 dX9_boot_43 ?_
    refine v_iconst (v := 1) C dX9_boot_44 (by decide) ?_
    refine v_isub C dX9_boot_45 ?_
    refine v_i2l C dX9_boot_46 ?_
    obtain ⟨r4, hc5, hf⟩ := bs_bind hf
    refine v_callSi (y := yX9_in) (As := [.long x1.toInt64, .long (0 : Int64), .long ((r1.2 14 1 0 (bsIx (28 : Int32))) - (1 : Int32)).toInt64]) (rest := []) C (cX9_in_ok  hc5) ml_X9_44 wzX9_in dpX9_in ⟨Nat.le_of_ble_eq_true rfl, Nat.le_of_ble_eq_true rfl⟩ ⟨rfl, rfl⟩ ⟨Nat.le_of_ble_eq_true rfl, Nat.le_of_ble_eq_true rfl⟩ rfl (Nat.le_of_ble_eq_true rfl) dX9_boot_47 ?_
    refine v_if_eq (tgt := 79) C dX9_boot_50 (by decide) (fun h8 => ?_) (fun h8 => ?_)
    · replace hf := bs_pos h8 hf
      refine v_bipush (v := -2) C dX9_boot_79 (by decide) ?_
      exact v_iret C hf dX9_boot_81
    · replace hf := bs_neg h8 hf
      refine v_aload_n C dX9_boot_53 rfl rfl ?_
      refine gf_X9_7 C dX9_boot_54 ?_
      refine v_bipush (v := 29) C dX9_boot_57 (by decide) ?_
      refine v_iconst (v := 4) C dX9_boot_59 (by decide) ?_
      refine v_aload_n C dX9_boot_60 rfl rfl ?_
      refine gf_X9_7 C dX9_boot_61 ?_
      refine v_bipush (v := 28) C dX9_boot_64 (by decide) ?_
      refine v_iald (n := 160) C bsm_14_1 bsc_14_1 hi3 dX9_boot_66 ?_
      refine v_iconst (v := 1) C dX9_boot_67 (by decide) ?_
      refine v_isub C dX9_boot_68 ?_
      refine v_iload_n C dX9_boot_69 rfl rfl ?_
      refine v_isub C dX9_boot_70 ?_
      refine v_imul C dX9_boot_71 ?_
      refine v_iadd C dX9_boot_72 ?_
      refine v_iload_n C dX9_boot_73 rfl rfl ?_
      refine v_iadd C dX9_boot_74 ?_
      obtain ⟨hi7, hf⟩ := bs_if hf
      refine v_iald (n := 160) C bsm_14_1 bsc_14_1 hi7 dX9_boot_75 ?_
      refine v_goto (tgt := 81) C dX9_boot_76 (by decide) ?_
      exact v_iret C hf dX9_boot_81
  · replace hf := bs_neg h9 hf
    refine v_iconst (v := 0) C dX9_boot_32 (by decide) ?_
    exact v_iret C hf dX9_boot_33
set_option maxHeartbeats 4000000 in
set_option maxRecDepth 100000 in
theorem cX9_boot_ok {l : Launch} {ρ : bsR} {cA : Nat → ClassId} {dC : Nat → ClassId} {dI : Nat → Nat → Nat} {Rz : va_W}  {a1 : Int32} {a2 : Int32} {X : bsX} {z : (Int32 × bsX)} (hf : fX9_boot a1 a2 X = some z) : bsMi l yX9_boot cX9_boot 3 (some .int) rmX9_boot ρ cA dC dI Rz [.ref (ρ 14 0 0), .int a1, .int a2] X z := by
  refine bsMi_of (by decide) (Nat.le_of_ble_eq_true rfl) (fun p e s m args below meth c C => ?_)
  have C : bsCx p m c cX9_boot 3 s args (Cond.code yX9_boot cX9_boot 3 (some .int) :: bsG) RX9 ρ cA dC dI Rz meth (some .int) := C
  rw [fX9_boot] at hf
  refine v_sub [0, 1, 2] rfl ?_
  refine v_aload_n C dX9_boot_0 rfl rfl ?_
  obtain ⟨r10, hc11, hf⟩ := bs_bind hf
  refine v_callVi (y := yX9_notLoaded) (As := []) (rest := []) C (cX9_notLoaded_ok  hc11) ml_X9_48 wyX9_notLoaded (bsm_X9) (bsc_X9) rfl dpX9_notLoaded ⟨Nat.le_of_ble_eq_true rfl, Nat.le_of_ble_eq_true rfl⟩ ⟨rfl, rfl⟩ ⟨Nat.le_of_ble_eq_true rfl, Nat.le_of_ble_eq_true rfl⟩ rfl (Nat.le_of_ble_eq_true rfl) dX9_boot_1 ?_
  refine v_if_ne (tgt := 32) C dX9_boot_4 (by decide) (fun h15 => ?_) (fun h15 => ?_)
  · replace hf := bs_neg h15 hf
    refine v_iconst (v := 0) C dX9_boot_32 (by decide) ?_
    exact v_iret C hf dX9_boot_33
  · replace hf := bs_pos h15 hf
    refine v_aload_n C dX9_boot_7 rfl rfl ?_
    refine v_iload_n C dX9_boot_8 rfl rfl ?_
    refine v_i2l C dX9_boot_9 ?_
    refine v_lconst (v := (0 : Int64)) C dX9_boot_10 (by decide) ?_
    refine v_ldc2 (v := (3 : Int64)) C (bsG_in 1676 (by decide +kernel) rfl) dX9_boot_11 ?_
    obtain ⟨r12, hc13, hf⟩ := bs_bind hf
    refine v_callSi (y := yX9_in) (As := [.long a2.toInt64, .long (0 : Int64), .long (3 : Int64)]) (rest := [.ref (ρ 14 0 0)]) C (cX9_in_ok  hc13) ml_X9_44 wzX9_in dpX9_in ⟨Nat.le_of_ble_eq_true rfl, Nat.le_of_ble_eq_true rfl⟩ ⟨rfl, rfl⟩ ⟨Nat.le_of_ble_eq_true rfl, Nat.le_of_ble_eq_true rfl⟩ rfl (Nat.le_of_ble_eq_true rfl) dX9_boot_14 ?_
    refine v_if_ne (tgt := 24) C dX9_boot_17 (by decide) (fun h14 => ?_) (fun h14 => ?_)
    · replace hf := bs_neg h14 hf
      refine v_iconst (v := 0) C dX9_boot_24 (by decide) ?_
      refine v_sub [0, 1, 2] rfl ?_
      exact wX9_boot_25   C  _ _ _ _  hf
    · replace hf := bs_pos h14 hf
      refine v_iconst (v := 1) C dX9_boot_20 (by decide) ?_
      refine v_goto (tgt := 25) C dX9_boot_21 (by decide) ?_
      refine v_sub [0, 1, 2] rfl ?_
      exact wX9_boot_25   C  _ _ _ _  hf
/-! BootSlotsModel.whyNot(I)I -/
def fX9_whyNot (a1 : Int32) (X : bsX) : Option (Int32 × bsX) := (fX9_noSlot  a1 X).bind fun r1 => if r1.1 = 0 then ((fX9_whyOf  a1 r1.2).bind fun r3 => some (r3.1, r3.2)) else (some ((0 : Int32), r1.2))
abbrev rmX9_whyNot : Room := { frames := 3, cells := 0, slots := 0, locals := 67 }
set_option maxHeartbeats 4000000 in
set_option maxRecDepth 100000 in
theorem cX9_whyNot_ok {l : Launch} {ρ : bsR} {cA : Nat → ClassId} {dC : Nat → ClassId} {dI : Nat → Nat → Nat} {Rz : va_W}  {a1 : Int32} {X : bsX} {z : (Int32 × bsX)} (hf : fX9_whyNot a1 X = some z) : bsMi l yX9_whyNot cX9_whyNot 2 (some .int) rmX9_whyNot ρ cA dC dI Rz [.ref (ρ 14 0 0), .int a1] X z := by
  refine bsMi_of (by decide) (Nat.le_of_ble_eq_true rfl) (fun p e s m args below meth c C => ?_)
  have C : bsCx p m c cX9_whyNot 2 s args (Cond.code yX9_whyNot cX9_whyNot 2 (some .int) :: bsG) RX9 ρ cA dC dI Rz meth (some .int) := C
  rw [fX9_whyNot] at hf
  refine v_sub [0, 1] rfl ?_
  refine v_aload_n C dX9_whyNot_0 rfl rfl ?_
  refine v_iload_n C dX9_whyNot_1 rfl rfl ?_
  obtain ⟨r1, hc2, hf⟩ := bs_bind hf
  refine v_callVi (y := yX9_noSlot) (As := [.int a1]) (rest := []) C (cX9_noSlot_ok  hc2) ml_X9_260 wyX9_noSlot (bsm_X9) (bsc_X9) rfl dpX9_noSlot ⟨Nat.le_of_ble_eq_true rfl, Nat.le_of_ble_eq_true rfl⟩ ⟨rfl, rfl⟩ ⟨Nat.le_of_ble_eq_true rfl, Nat.le_of_ble_eq_true rfl⟩ rfl (Nat.le_of_ble_eq_true rfl) dX9_whyNot_2 ?_
  refine v_if_eq (tgt := 12) C dX9_whyNot_5 (by decide) (fun h5 => ?_) (fun h5 => ?_)
  · replace hf := bs_pos h5 hf
    refine v_aload_n C dX9_whyNot_12 rfl rfl ?_
    refine v_iload_n C dX9_whyNot_13 rfl rfl ?_
    obtain ⟨r3, hc4, hf⟩ := bs_bind hf
    refine v_callVi (y := yX9_whyOf) (As := [.int a1]) (rest := []) C (cX9_whyOf_ok  hc4) ml_X9_66 wyX9_whyOf (bsm_X9) (bsc_X9) rfl dpX9_whyOf ⟨Nat.le_of_ble_eq_true rfl, Nat.le_of_ble_eq_true rfl⟩ ⟨rfl, rfl⟩ ⟨Nat.le_of_ble_eq_true rfl, Nat.le_of_ble_eq_true rfl⟩ rfl (Nat.le_of_ble_eq_true rfl) dX9_whyNot_14 ?_
    exact v_iret C hf dX9_whyNot_17
  · replace hf := bs_neg h5 hf
    refine v_iconst (v := 0) C dX9_whyNot_8 (by decide) ?_
    refine v_goto (tgt := 17) C dX9_whyNot_9 (by decide) ?_
    exact v_iret C hf dX9_whyNot_17
/-! BootSlotsModel.choice()I -/
def fX9_choice (X : bsX) : Option (Int32 × bsX) := (fX9_notLoaded   X).bind fun r1 => if r1.1 = 0 then ((fX9_first   r1.2).bind fun r3 => some (r3.1, r3.2)) else (some ((0 : Int32), r1.2))
abbrev rmX9_choice : Room := { frames := 5, cells := 0, slots := 0, locals := 107 }
set_option maxHeartbeats 4000000 in
set_option maxRecDepth 100000 in
theorem cX9_choice_ok {l : Launch} {ρ : bsR} {cA : Nat → ClassId} {dC : Nat → ClassId} {dI : Nat → Nat → Nat} {Rz : va_W}  {X : bsX} {z : (Int32 × bsX)} (hf : fX9_choice  X = some z) : bsMi l yX9_choice cX9_choice 1 (some .int) rmX9_choice ρ cA dC dI Rz [.ref (ρ 14 0 0)] X z := by
  refine bsMi_of (by decide) (Nat.le_of_ble_eq_true rfl) (fun p e s m args below meth c C => ?_)
  have C : bsCx p m c cX9_choice 1 s args (Cond.code yX9_choice cX9_choice 1 (some .int) :: bsG) RX9 ρ cA dC dI Rz meth (some .int) := C
  rw [fX9_choice] at hf
  refine v_sub [0] rfl ?_
  refine v_aload_n C dX9_choice_0 rfl rfl ?_
  obtain ⟨r1, hc2, hf⟩ := bs_bind hf
  refine v_callVi (y := yX9_notLoaded) (As := []) (rest := []) C (cX9_notLoaded_ok  hc2) ml_X9_48 wyX9_notLoaded (bsm_X9) (bsc_X9) rfl dpX9_notLoaded ⟨Nat.le_of_ble_eq_true rfl, Nat.le_of_ble_eq_true rfl⟩ ⟨rfl, rfl⟩ ⟨Nat.le_of_ble_eq_true rfl, Nat.le_of_ble_eq_true rfl⟩ rfl (Nat.le_of_ble_eq_true rfl) dX9_choice_1 ?_
  refine v_if_eq (tgt := 11) C dX9_choice_4 (by decide) (fun h5 => ?_) (fun h5 => ?_)
  · replace hf := bs_pos h5 hf
    refine v_aload_n C dX9_choice_11 rfl rfl ?_
    obtain ⟨r3, hc4, hf⟩ := bs_bind hf
    refine v_callVi (y := yX9_first) (As := []) (rest := []) C (cX9_first_ok  hc4) ml_X9_81 wyX9_first (bsm_X9) (bsc_X9) rfl dpX9_first ⟨Nat.le_of_ble_eq_true rfl, Nat.le_of_ble_eq_true rfl⟩ ⟨rfl, rfl⟩ ⟨Nat.le_of_ble_eq_true rfl, Nat.le_of_ble_eq_true rfl⟩ rfl (Nat.le_of_ble_eq_true rfl) dX9_choice_12 ?_
    exact v_iret C hf dX9_choice_15
  · replace hf := bs_neg h5 hf
    refine v_iconst (v := 0) C dX9_choice_7 (by decide) ?_
    refine v_goto (tgt := 15) C dX9_choice_8 (by decide) ?_
    exact v_iret C hf dX9_choice_15
/-! BootSlotsModel.placeOf(I)I -/
def fX9_placeOf_42 (k4 : Int32 → Int32 → Int32 → bsX → Option (Int32 × bsX)) (x1 : Int32) (x3 : Int32) (y0 : Int32) (y1 : Int32) (X : bsX) : Option (Int32 × bsX) := (fX9_flag  y1 X).bind fun r1 => k4 x1 (y0 + r1.1) (x3 + (1 : Int32)) r1.2
def fX9_placeOf_41 (k4 : Int32 → Int32 → Int32 → bsX → Option (Int32 × bsX)) (x1 : Int32) (x3 : Int32) (y0 : Int32) (X : bsX) : Option (Int32 × bsX) := fX9_placeOf_42  k4 x1 x3 y0 (0 : Int32) X
def fX9_placeOf_4 : Nat → Int32 → Int32 → Int32 → bsX → Option (Int32 × bsX)
  | 0, _, _, _, _ => none
  | n + 1, x1, x2, x3, X => if bsIn (0 : Int32) 160 then (if (X 14 1 0 (bsIx (0 : Int32))) ≤ x3 then (some (x2, X)) else (if x3 = x1 then (fX9_placeOf_41  (fX9_placeOf_4  n) x1 x3 x2 X) else ((fX9_canBoot  x3 X).bind fun r4 => if r4.1 = 0 then (fX9_placeOf_41  (fX9_placeOf_4  n) x1 x3 x2 r4.2) else ((fX9_isAhead  x3 x1 r4.2).bind fun r6 => if r6.1 = 0 then (fX9_placeOf_41  (fX9_placeOf_4  n) x1 x3 x2 r6.2) else (fX9_placeOf_42  (fX9_placeOf_4  n) x1 x3 x2 (1 : Int32) r6.2))))) else none
def fX9_placeOf (a1 : Int32) (X : bsX) : Option (Int32 × bsX) := fX9_placeOf_4   bsF a1 (0 : Int32) (0 : Int32) X
abbrev rmX9_placeOf : Room := { frames := 4, cells := 0, slots := 0, locals := 85 }
set_option maxHeartbeats 4000000 in
set_option maxRecDepth 100000 in
theorem wX9_placeOf_42 {p : Program} {l : Launch} {e : Env} {s : State} {m : MethodId} {args : Array Value} {below : List Frame} {meth : Method} {c : Code} {ρ : bsR} {cA : Nat → ClassId} {dC : Nat → ClassId} {dI : Nat → Nat → Nat} {Rz : va_W} {Ts : List Cond}  (k4 : Int32 → Int32 → Int32 → bsX → Option (Int32 × bsX))  {z : (Int32 × bsX)} (C : bsCx p m c cX9_placeOf 4 s args Ts RX9 ρ cA dC dI Rz meth (some .int)) (hk4 : ∀ (x1 : Int32) (x2 : Int32) (x3 : Int32) (X : bsX), k4 x1 x2 x3 X = some z → bsV p l e rmX9_placeOf s m args below meth c 0 0 (MQ below (bsQi ρ cA dC dI Rz z s.heap.size) args s 0 0 (bsA ρ cA Rz s.heap.size)) ρ cA dC dI Rz 4 4 [(0, .ref (ρ 14 0 0)), (1, .int x1), (2, .int x2), (3, .int x3)] [] X)  (x1 : Int32) (x3 : Int32) (y0 : Int32) (y1 : Int32) (X : bsX) (hf : fX9_placeOf_42 k4 x1 x3 y0 y1 X = some z) : bsV p l e rmX9_placeOf s m args below meth c 0 0 (MQ below (bsQi ρ cA dC dI Rz z s.heap.size) args s 0 0 (bsA ρ cA Rz s.heap.size)) ρ cA dC dI Rz 4 42 [(0, .ref (ρ 14 0 0)), (1, .int x1), (3, .int x3)] [.int y1, .int y0] X := by
  rw [fX9_placeOf_42] at hf
  obtain ⟨r1, hc2, hf⟩ := bs_bind hf
  refine v_callSi (y := yX9_flag) (As := [.int y1]) (rest := [.int y0]) C (cX9_flag_ok  hc2) ml_X9_113 wzX9_flag dpX9_flag ⟨Nat.le_of_ble_eq_true rfl, Nat.le_of_ble_eq_true rfl⟩ ⟨rfl, rfl⟩ ⟨Nat.le_of_ble_eq_true rfl, Nat.le_of_ble_eq_true rfl⟩ rfl (Nat.le_of_ble_eq_true rfl) dX9_placeOf_42 ?_
  refine v_iadd C dX9_placeOf_45 ?_
  refine v_istore_n (lv' := [(2, .int (y0 + r1.1)), (0, .ref (ρ 14 0 0)), (1, .int x1), (3, .int x3)]) C dX9_placeOf_46 rfl (by decide) rfl ?_
  refine v_iinc (k0 := 3) (v := (x3 + (1 : Int32))) (lv' := [(3, .int (x3 + (1 : Int32))), (2, .int (y0 + r1.1)), (0, .ref (ρ 14 0 0)), (1, .int x1)]) C dX9_placeOf_47 rfl rfl (by decide) rfl ?_
  refine v_goto (tgt := 4) C dX9_placeOf_50 (by decide) ?_
  refine v_sub [2, 3, 1, 0] rfl ?_
  exact hk4 _ _ _ _  hf
set_option maxHeartbeats 4000000 in
set_option maxRecDepth 100000 in
theorem wX9_placeOf_41 {p : Program} {l : Launch} {e : Env} {s : State} {m : MethodId} {args : Array Value} {below : List Frame} {meth : Method} {c : Code} {ρ : bsR} {cA : Nat → ClassId} {dC : Nat → ClassId} {dI : Nat → Nat → Nat} {Rz : va_W} {Ts : List Cond}  (k4 : Int32 → Int32 → Int32 → bsX → Option (Int32 × bsX))  {z : (Int32 × bsX)} (C : bsCx p m c cX9_placeOf 4 s args Ts RX9 ρ cA dC dI Rz meth (some .int)) (hk4 : ∀ (x1 : Int32) (x2 : Int32) (x3 : Int32) (X : bsX), k4 x1 x2 x3 X = some z → bsV p l e rmX9_placeOf s m args below meth c 0 0 (MQ below (bsQi ρ cA dC dI Rz z s.heap.size) args s 0 0 (bsA ρ cA Rz s.heap.size)) ρ cA dC dI Rz 4 4 [(0, .ref (ρ 14 0 0)), (1, .int x1), (2, .int x2), (3, .int x3)] [] X)  (x1 : Int32) (x3 : Int32) (y0 : Int32) (X : bsX) (hf : fX9_placeOf_41 k4 x1 x3 y0 X = some z) : bsV p l e rmX9_placeOf s m args below meth c 0 0 (MQ below (bsQi ρ cA dC dI Rz z s.heap.size) args s 0 0 (bsA ρ cA Rz s.heap.size)) ρ cA dC dI Rz 4 41 [(0, .ref (ρ 14 0 0)), (1, .int x1), (3, .int x3)] [.int y0] X := by
  rw [fX9_placeOf_41] at hf
  refine v_iconst (v := 0) C dX9_placeOf_41 (by decide) ?_
  refine v_sub [0, 1, 2] rfl ?_
  exact wX9_placeOf_42  k4 C hk4 _ _ _ _ _  hf
set_option maxHeartbeats 4000000 in
set_option maxRecDepth 100000 in
theorem wX9_placeOf_4 {p : Program} {l : Launch} {e : Env} {s : State} {m : MethodId} {args : Array Value} {below : List Frame} {meth : Method} {c : Code} {ρ : bsR} {cA : Nat → ClassId} {dC : Nat → ClassId} {dI : Nat → Nat → Nat} {Rz : va_W} {Ts : List Cond}   {z : (Int32 × bsX)} (C : bsCx p m c cX9_placeOf 4 s args Ts RX9 ρ cA dC dI Rz meth (some .int)) : ∀ (n : Nat) (x1 : Int32) (x2 : Int32) (x3 : Int32) (X : bsX), fX9_placeOf_4  n x1 x2 x3 X = some z → bsV p l e rmX9_placeOf s m args below meth c 0 0 (MQ below (bsQi ρ cA dC dI Rz z s.heap.size) args s 0 0 (bsA ρ cA Rz s.heap.size)) ρ cA dC dI Rz 4 4 [(0, .ref (ρ 14 0 0)), (1, .int x1), (2, .int x2), (3, .int x3)] [] X := by
  intro n
  induction n with
  | zero => intro x1 x2 x3 X hf; exact (nomatch hf)
  | succ n ih =>
    intro x1 x2 x3 X hf
    rw [fX9_placeOf_4] at hf
    refine v_iload_n C dX9_placeOf_4 rfl rfl ?_
    refine v_aload_n C dX9_placeOf_5 rfl rfl ?_
    refine gf_X9_7 C dX9_placeOf_6 ?_
    refine v_iconst (v := 0) C dX9_placeOf_9 (by decide) ?_
    obtain ⟨hi3, hf⟩ := bs_if hf
    refine v_iald (n := 160) C bsm_14_1 bsc_14_1 hi3 dX9_placeOf_10 ?_
    refine v_icmp_ge (tgt := 53) C dX9_placeOf_11 (by decide) (fun h11 => ?_) (fun h11 => ?_)
    · replace hf := bs_pos h11 hf
      refine v_iload_n C dX9_placeOf_53 rfl rfl ?_
      exact v_iret C hf dX9_placeOf_54
    · replace hf := bs_neg h11 hf
      refine v_iload_n C dX9_placeOf_14 rfl rfl ?_
      refine v_iload_n C dX9_placeOf_15 rfl rfl ?_
      refine v_iload_n C dX9_placeOf_16 rfl rfl ?_
      refine v_icmp_eq (tgt := 41) C dX9_placeOf_17 (by decide) (fun h10 => ?_) (fun h10 => ?_)
      · replace hf := bs_pos h10 hf
        refine v_sub [0, 1, 3] rfl ?_
        exact wX9_placeOf_41  (fX9_placeOf_4  n) C (fun b0 b1 b2 X  h => ih b0 b1 b2 X  h) _ _ _ _  hf
      · replace hf := bs_neg h10 hf
        refine v_aload_n C dX9_placeOf_20 rfl rfl ?_
        refine v_iload_n C dX9_placeOf_21 rfl rfl ?_
        obtain ⟨r4, hc5, hf⟩ := bs_bind hf
        refine v_callVi (y := yX9_canBoot) (As := [.int x3]) (rest := [.int x2]) C (cX9_canBoot_ok  hc5) ml_X9_70 wyX9_canBoot (bsm_X9) (bsc_X9) rfl dpX9_canBoot ⟨Nat.le_of_ble_eq_true rfl, Nat.le_of_ble_eq_true rfl⟩ ⟨rfl, rfl⟩ ⟨Nat.le_of_ble_eq_true rfl, Nat.le_of_ble_eq_true rfl⟩ rfl (Nat.le_of_ble_eq_true rfl) dX9_placeOf_22 ?_
        refine v_if_eq (tgt := 41) C dX9_placeOf_25 (by decide) (fun h9 => ?_) (fun h9 => ?_)
        · replace hf := bs_pos h9 hf
          refine v_sub [0, 1, 3] rfl ?_
          exact wX9_placeOf_41  (fX9_placeOf_4  n) C (fun b0 b1 b2 X  h => ih b0 b1 b2 X  h) _ _ _ _  hf
        · replace hf := bs_neg h9 hf
          refine v_aload_n C dX9_placeOf_28 rfl rfl ?_
          refine v_iload_n C dX9_placeOf_29 rfl rfl ?_
          refine v_iload_n C dX9_placeOf_30 rfl rfl ?_
          obtain ⟨r6, hc7, hf⟩ := bs_bind hf
          refine v_callVi (y := yX9_isAhead) (As := [.int x3, .int x1]) (rest := [.int x2]) C (cX9_isAhead_ok  hc7) ml_X9_73 wyX9_isAhead (bsm_X9) (bsc_X9) rfl dpX9_isAhead ⟨Nat.le_of_ble_eq_true rfl, Nat.le_of_ble_eq_true rfl⟩ ⟨rfl, rfl⟩ ⟨Nat.le_of_ble_eq_true rfl, Nat.le_of_ble_eq_true rfl⟩ rfl (Nat.le_of_ble_eq_true rfl) dX9_placeOf_31 ?_
          refine v_if_eq (tgt := 41) C dX9_placeOf_34 (by decide) (fun h8 => ?_) (fun h8 => ?_)
          · replace hf := bs_pos h8 hf
            refine v_sub [0, 1, 3] rfl ?_
            exact wX9_placeOf_41  (fX9_placeOf_4  n) C (fun b0 b1 b2 X  h => ih b0 b1 b2 X  h) _ _ _ _  hf
          · replace hf := bs_neg h8 hf
            refine v_iconst (v := 1) C dX9_placeOf_37 (by decide) ?_
            refine v_goto (tgt := 42) C dX9_placeOf_38 (by decide) ?_
            refine v_sub [0, 1, 3] rfl ?_
            exact wX9_placeOf_42  (fX9_placeOf_4  n) C (fun b0 b1 b2 X  h => ih b0 b1 b2 X  h) _ _ _ _ _  hf
set_option maxHeartbeats 4000000 in
set_option maxRecDepth 100000 in
theorem cX9_placeOf_ok {l : Launch} {ρ : bsR} {cA : Nat → ClassId} {dC : Nat → ClassId} {dI : Nat → Nat → Nat} {Rz : va_W}  {a1 : Int32} {X : bsX} {z : (Int32 × bsX)} (hf : fX9_placeOf a1 X = some z) : bsMi l yX9_placeOf cX9_placeOf 4 (some .int) rmX9_placeOf ρ cA dC dI Rz [.ref (ρ 14 0 0), .int a1] X z := by
  refine bsMi_of (by decide) (Nat.le_of_ble_eq_true rfl) (fun p e s m args below meth c C => ?_)
  have C : bsCx p m c cX9_placeOf 4 s args (Cond.code yX9_placeOf cX9_placeOf 4 (some .int) :: bsG) RX9 ρ cA dC dI Rz meth (some .int) := C
  rw [fX9_placeOf] at hf
  refine v_sub [0, 1] rfl ?_
  refine v_iconst (v := 0) C dX9_placeOf_0 (by decide) ?_
  refine v_istore_n (lv' := [(2, .int (0 : Int32)), (0, .ref (ρ 14 0 0)), (1, .int a1)]) C dX9_placeOf_1 rfl (by decide) rfl ?_
  refine v_iconst (v := 0) C dX9_placeOf_2 (by decide) ?_
  refine v_istore_n (lv' := [(3, .int (0 : Int32)), (2, .int (0 : Int32)), (0, .ref (ρ 14 0 0)), (1, .int a1)]) C dX9_placeOf_3 rfl (by decide) rfl ?_
  refine v_sub [2, 3, 1, 0] rfl ?_
  exact wX9_placeOf_4   C  bsF _ _ _ _  hf
/-! BootSlotsModel.place(I)I -/
def fX9_place (a1 : Int32) (X : bsX) : Option (Int32 × bsX) := (fX9_noSlot  a1 X).bind fun r1 => if r1.1 = 0 then ((fX9_canBoot  a1 r1.2).bind fun r3 => if r3.1 = 0 then (some ((-1 : Int32), r3.2)) else ((fX9_placeOf  a1 r3.2).bind fun r5 => some (r5.1, r5.2))) else (some ((0 : Int32), r1.2))
abbrev rmX9_place : Room := { frames := 5, cells := 0, slots := 0, locals := 108 }
set_option maxHeartbeats 4000000 in
set_option maxRecDepth 100000 in
theorem cX9_place_ok {l : Launch} {ρ : bsR} {cA : Nat → ClassId} {dC : Nat → ClassId} {dI : Nat → Nat → Nat} {Rz : va_W}  {a1 : Int32} {X : bsX} {z : (Int32 × bsX)} (hf : fX9_place a1 X = some z) : bsMi l yX9_place cX9_place 2 (some .int) rmX9_place ρ cA dC dI Rz [.ref (ρ 14 0 0), .int a1] X z := by
  refine bsMi_of (by decide) (Nat.le_of_ble_eq_true rfl) (fun p e s m args below meth c C => ?_)
  have C : bsCx p m c cX9_place 2 s args (Cond.code yX9_place cX9_place 2 (some .int) :: bsG) RX9 ρ cA dC dI Rz meth (some .int) := C
  rw [fX9_place] at hf
  refine v_sub [0, 1] rfl ?_
  refine v_aload_n C dX9_place_0 rfl rfl ?_
  refine v_iload_n C dX9_place_1 rfl rfl ?_
  obtain ⟨r1, hc2, hf⟩ := bs_bind hf
  refine v_callVi (y := yX9_noSlot) (As := [.int a1]) (rest := []) C (cX9_noSlot_ok  hc2) ml_X9_260 wyX9_noSlot (bsm_X9) (bsc_X9) rfl dpX9_noSlot ⟨Nat.le_of_ble_eq_true rfl, Nat.le_of_ble_eq_true rfl⟩ ⟨rfl, rfl⟩ ⟨Nat.le_of_ble_eq_true rfl, Nat.le_of_ble_eq_true rfl⟩ rfl (Nat.le_of_ble_eq_true rfl) dX9_place_2 ?_
  refine v_if_eq (tgt := 10) C dX9_place_5 (by decide) (fun h8 => ?_) (fun h8 => ?_)
  · replace hf := bs_pos h8 hf
    refine v_aload_n C dX9_place_10 rfl rfl ?_
    refine v_iload_n C dX9_place_11 rfl rfl ?_
    obtain ⟨r3, hc4, hf⟩ := bs_bind hf
    refine v_callVi (y := yX9_canBoot) (As := [.int a1]) (rest := []) C (cX9_canBoot_ok  hc4) ml_X9_70 wyX9_canBoot (bsm_X9) (bsc_X9) rfl dpX9_canBoot ⟨Nat.le_of_ble_eq_true rfl, Nat.le_of_ble_eq_true rfl⟩ ⟨rfl, rfl⟩ ⟨Nat.le_of_ble_eq_true rfl, Nat.le_of_ble_eq_true rfl⟩ rfl (Nat.le_of_ble_eq_true rfl) dX9_place_12 ?_
    refine v_if_eq (tgt := 26) C dX9_place_15 (by decide) (fun h7 => ?_) (fun h7 => ?_)
    · replace hf := bs_pos h7 hf
      refine v_iconst (v := -1) C dX9_place_26 (by decide) ?_
      exact v_iret C hf dX9_place_27
    · replace hf := bs_neg h7 hf
      refine v_aload_n C dX9_place_18 rfl rfl ?_
      refine v_iload_n C dX9_place_19 rfl rfl ?_
      obtain ⟨r5, hc6, hf⟩ := bs_bind hf
      refine v_callVi (y := yX9_placeOf) (As := [.int a1]) (rest := []) C (cX9_placeOf_ok  hc6) ml_X9_269 wyX9_placeOf (bsm_X9) (bsc_X9) rfl dpX9_placeOf ⟨Nat.le_of_ble_eq_true rfl, Nat.le_of_ble_eq_true rfl⟩ ⟨rfl, rfl⟩ ⟨Nat.le_of_ble_eq_true rfl, Nat.le_of_ble_eq_true rfl⟩ rfl (Nat.le_of_ble_eq_true rfl) dX9_place_20 ?_
      refine v_goto (tgt := 27) C dX9_place_23 (by decide) ?_
      exact v_iret C hf dX9_place_27
  · replace hf := bs_neg h8 hf
    refine v_iconst (v := 0) C dX9_place_8 (by decide) ?_
    exact v_iret C hf dX9_place_9
/-! BootSlotsModel.newest()I -/
def fX9_newest_55 (k13 : Int32 → Int32 → bsX → Option (Int32 × bsX)) (x1 : Int32) (x2 : Int32) (X : bsX) : Option (Int32 × bsX) := k13 x1 (x2 + (1 : Int32)) X
def fX9_newest_53 (k13 : Int32 → Int32 → bsX → Option (Int32 × bsX)) (x2 : Int32) (X : bsX) : Option (Int32 × bsX) := fX9_newest_55  k13 x2 x2 X
def fX9_newest_13 : Nat → Int32 → Int32 → bsX → Option (Int32 × bsX)
  | 0, _, _, _ => none
  | n + 1, x1, x2, X => if bsIn (0 : Int32) 160 then (if (X 14 1 0 (bsIx (0 : Int32))) ≤ x2 then (some (x1, X)) else ((fX9_has  x2 X).bind fun r2 => if r2.1 = 0 then (fX9_newest_55  (fX9_newest_13  n) x1 x2 r2.2) else (if x1 = (-1 : Int32) then (fX9_newest_53  (fX9_newest_13  n) x2 r2.2) else ((fX9_of  x2 (8 : Int32) r2.2).bind fun r4 => (fX9_of  x1 (8 : Int32) r4.2).bind fun r6 => if r4.1 ≤ r6.1 then (fX9_newest_55  (fX9_newest_13  n) x1 x2 r6.2) else (fX9_newest_53  (fX9_newest_13  n) x2 r6.2))))) else none
def fX9_newest (X : bsX) : Option (Int32 × bsX) := (fX9_notLoaded   X).bind fun r12 => if r12.1 = 0 then (fX9_newest_13   bsF (-1 : Int32) (0 : Int32) r12.2) else (some ((0 : Int32), r12.2))
abbrev rmX9_newest : Room := { frames := 2, cells := 0, slots := 0, locals := 43 }
set_option maxHeartbeats 4000000 in
set_option maxRecDepth 100000 in
theorem wX9_newest_55 {p : Program} {l : Launch} {e : Env} {s : State} {m : MethodId} {args : Array Value} {below : List Frame} {meth : Method} {c : Code} {ρ : bsR} {cA : Nat → ClassId} {dC : Nat → ClassId} {dI : Nat → Nat → Nat} {Rz : va_W} {Ts : List Cond}  (k13 : Int32 → Int32 → bsX → Option (Int32 × bsX))  {z : (Int32 × bsX)} (C : bsCx p m c cX9_newest 3 s args Ts RX9 ρ cA dC dI Rz meth (some .int)) (hk13 : ∀ (x1 : Int32) (x2 : Int32) (X : bsX), k13 x1 x2 X = some z → bsV p l e rmX9_newest s m args below meth c 0 0 (MQ below (bsQi ρ cA dC dI Rz z s.heap.size) args s 0 0 (bsA ρ cA Rz s.heap.size)) ρ cA dC dI Rz 3 13 [(0, .ref (ρ 14 0 0)), (1, .int x1), (2, .int x2)] [] X)  (x1 : Int32) (x2 : Int32) (X : bsX) (hf : fX9_newest_55 k13 x1 x2 X = some z) : bsV p l e rmX9_newest s m args below meth c 0 0 (MQ below (bsQi ρ cA dC dI Rz z s.heap.size) args s 0 0 (bsA ρ cA Rz s.heap.size)) ρ cA dC dI Rz 3 55 [(0, .ref (ρ 14 0 0)), (1, .int x1), (2, .int x2)] [] X := by
  rw [fX9_newest_55] at hf
  refine v_iinc (k0 := 2) (v := (x2 + (1 : Int32))) (lv' := [(2, .int (x2 + (1 : Int32))), (0, .ref (ρ 14 0 0)), (1, .int x1)]) C dX9_newest_55 rfl rfl (by decide) rfl ?_
  refine v_goto (tgt := 13) C dX9_newest_58 (by decide) ?_
  refine v_sub [1, 2, 0] rfl ?_
  exact hk13 _ _ _  hf
set_option maxHeartbeats 4000000 in
set_option maxRecDepth 100000 in
theorem wX9_newest_53 {p : Program} {l : Launch} {e : Env} {s : State} {m : MethodId} {args : Array Value} {below : List Frame} {meth : Method} {c : Code} {ρ : bsR} {cA : Nat → ClassId} {dC : Nat → ClassId} {dI : Nat → Nat → Nat} {Rz : va_W} {Ts : List Cond}  (k13 : Int32 → Int32 → bsX → Option (Int32 × bsX))  {z : (Int32 × bsX)} (C : bsCx p m c cX9_newest 3 s args Ts RX9 ρ cA dC dI Rz meth (some .int)) (hk13 : ∀ (x1 : Int32) (x2 : Int32) (X : bsX), k13 x1 x2 X = some z → bsV p l e rmX9_newest s m args below meth c 0 0 (MQ below (bsQi ρ cA dC dI Rz z s.heap.size) args s 0 0 (bsA ρ cA Rz s.heap.size)) ρ cA dC dI Rz 3 13 [(0, .ref (ρ 14 0 0)), (1, .int x1), (2, .int x2)] [] X)  (x2 : Int32) (X : bsX) (hf : fX9_newest_53 k13 x2 X = some z) : bsV p l e rmX9_newest s m args below meth c 0 0 (MQ below (bsQi ρ cA dC dI Rz z s.heap.size) args s 0 0 (bsA ρ cA Rz s.heap.size)) ρ cA dC dI Rz 3 53 [(0, .ref (ρ 14 0 0)), (2, .int x2)] [] X := by
  rw [fX9_newest_53] at hf
  refine v_iload_n C dX9_newest_53 rfl rfl ?_
  refine v_istore_n (lv' := [(1, .int x2), (0, .ref (ρ 14 0 0)), (2, .int x2)]) C dX9_newest_54 rfl (by decide) rfl ?_
  refine v_sub [1, 0, 2] rfl ?_
  exact wX9_newest_55  k13 C hk13 _ _ _  hf
set_option maxHeartbeats 4000000 in
set_option maxRecDepth 100000 in
theorem wX9_newest_13 {p : Program} {l : Launch} {e : Env} {s : State} {m : MethodId} {args : Array Value} {below : List Frame} {meth : Method} {c : Code} {ρ : bsR} {cA : Nat → ClassId} {dC : Nat → ClassId} {dI : Nat → Nat → Nat} {Rz : va_W} {Ts : List Cond}   {z : (Int32 × bsX)} (C : bsCx p m c cX9_newest 3 s args Ts RX9 ρ cA dC dI Rz meth (some .int)) : ∀ (n : Nat) (x1 : Int32) (x2 : Int32) (X : bsX), fX9_newest_13  n x1 x2 X = some z → bsV p l e rmX9_newest s m args below meth c 0 0 (MQ below (bsQi ρ cA dC dI Rz z s.heap.size) args s 0 0 (bsA ρ cA Rz s.heap.size)) ρ cA dC dI Rz 3 13 [(0, .ref (ρ 14 0 0)), (1, .int x1), (2, .int x2)] [] X := by
  intro n
  induction n with
  | zero => intro x1 x2 X hf; exact (nomatch hf)
  | succ n ih =>
    intro x1 x2 X hf
    rw [fX9_newest_13] at hf
    refine v_iload_n C dX9_newest_13 rfl rfl ?_
    refine v_aload_n C dX9_newest_14 rfl rfl ?_
    refine gf_X9_7 C dX9_newest_15 ?_
    refine v_iconst (v := 0) C dX9_newest_18 (by decide) ?_
    obtain ⟨hi1, hf⟩ := bs_if hf
    refine v_iald (n := 160) C bsm_14_1 bsc_14_1 hi1 dX9_newest_19 ?_
    refine v_icmp_ge (tgt := 61) C dX9_newest_20 (by decide) (fun h11 => ?_) (fun h11 => ?_)
    · replace hf := bs_pos h11 hf
      refine v_iload_n C dX9_newest_61 rfl rfl ?_
      exact v_iret C hf dX9_newest_62
    · replace hf := bs_neg h11 hf
      refine v_aload_n C dX9_newest_23 rfl rfl ?_
      refine v_iload_n C dX9_newest_24 rfl rfl ?_
      obtain ⟨r2, hc3, hf⟩ := bs_bind hf
      refine v_callVi (y := yX9_has) (As := [.int x2]) (rest := []) C (cX9_has_ok  hc3) ml_X9_60 wyX9_has (bsm_X9) (bsc_X9) rfl dpX9_has ⟨Nat.le_of_ble_eq_true rfl, Nat.le_of_ble_eq_true rfl⟩ ⟨rfl, rfl⟩ ⟨Nat.le_of_ble_eq_true rfl, Nat.le_of_ble_eq_true rfl⟩ rfl (Nat.le_of_ble_eq_true rfl) dX9_newest_25 ?_
      refine v_if_eq (tgt := 55) C dX9_newest_28 (by decide) (fun h10 => ?_) (fun h10 => ?_)
      · replace hf := bs_pos h10 hf
        refine v_sub [0, 1, 2] rfl ?_
        exact wX9_newest_55  (fX9_newest_13  n) C (fun b0 b1 X  h => ih b0 b1 X  h) _ _ _  hf
      · replace hf := bs_neg h10 hf
        refine v_iload_n C dX9_newest_31 rfl rfl ?_
        refine v_iconst (v := -1) C dX9_newest_32 (by decide) ?_
        refine v_icmp_eq (tgt := 53) C dX9_newest_33 (by decide) (fun h9 => ?_) (fun h9 => ?_)
        · replace hf := bs_pos h9 hf
          refine v_sub [0, 2] rfl ?_
          exact wX9_newest_53  (fX9_newest_13  n) C (fun b0 b1 X  h => ih b0 b1 X  h) _ _  hf
        · replace hf := bs_neg h9 hf
          refine v_aload_n C dX9_newest_36 rfl rfl ?_
          refine v_iload_n C dX9_newest_37 rfl rfl ?_
          refine v_bipush (v := 8) C dX9_newest_38 (by decide) ?_
          obtain ⟨r4, hc5, hf⟩ := bs_bind hf
          refine v_callVi (y := yX9_of) (As := [.int x2, .int (8 : Int32)]) (rest := []) C (cX9_of_ok  hc5) ml_X9_56 wyX9_of (bsm_X9) (bsc_X9) rfl dpX9_of ⟨Nat.le_of_ble_eq_true rfl, Nat.le_of_ble_eq_true rfl⟩ ⟨rfl, rfl⟩ ⟨Nat.le_of_ble_eq_true rfl, Nat.le_of_ble_eq_true rfl⟩ rfl (Nat.le_of_ble_eq_true rfl) dX9_newest_40 ?_
          refine v_aload_n C dX9_newest_43 rfl rfl ?_
          refine v_iload_n C dX9_newest_44 rfl rfl ?_
          refine v_bipush (v := 8) C dX9_newest_45 (by decide) ?_
          obtain ⟨r6, hc7, hf⟩ := bs_bind hf
          refine v_callVi (y := yX9_of) (As := [.int x1, .int (8 : Int32)]) (rest := [.int r4.1]) C (cX9_of_ok  hc7) ml_X9_56 wyX9_of (bsm_X9) (bsc_X9) rfl dpX9_of ⟨Nat.le_of_ble_eq_true rfl, Nat.le_of_ble_eq_true rfl⟩ ⟨rfl, rfl⟩ ⟨Nat.le_of_ble_eq_true rfl, Nat.le_of_ble_eq_true rfl⟩ rfl (Nat.le_of_ble_eq_true rfl) dX9_newest_47 ?_
          refine v_icmp_le (tgt := 55) C dX9_newest_50 (by decide) (fun h8 => ?_) (fun h8 => ?_)
          · replace hf := bs_pos h8 hf
            refine v_sub [0, 1, 2] rfl ?_
            exact wX9_newest_55  (fX9_newest_13  n) C (fun b0 b1 X  h => ih b0 b1 X  h) _ _ _  hf
          · replace hf := bs_neg h8 hf
            refine v_sub [0, 2] rfl ?_
            exact wX9_newest_53  (fX9_newest_13  n) C (fun b0 b1 X  h => ih b0 b1 X  h) _ _  hf
set_option maxHeartbeats 4000000 in
set_option maxRecDepth 100000 in
theorem cX9_newest_ok {l : Launch} {ρ : bsR} {cA : Nat → ClassId} {dC : Nat → ClassId} {dI : Nat → Nat → Nat} {Rz : va_W}  {X : bsX} {z : (Int32 × bsX)} (hf : fX9_newest  X = some z) : bsMi l yX9_newest cX9_newest 3 (some .int) rmX9_newest ρ cA dC dI Rz [.ref (ρ 14 0 0)] X z := by
  refine bsMi_of (by decide) (Nat.le_of_ble_eq_true rfl) (fun p e s m args below meth c C => ?_)
  have C : bsCx p m c cX9_newest 3 s args (Cond.code yX9_newest cX9_newest 3 (some .int) :: bsG) RX9 ρ cA dC dI Rz meth (some .int) := C
  rw [fX9_newest] at hf
  refine v_sub [0] rfl ?_
  refine v_aload_n C dX9_newest_0 rfl rfl ?_
  obtain ⟨r12, hc13, hf⟩ := bs_bind hf
  refine v_callVi (y := yX9_notLoaded) (As := []) (rest := []) C (cX9_notLoaded_ok  hc13) ml_X9_48 wyX9_notLoaded (bsm_X9) (bsc_X9) rfl dpX9_notLoaded ⟨Nat.le_of_ble_eq_true rfl, Nat.le_of_ble_eq_true rfl⟩ ⟨rfl, rfl⟩ ⟨Nat.le_of_ble_eq_true rfl, Nat.le_of_ble_eq_true rfl⟩ rfl (Nat.le_of_ble_eq_true rfl) dX9_newest_1 ?_
  refine v_if_eq (tgt := 9) C dX9_newest_4 (by decide) (fun h14 => ?_) (fun h14 => ?_)
  · replace hf := bs_pos h14 hf
    refine v_iconst (v := -1) C dX9_newest_9 (by decide) ?_
    refine v_istore_n (lv' := [(1, .int (-1 : Int32)), (0, .ref (ρ 14 0 0))]) C dX9_newest_10 rfl (by decide) rfl ?_
    refine v_iconst (v := 0) C dX9_newest_11 (by decide) ?_
    refine v_istore_n (lv' := [(2, .int (0 : Int32)), (1, .int (-1 : Int32)), (0, .ref (ρ 14 0 0))]) C dX9_newest_12 rfl (by decide) rfl ?_
    refine v_sub [2, 1, 0] rfl ?_
    exact wX9_newest_13   C  bsF _ _ _  hf
  · replace hf := bs_neg h14 hf
    refine v_iconst (v := 0) C dX9_newest_7 (by decide) ?_
    exact v_iret C hf dX9_newest_8
