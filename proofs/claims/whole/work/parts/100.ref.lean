theorem ml_X9_40 : Cond.methodLink RX9 40 yX9_refuse ∈ bsG := bsG_in 1522 (by decide +kernel) rfl
theorem ml_X9_44 : Cond.methodLink RX9 44 yX9_in ∈ bsG := bsG_in 1519 (by decide +kernel) rfl
theorem ml_X9_48 : Cond.methodLink RX9 48 yX9_notLoaded ∈ bsG := bsG_in 1629 (by decide +kernel) rfl
theorem ml_X9_52 : Cond.methodLink RX9 52 yX9_isSlot ∈ bsG := bsG_in 1662 (by decide +kernel) rfl
theorem ml_X9_56 : Cond.methodLink RX9 56 yX9_of ∈ bsG := bsG_in 1602 (by decide +kernel) rfl
theorem ml_X9_60 : Cond.methodLink RX9 60 yX9_has ∈ bsG := bsG_in 1598 (by decide +kernel) rfl
theorem ml_X9_63 : Cond.methodLink RX9 63 yX9_isGood ∈ bsG := bsG_in 1646 (by decide +kernel) rfl
theorem ml_X9_66 : Cond.methodLink RX9 66 yX9_whyOf ∈ bsG := bsG_in 1642 (by decide +kernel) rfl
theorem ml_X9_70 : Cond.methodLink RX9 70 yX9_canBoot ∈ bsG := bsG_in 1638 (by decide +kernel) rfl
theorem ml_X9_73 : Cond.methodLink RX9 73 yX9_isAhead ∈ bsG := bsG_in 1693 (by decide +kernel) rfl
theorem ml_X9_77 : Cond.methodLink RX9 77 yX9_puts ∈ bsG := bsG_in 1606 (by decide +kernel) rfl
theorem ml_X9_81 : Cond.methodLink RX9 81 yX9_first ∈ bsG := bsG_in 1689 (by decide +kernel) rfl
theorem ml_X9_85 : Cond.methodLink RX9 85 yX9_tries ∈ bsG := bsG_in 1795 (by decide +kernel) rfl
theorem ml_X9_88 : Cond.methodLink RX9 88 yX9_tells ∈ bsG := bsG_in 1799 (by decide +kernel) rfl
theorem ml_X9_92 : Cond.methodLink RX9 92 yX9_boots ∈ bsG := bsG_in 1791 (by decide +kernel) rfl
theorem ml_X9_95 : Cond.methodLink RX9 95 yX9_leastGood ∈ bsG := bsG_in 1729 (by decide +kernel) rfl
theorem ml_X9_103 : Cond.methodLink RX9 103 yX9_crashes ∈ bsG := bsG_in 1787 (by decide +kernel) rfl
theorem ml_X9_107 : Cond.methodLink RX9 107 yX9_succeeds ∈ bsG := bsG_in 1803 (by decide +kernel) rfl
theorem ml_X9_110 : Cond.methodLink RX9 110 yX9_greatestBut ∈ bsG := bsG_in 1819 (by decide +kernel) rfl
theorem ml_X9_113 : Cond.methodLink RX9 113 yX9_flag ∈ bsG := bsG_in 1615 (by decide +kernel) rfl
theorem ml_X9_117 : Cond.methodLink RX9 117 yX9_comes ∈ bsG := bsG_in 1815 (by decide +kernel) rfl
theorem ml_X9_121 : Cond.methodLink RX9 121 yX9_noInstall ∈ bsG := bsG_in 1547 (by decide +kernel) rfl
theorem ml_X9_124 : Cond.methodLink RX9 124 yX9_runsOn ∈ bsG := bsG_in 1783 (by decide +kernel) rfl
theorem ml_X9_127 : Cond.methodLink RX9 127 yX9_hasInstall ∈ bsG := bsG_in 1807 (by decide +kernel) rfl
theorem ml_X9_130 : Cond.methodLink RX9 130 yX9_installs ∈ bsG := bsG_in 1811 (by decide +kernel) rfl
theorem ml_X9_133 : Cond.methodLink RX9 133 yX9_ticks ∈ bsG := bsG_in 1779 (by decide +kernel) rfl
theorem dpX9_boots : (parseMethodDescriptor yX9_boots.desc).map (fun d => d.parameters.length) = some 1 := by decide +kernel
theorem wyX9_boots : bsWy yX9_boots cX9_boots 4 (some .int) := ⟨bsG_in 1793 (by decide +kernel) rfl, bsG_in 77 (by decide +kernel) rfl, bsG_in 111 (by decide +kernel) rfl, bsG_in 1794 (by decide +kernel) rfl, by decide +kernel, by decide +kernel⟩
theorem dpX9_canBoot : (parseMethodDescriptor yX9_canBoot.desc).map (fun d => d.parameters.length) = some 1 := by decide +kernel
theorem wyX9_canBoot : bsWy yX9_canBoot cX9_canBoot 2 (some .boolean) := ⟨bsG_in 1640 (by decide +kernel) rfl, bsG_in 58 (by decide +kernel) rfl, bsG_in 111 (by decide +kernel) rfl, bsG_in 1641 (by decide +kernel) rfl, by decide +kernel, by decide +kernel⟩
theorem dpX9_comes : (parseMethodDescriptor yX9_comes.desc).map (fun d => d.parameters.length) = some 4 := by decide +kernel
theorem wyX9_comes : bsWy yX9_comes cX9_comes 6 none := ⟨bsG_in 1817 (by decide +kernel) rfl, bsG_in 83 (by decide +kernel) rfl, bsG_in 111 (by decide +kernel) rfl, bsG_in 1818 (by decide +kernel) rfl, by decide +kernel, by decide +kernel⟩
theorem dpX9_crashes : (parseMethodDescriptor yX9_crashes.desc).map (fun d => d.parameters.length) = some 1 := by decide +kernel
theorem wyX9_crashes : bsWy yX9_crashes cX9_crashes 3 none := ⟨bsG_in 1789 (by decide +kernel) rfl, bsG_in 76 (by decide +kernel) rfl, bsG_in 111 (by decide +kernel) rfl, bsG_in 1790 (by decide +kernel) rfl, by decide +kernel, by decide +kernel⟩
theorem dpX9_first : (parseMethodDescriptor yX9_first.desc).map (fun d => d.parameters.length) = some 0 := by decide +kernel
theorem wyX9_first : bsWy yX9_first cX9_first 3 (some .int) := ⟨bsG_in 1691 (by decide +kernel) rfl, bsG_in 64 (by decide +kernel) rfl, bsG_in 111 (by decide +kernel) rfl, bsG_in 1692 (by decide +kernel) rfl, by decide +kernel, by decide +kernel⟩
theorem dpX9_flag : (parseMethodDescriptor yX9_flag.desc).map (fun d => d.parameters.length) = some 1 := by decide +kernel
theorem wzX9_flag : bsWz yX9_flag cX9_flag 1 (some .int) := ⟨bsG_in 1616 (by decide +kernel) rfl, bsG_in 111 (by decide +kernel) rfl, bsG_in 1617 (by decide +kernel) rfl, by decide +kernel, by decide +kernel⟩
theorem dpX9_greatestBut : (parseMethodDescriptor yX9_greatestBut.desc).map (fun d => d.parameters.length) = some 1 := by decide +kernel
theorem wyX9_greatestBut : bsWy yX9_greatestBut cX9_greatestBut 4 (some .int) := ⟨bsG_in 1821 (by decide +kernel) rfl, bsG_in 84 (by decide +kernel) rfl, bsG_in 111 (by decide +kernel) rfl, bsG_in 1822 (by decide +kernel) rfl, by decide +kernel, by decide +kernel⟩
theorem dpX9_has : (parseMethodDescriptor yX9_has.desc).map (fun d => d.parameters.length) = some 1 := by decide +kernel
theorem wyX9_has : bsWy yX9_has cX9_has 2 (some .boolean) := ⟨bsG_in 1600 (by decide +kernel) rfl, bsG_in 51 (by decide +kernel) rfl, bsG_in 111 (by decide +kernel) rfl, bsG_in 1601 (by decide +kernel) rfl, by decide +kernel, by decide +kernel⟩
theorem dpX9_hasInstall : (parseMethodDescriptor yX9_hasInstall.desc).map (fun d => d.parameters.length) = some 0 := by decide +kernel
theorem wyX9_hasInstall : bsWy yX9_hasInstall cX9_hasInstall 1 (some .boolean) := ⟨bsG_in 1809 (by decide +kernel) rfl, bsG_in 81 (by decide +kernel) rfl, bsG_in 111 (by decide +kernel) rfl, bsG_in 1810 (by decide +kernel) rfl, by decide +kernel, by decide +kernel⟩
theorem dpX9_in : (parseMethodDescriptor yX9_in.desc).map (fun d => d.parameters.length) = some 3 := by decide +kernel
theorem wzX9_in : bsWz yX9_in cX9_in 6 (some .boolean) := ⟨bsG_in 1520 (by decide +kernel) rfl, bsG_in 111 (by decide +kernel) rfl, bsG_in 1521 (by decide +kernel) rfl, by decide +kernel, by decide +kernel⟩
theorem dpX9_installs : (parseMethodDescriptor yX9_installs.desc).map (fun d => d.parameters.length) = some 0 := by decide +kernel
theorem wyX9_installs : bsWy yX9_installs cX9_installs 3 none := ⟨bsG_in 1813 (by decide +kernel) rfl, bsG_in 82 (by decide +kernel) rfl, bsG_in 111 (by decide +kernel) rfl, bsG_in 1814 (by decide +kernel) rfl, by decide +kernel, by decide +kernel⟩
theorem dpX9_isAhead : (parseMethodDescriptor yX9_isAhead.desc).map (fun d => d.parameters.length) = some 2 := by decide +kernel
theorem wyX9_isAhead : bsWy yX9_isAhead cX9_isAhead 3 (some .boolean) := ⟨bsG_in 1695 (by decide +kernel) rfl, bsG_in 65 (by decide +kernel) rfl, bsG_in 111 (by decide +kernel) rfl, bsG_in 1696 (by decide +kernel) rfl, by decide +kernel, by decide +kernel⟩
theorem dpX9_isGood : (parseMethodDescriptor yX9_isGood.desc).map (fun d => d.parameters.length) = some 1 := by decide +kernel
theorem wyX9_isGood : bsWy yX9_isGood cX9_isGood 2 (some .boolean) := ⟨bsG_in 1648 (by decide +kernel) rfl, bsG_in 60 (by decide +kernel) rfl, bsG_in 111 (by decide +kernel) rfl, bsG_in 1649 (by decide +kernel) rfl, by decide +kernel, by decide +kernel⟩
theorem dpX9_isSlot : (parseMethodDescriptor yX9_isSlot.desc).map (fun d => d.parameters.length) = some 1 := by decide +kernel
theorem wyX9_isSlot : bsWy yX9_isSlot cX9_isSlot 2 (some .boolean) := ⟨bsG_in 1664 (by decide +kernel) rfl, bsG_in 63 (by decide +kernel) rfl, bsG_in 111 (by decide +kernel) rfl, bsG_in 1665 (by decide +kernel) rfl, by decide +kernel, by decide +kernel⟩
theorem dpX9_leastGood : (parseMethodDescriptor yX9_leastGood.desc).map (fun d => d.parameters.length) = some 1 := by decide +kernel
theorem wyX9_leastGood : bsWy yX9_leastGood cX9_leastGood 4 (some .int) := ⟨bsG_in 1731 (by decide +kernel) rfl, bsG_in 69 (by decide +kernel) rfl, bsG_in 111 (by decide +kernel) rfl, bsG_in 1732 (by decide +kernel) rfl, by decide +kernel, by decide +kernel⟩
theorem dpX9_noInstall : (parseMethodDescriptor yX9_noInstall.desc).map (fun d => d.parameters.length) = some 0 := by decide +kernel
theorem wyX9_noInstall : bsWy yX9_noInstall cX9_noInstall 2 none := ⟨bsG_in 1549 (by decide +kernel) rfl, bsG_in 41 (by decide +kernel) rfl, bsG_in 111 (by decide +kernel) rfl, bsG_in 1550 (by decide +kernel) rfl, by decide +kernel, by decide +kernel⟩
theorem dpX9_notLoaded : (parseMethodDescriptor yX9_notLoaded.desc).map (fun d => d.parameters.length) = some 0 := by decide +kernel
theorem wyX9_notLoaded : bsWy yX9_notLoaded cX9_notLoaded 1 (some .boolean) := ⟨bsG_in 1631 (by decide +kernel) rfl, bsG_in 56 (by decide +kernel) rfl, bsG_in 111 (by decide +kernel) rfl, bsG_in 1632 (by decide +kernel) rfl, by decide +kernel, by decide +kernel⟩
theorem dpX9_of : (parseMethodDescriptor yX9_of.desc).map (fun d => d.parameters.length) = some 2 := by decide +kernel
theorem wyX9_of : bsWy yX9_of cX9_of 3 (some .int) := ⟨bsG_in 1604 (by decide +kernel) rfl, bsG_in 52 (by decide +kernel) rfl, bsG_in 111 (by decide +kernel) rfl, bsG_in 1605 (by decide +kernel) rfl, by decide +kernel, by decide +kernel⟩
theorem dpX9_puts : (parseMethodDescriptor yX9_puts.desc).map (fun d => d.parameters.length) = some 3 := by decide +kernel
theorem wyX9_puts : bsWy yX9_puts cX9_puts 4 none := ⟨bsG_in 1608 (by decide +kernel) rfl, bsG_in 53 (by decide +kernel) rfl, bsG_in 111 (by decide +kernel) rfl, bsG_in 1609 (by decide +kernel) rfl, by decide +kernel, by decide +kernel⟩
theorem dpX9_refuse : (parseMethodDescriptor yX9_refuse.desc).map (fun d => d.parameters.length) = some 2 := by decide +kernel
theorem wyX9_refuse : bsWy yX9_refuse cX9_refuse 3 (some .boolean) := ⟨bsG_in 1524 (by decide +kernel) rfl, bsG_in 37 (by decide +kernel) rfl, bsG_in 111 (by decide +kernel) rfl, bsG_in 1525 (by decide +kernel) rfl, by decide +kernel, by decide +kernel⟩
theorem dpX9_runsOn : (parseMethodDescriptor yX9_runsOn.desc).map (fun d => d.parameters.length) = some 0 := by decide +kernel
theorem wyX9_runsOn : bsWy yX9_runsOn cX9_runsOn 3 none := ⟨bsG_in 1785 (by decide +kernel) rfl, bsG_in 75 (by decide +kernel) rfl, bsG_in 111 (by decide +kernel) rfl, bsG_in 1786 (by decide +kernel) rfl, by decide +kernel, by decide +kernel⟩
theorem dpX9_succeeds : (parseMethodDescriptor yX9_succeeds.desc).map (fun d => d.parameters.length) = some 1 := by decide +kernel
theorem wyX9_succeeds : bsWy yX9_succeeds cX9_succeeds 2 none := ⟨bsG_in 1805 (by decide +kernel) rfl, bsG_in 80 (by decide +kernel) rfl, bsG_in 111 (by decide +kernel) rfl, bsG_in 1806 (by decide +kernel) rfl, by decide +kernel, by decide +kernel⟩
theorem dpX9_tells : (parseMethodDescriptor yX9_tells.desc).map (fun d => d.parameters.length) = some 2 := by decide +kernel
theorem wyX9_tells : bsWy yX9_tells cX9_tells 4 none := ⟨bsG_in 1801 (by decide +kernel) rfl, bsG_in 79 (by decide +kernel) rfl, bsG_in 111 (by decide +kernel) rfl, bsG_in 1802 (by decide +kernel) rfl, by decide +kernel, by decide +kernel⟩
theorem dpX9_ticks : (parseMethodDescriptor yX9_ticks.desc).map (fun d => d.parameters.length) = some 0 := by decide +kernel
theorem wyX9_ticks : bsWy yX9_ticks cX9_ticks 1 none := ⟨bsG_in 1781 (by decide +kernel) rfl, bsG_in 74 (by decide +kernel) rfl, bsG_in 111 (by decide +kernel) rfl, bsG_in 1782 (by decide +kernel) rfl, by decide +kernel, by decide +kernel⟩
theorem dpX9_tries : (parseMethodDescriptor yX9_tries.desc).map (fun d => d.parameters.length) = some 1 := by decide +kernel
theorem wyX9_tries : bsWy yX9_tries cX9_tries 2 (some .boolean) := ⟨bsG_in 1797 (by decide +kernel) rfl, bsG_in 78 (by decide +kernel) rfl, bsG_in 111 (by decide +kernel) rfl, bsG_in 1798 (by decide +kernel) rfl, by decide +kernel, by decide +kernel⟩
theorem dpX9_whyOf : (parseMethodDescriptor yX9_whyOf.desc).map (fun d => d.parameters.length) = some 1 := by decide +kernel
theorem wyX9_whyOf : bsWy yX9_whyOf cX9_whyOf 2 (some .int) := ⟨bsG_in 1644 (by decide +kernel) rfl, bsG_in 59 (by decide +kernel) rfl, bsG_in 111 (by decide +kernel) rfl, bsG_in 1645 (by decide +kernel) rfl, by decide +kernel, by decide +kernel⟩
theorem mm_X9_98 : Cond.methodLink RX9 98 Lib.Math.max.name ∈ bsG := bsG_in 1733 (by decide +kernel) rfl
/-! BootSlotsModel.thrown()I -/
def fX9_thrown (X : bsX) : Option (Int32 × bsX) := some ((X 14 0 0 0), X)
abbrev rmX9_thrown : Room := { frames := 0, cells := 0, slots := 0, locals := 0 }
set_option maxHeartbeats 4000000 in
set_option maxRecDepth 100000 in
theorem cX9_thrown_ok {l : Launch} {ρ : bsR} {cA : Nat → ClassId} {dC : Nat → ClassId} {dI : Nat → Nat → Nat} {Rz : va_W}  {X : bsX} {z : (Int32 × bsX)} (hf : fX9_thrown  X = some z) : bsMi l yX9_thrown cX9_thrown 1 (some .int) rmX9_thrown ρ cA dC dI Rz [.ref (ρ 14 0 0)] X z := by
  refine bsMi_of (by decide) (Nat.le_of_ble_eq_true rfl) (fun p e s m args below meth c C => ?_)
  have C : bsCx p m c cX9_thrown 1 s args (Cond.code yX9_thrown cX9_thrown 1 (some .int) :: bsG) RX9 ρ cA dC dI Rz meth (some .int) := C
  rw [fX9_thrown] at hf
  refine v_sub [0] rfl ?_
  refine v_aload_n C dX9_thrown_0 rfl rfl ?_
  refine gf_X9_33 C dX9_thrown_1 ?_
  exact v_iret C hf dX9_thrown_4
/-! BootSlotsModel.in(JJJ)Z -/
def fX9_in (a0 : Int64) (a2 : Int64) (a4 : Int64) (X : bsX) : Option (Int32 × bsX) := if (bsLc a0 a2) < 0 then (some ((0 : Int32), X)) else (if 0 < (bsLc a0 a4) then (some ((0 : Int32), X)) else (some ((1 : Int32), X)))
abbrev rmX9_in : Room := { frames := 0, cells := 0, slots := 0, locals := 0 }
set_option maxHeartbeats 4000000 in
set_option maxRecDepth 100000 in
theorem cX9_in_ok {l : Launch} {ρ : bsR} {cA : Nat → ClassId} {dC : Nat → ClassId} {dI : Nat → Nat → Nat} {Rz : va_W}  {a0 : Int64} {a2 : Int64} {a4 : Int64} {X : bsX} {z : (Int32 × bsX)} (hf : fX9_in a0 a2 a4 X = some z) : bsMi l yX9_in cX9_in 6 (some .boolean) rmX9_in ρ cA dC dI Rz [.long a0, .long a2, .long a4] X z := by
  refine bsMi_of (by decide) (Nat.le_of_ble_eq_true rfl) (fun p e s m args below meth c C => ?_)
  have C : bsCx p m c cX9_in 6 s args (Cond.code yX9_in cX9_in 6 (some .boolean) :: bsG) RX9 ρ cA dC dI Rz meth (some .boolean) := C
  rw [fX9_in] at hf
  refine v_sub [0, 1, 2] rfl ?_
  refine v_lload_n C dX9_in_0 rfl rfl ?_
  refine v_lload_n C dX9_in_1 rfl rfl ?_
  refine v_lcmp C dX9_in_2 ?_
  refine v_if_lt (tgt := 17) C dX9_in_3 (by decide) (fun h2 => ?_) (fun h2 => ?_)
  · replace hf := bs_pos h2 hf
    refine v_iconst (v := 0) C dX9_in_17 (by decide) ?_
    exact v_zret C (bsZ01 (by decide)).1 hf dX9_in_18
  · replace hf := bs_neg h2 hf
    refine v_lload_n C dX9_in_6 rfl rfl ?_
    refine v_lload C dX9_in_7 rfl ?_
    refine v_lcmp C dX9_in_9 ?_
    refine v_if_gt (tgt := 17) C dX9_in_10 (by decide) (fun h1 => ?_) (fun h1 => ?_)
    · replace hf := bs_pos h1 hf
      refine v_iconst (v := 0) C dX9_in_17 (by decide) ?_
      exact v_zret C (bsZ01 (by decide)).1 hf dX9_in_18
    · replace hf := bs_neg h1 hf
      refine v_iconst (v := 1) C dX9_in_13 (by decide) ?_
      refine v_goto (tgt := 18) C dX9_in_14 (by decide) ?_
      exact v_zret C (bsZ01 (by decide)).1 hf dX9_in_18
/-! BootSlotsModel.flag(Z)I -/
def fX9_flag (a0 : Int32) (X : bsX) : Option (Int32 × bsX) := if a0 = 0 then (some ((0 : Int32), X)) else (some ((1 : Int32), X))
abbrev rmX9_flag : Room := { frames := 0, cells := 0, slots := 0, locals := 0 }
set_option maxHeartbeats 4000000 in
set_option maxRecDepth 100000 in
theorem cX9_flag_ok {l : Launch} {ρ : bsR} {cA : Nat → ClassId} {dC : Nat → ClassId} {dI : Nat → Nat → Nat} {Rz : va_W}  {a0 : Int32} {X : bsX} {z : (Int32 × bsX)} (hf : fX9_flag a0 X = some z) : bsMi l yX9_flag cX9_flag 1 (some .int) rmX9_flag ρ cA dC dI Rz [.int a0] X z := by
  refine bsMi_of (by decide) (Nat.le_of_ble_eq_true rfl) (fun p e s m args below meth c C => ?_)
  have C : bsCx p m c cX9_flag 1 s args (Cond.code yX9_flag cX9_flag 1 (some .int) :: bsG) RX9 ρ cA dC dI Rz meth (some .int) := C
  rw [fX9_flag] at hf
  refine v_sub [0] rfl ?_
  refine v_iload_n C dX9_flag_0 rfl rfl ?_
  refine v_if_eq (tgt := 8) C dX9_flag_1 (by decide) (fun h1 => ?_) (fun h1 => ?_)
  · replace hf := bs_pos h1 hf
    refine v_iconst (v := 0) C dX9_flag_8 (by decide) ?_
    exact v_iret C hf dX9_flag_9
  · replace hf := bs_neg h1 hf
    refine v_iconst (v := 1) C dX9_flag_4 (by decide) ?_
    refine v_goto (tgt := 9) C dX9_flag_5 (by decide) ?_
    exact v_iret C hf dX9_flag_9
/-! BootSlotsModel.refuse(ZI)Z -/
def fX9_refuse_16 (X : bsX) : Option (Int32 × bsX) := if (X 14 0 0 0) = 0 then (some ((0 : Int32), X)) else (some ((1 : Int32), X))
def fX9_refuse (a1 : Int32) (a2 : Int32) (X : bsX) : Option (Int32 × bsX) := if (X 14 0 0 0) = 0 then (if a1 = 0 then (fX9_refuse_16    X) else (fX9_refuse_16    (bsWr X 14 0 0 0 a2))) else (fX9_refuse_16    X)
abbrev rmX9_refuse : Room := { frames := 0, cells := 0, slots := 0, locals := 0 }
set_option maxHeartbeats 4000000 in
set_option maxRecDepth 100000 in
theorem wX9_refuse_16 {p : Program} {l : Launch} {e : Env} {s : State} {m : MethodId} {args : Array Value} {below : List Frame} {meth : Method} {c : Code} {ρ : bsR} {cA : Nat → ClassId} {dC : Nat → ClassId} {dI : Nat → Nat → Nat} {Rz : va_W} {Ts : List Cond}   {z : (Int32 × bsX)} (C : bsCx p m c cX9_refuse 3 s args Ts RX9 ρ cA dC dI Rz meth (some .boolean)) (X : bsX) (hf : fX9_refuse_16  X = some z) : bsV p l e rmX9_refuse s m args below meth c 0 0 (MQ below (bsQi ρ cA dC dI Rz z s.heap.size) args s 0 0 (bsA ρ cA Rz s.heap.size)) ρ cA dC dI Rz 3 16 [(0, .ref (ρ 14 0 0))] [] X := by
  rw [fX9_refuse_16] at hf
  refine v_aload_n C dX9_refuse_16 rfl rfl ?_
  refine gf_X9_33 C dX9_refuse_17 ?_
  refine v_if_eq (tgt := 27) C dX9_refuse_20 (by decide) (fun h1 => ?_) (fun h1 => ?_)
  · replace hf := bs_pos h1 hf
    refine v_iconst (v := 0) C dX9_refuse_27 (by decide) ?_
    exact v_zret C (bsZ01 (by decide)).1 hf dX9_refuse_28
  · replace hf := bs_neg h1 hf
    refine v_iconst (v := 1) C dX9_refuse_23 (by decide) ?_
    refine v_goto (tgt := 28) C dX9_refuse_24 (by decide) ?_
    exact v_zret C (bsZ01 (by decide)).1 hf dX9_refuse_28
set_option maxHeartbeats 4000000 in
set_option maxRecDepth 100000 in
theorem cX9_refuse_ok {l : Launch} {ρ : bsR} {cA : Nat → ClassId} {dC : Nat → ClassId} {dI : Nat → Nat → Nat} {Rz : va_W}  {a1 : Int32} {a2 : Int32} {X : bsX} {z : (Int32 × bsX)} (hf : fX9_refuse a1 a2 X = some z) : bsMi l yX9_refuse cX9_refuse 3 (some .boolean) rmX9_refuse ρ cA dC dI Rz [.ref (ρ 14 0 0), .int a1, .int a2] X z := by
  refine bsMi_of (by decide) (Nat.le_of_ble_eq_true rfl) (fun p e s m args below meth c C => ?_)
  have C : bsCx p m c cX9_refuse 3 s args (Cond.code yX9_refuse cX9_refuse 3 (some .boolean) :: bsG) RX9 ρ cA dC dI Rz meth (some .boolean) := C
  rw [fX9_refuse] at hf
  refine v_sub [0, 1, 2] rfl ?_
  refine v_aload_n C dX9_refuse_0 rfl rfl ?_
  refine gf_X9_33 C dX9_refuse_1 ?_
  refine v_if_ne (tgt := 16) C dX9_refuse_4 (by decide) (fun h3 => ?_) (fun h3 => ?_)
  · replace hf := bs_neg h3 hf
    refine v_sub [0] rfl ?_
    exact wX9_refuse_16   C  _  hf
  · replace hf := bs_pos h3 hf
    refine v_iload_n C dX9_refuse_7 rfl rfl ?_
    refine v_if_eq (tgt := 16) C dX9_refuse_8 (by decide) (fun h2 => ?_) (fun h2 => ?_)
    · replace hf := bs_pos h2 hf
      refine v_sub [0] rfl ?_
      exact wX9_refuse_16   C  _  hf
    · replace hf := bs_neg h2 hf
      refine v_aload_n C dX9_refuse_11 rfl rfl ?_
      refine v_iload_n C dX9_refuse_12 rfl rfl ?_
      refine pf_X9_33 C dX9_refuse_13 ?_
      refine v_sub [0] rfl ?_
      exact wX9_refuse_16   C  _  hf
/-! BootSlotsModel.notLoaded()Z -/
def fX9_notLoaded_18 (y1 : Int32) (X : bsX) : Option (Int32 × bsX) := (fX9_refuse  y1 (1 : Int32) X).bind fun r1 => if r1.1 = 0 ∨ r1.1 = 1 then (some (r1.1, r1.2)) else none
def fX9_notLoaded (X : bsX) : Option (Int32 × bsX) := if ((bsWr X 14 0 0 0 (0 : Int32)) 14 0 0 1) = 0 then (fX9_notLoaded_18   (1 : Int32) (bsWr X 14 0 0 0 (0 : Int32))) else (fX9_notLoaded_18   (0 : Int32) (bsWr X 14 0 0 0 (0 : Int32)))
abbrev rmX9_notLoaded : Room := { frames := 1, cells := 0, slots := 0, locals := 22 }
set_option maxHeartbeats 4000000 in
set_option maxRecDepth 100000 in
theorem wX9_notLoaded_18 {p : Program} {l : Launch} {e : Env} {s : State} {m : MethodId} {args : Array Value} {below : List Frame} {meth : Method} {c : Code} {ρ : bsR} {cA : Nat → ClassId} {dC : Nat → ClassId} {dI : Nat → Nat → Nat} {Rz : va_W} {Ts : List Cond}   {z : (Int32 × bsX)} (C : bsCx p m c cX9_notLoaded 1 s args Ts RX9 ρ cA dC dI Rz meth (some .boolean)) (y1 : Int32) (X : bsX) (hf : fX9_notLoaded_18 y1 X = some z) : bsV p l e rmX9_notLoaded s m args below meth c 0 0 (MQ below (bsQi ρ cA dC dI Rz z s.heap.size) args s 0 0 (bsA ρ cA Rz s.heap.size)) ρ cA dC dI Rz 1 18 [] [.int y1, .ref (ρ 14 0 0)] X := by
  rw [fX9_notLoaded_18] at hf
  refine v_iconst (v := 1) C dX9_notLoaded_18 (by decide) ?_
  obtain ⟨r1, hc2, hf⟩ := bs_bind hf
  refine v_callVi (y := yX9_refuse) (As := [.int y1, .int (1 : Int32)]) (rest := []) C (cX9_refuse_ok  hc2) ml_X9_40 wyX9_refuse (bsm_X9) (bsc_X9) rfl dpX9_refuse ⟨Nat.le_of_ble_eq_true rfl, Nat.le_of_ble_eq_true rfl⟩ ⟨rfl, rfl⟩ ⟨Nat.le_of_ble_eq_true rfl, Nat.le_of_ble_eq_true rfl⟩ rfl (Nat.le_of_ble_eq_true rfl) dX9_notLoaded_19 ?_
  obtain ⟨hb3, hf⟩ := bs_if hf
  exact v_zret C (bsZ01 hb3).1 hf dX9_notLoaded_22
set_option maxHeartbeats 4000000 in
set_option maxRecDepth 100000 in
theorem cX9_notLoaded_ok {l : Launch} {ρ : bsR} {cA : Nat → ClassId} {dC : Nat → ClassId} {dI : Nat → Nat → Nat} {Rz : va_W}  {X : bsX} {z : (Int32 × bsX)} (hf : fX9_notLoaded  X = some z) : bsMi l yX9_notLoaded cX9_notLoaded 1 (some .boolean) rmX9_notLoaded ρ cA dC dI Rz [.ref (ρ 14 0 0)] X z := by
  refine bsMi_of (by decide) (Nat.le_of_ble_eq_true rfl) (fun p e s m args below meth c C => ?_)
  have C : bsCx p m c cX9_notLoaded 1 s args (Cond.code yX9_notLoaded cX9_notLoaded 1 (some .boolean) :: bsG) RX9 ρ cA dC dI Rz meth (some .boolean) := C
  rw [fX9_notLoaded] at hf
  refine v_sub [0] rfl ?_
  refine v_aload_n C dX9_notLoaded_0 rfl rfl ?_
  refine v_iconst (v := 0) C dX9_notLoaded_1 (by decide) ?_
  refine pf_X9_33 C dX9_notLoaded_2 ?_
  refine v_aload_n C dX9_notLoaded_5 rfl rfl ?_
  refine v_aload_n C dX9_notLoaded_6 rfl rfl ?_
  refine gf_X9_36 C dX9_notLoaded_7 ?_
  refine v_if_ne (tgt := 17) C dX9_notLoaded_10 (by decide) (fun h4 => ?_) (fun h4 => ?_)
  · replace hf := bs_neg h4 hf
    refine v_iconst (v := 0) C dX9_notLoaded_17 (by decide) ?_
    refine v_sub [] rfl ?_
    exact wX9_notLoaded_18   C  _ _  hf
  · replace hf := bs_pos h4 hf
    refine v_iconst (v := 1) C dX9_notLoaded_13 (by decide) ?_
    refine v_goto (tgt := 18) C dX9_notLoaded_14 (by decide) ?_
    refine v_sub [] rfl ?_
    exact wX9_notLoaded_18   C  _ _  hf
/-! BootSlotsModel.isSlot(I)Z -/
def fX9_isSlot (a1 : Int32) (X : bsX) : Option (Int32 × bsX) := if bsIn (0 : Int32) 160 then ((fX9_in  a1.toInt64 (0 : Int64) (((X 14 1 0 (bsIx (0 : Int32))) - (1 : Int32)).toInt64) X).bind fun r2 => if r2.1 = 0 ∨ r2.1 = 1 then (some (r2.1, r2.2)) else none) else none
abbrev rmX9_isSlot : Room := { frames := 1, cells := 0, slots := 0, locals := 25 }
set_option maxHeartbeats 4000000 in
set_option maxRecDepth 100000 in
theorem cX9_isSlot_ok {l : Launch} {ρ : bsR} {cA : Nat → ClassId} {dC : Nat → ClassId} {dI : Nat → Nat → Nat} {Rz : va_W}  {a1 : Int32} {X : bsX} {z : (Int32 × bsX)} (hf : fX9_isSlot a1 X = some z) : bsMi l yX9_isSlot cX9_isSlot 2 (some .boolean) rmX9_isSlot ρ cA dC dI Rz [.ref (ρ 14 0 0), .int a1] X z := by
  refine bsMi_of (by decide) (Nat.le_of_ble_eq_true rfl) (fun p e s m args below meth c C => ?_)
  have C : bsCx p m c cX9_isSlot 2 s args (Cond.code yX9_isSlot cX9_isSlot 2 (some .boolean) :: bsG) RX9 ρ cA dC dI Rz meth (some .boolean) := C
  rw [fX9_isSlot] at hf
  refine v_sub [0, 1] rfl ?_
  refine v_iload_n C dX9_isSlot_0 rfl rfl ?_
  refine v_i2l C dX9_isSlot_1 ?_
  refine v_lconst (v := (0 : Int64)) C dX9_isSlot_2 (by decide) ?_
  refine v_aload_n C dX9_isSlot_3 rfl rfl ?_
  refine gf_X9_7 C dX9_isSlot_4 ?_
  refine v_iconst (v := 0) C dX9_isSlot_7 (by decide) ?_
  obtain ⟨hi1, hf⟩ := bs_if hf
  refine v_iald (n := 160) C bsm_14_1 bsc_14_1 hi1 dX9_isSlot_8 ?_
  refine v_iconst (v := 1) C dX9_isSlot_9 (by decide) ?_
  refine v_isub C dX9_isSlot_10 ?_
  refine v_i2l C dX9_isSlot_11 ?_
  obtain ⟨r2, hc3, hf⟩ := bs_bind hf
  refine v_callSi (y := yX9_in) (As := [.long a1.toInt64, .long (0 : Int64), .long ((X 14 1 0 (bsIx (0 : Int32))) - (1 : Int32)).toInt64]) (rest := []) C (cX9_in_ok  hc3) ml_X9_44 wzX9_in dpX9_in ⟨Nat.le_of_ble_eq_true rfl, Nat.le_of_ble_eq_true rfl⟩ ⟨rfl, rfl⟩ ⟨Nat.le_of_ble_eq_true rfl, Nat.le_of_ble_eq_true rfl⟩ rfl (Nat.le_of_ble_eq_true rfl) dX9_isSlot_12 ?_
  obtain ⟨hb4, hf⟩ := bs_if hf
  exact v_zret C (bsZ01 hb4).1 hf dX9_isSlot_15
/-! BootSlotsModel.noSlot(I)Z -/
def fX9_noSlot_28 (X : bsX) : Option (Int32 × bsX) := some ((1 : Int32), X)
def fX9_noSlot_21 (y1 : Int32) (X : bsX) : Option (Int32 × bsX) := (fX9_refuse  y1 (2 : Int32) X).bind fun r1 => if r1.1 = 0 then (some ((0 : Int32), r1.2)) else (fX9_noSlot_28    r1.2)
def fX9_noSlot (a1 : Int32) (X : bsX) : Option (Int32 × bsX) := (fX9_notLoaded   X).bind fun r4 => if r4.1 = 0 then ((fX9_isSlot  a1 r4.2).bind fun r6 => if r6.1 = 0 then (fX9_noSlot_21   (1 : Int32) r6.2) else (fX9_noSlot_21   (0 : Int32) r6.2)) else (fX9_noSlot_28    r4.2)
abbrev rmX9_noSlot : Room := { frames := 2, cells := 0, slots := 0, locals := 46 }
set_option maxHeartbeats 4000000 in
set_option maxRecDepth 100000 in
theorem wX9_noSlot_28 {p : Program} {l : Launch} {e : Env} {s : State} {m : MethodId} {args : Array Value} {below : List Frame} {meth : Method} {c : Code} {ρ : bsR} {cA : Nat → ClassId} {dC : Nat → ClassId} {dI : Nat → Nat → Nat} {Rz : va_W} {Ts : List Cond}   {z : (Int32 × bsX)} (C : bsCx p m c cX9_noSlot 2 s args Ts RX9 ρ cA dC dI Rz meth (some .boolean)) (X : bsX) (hf : fX9_noSlot_28  X = some z) : bsV p l e rmX9_noSlot s m args below meth c 0 0 (MQ below (bsQi ρ cA dC dI Rz z s.heap.size) args s 0 0 (bsA ρ cA Rz s.heap.size)) ρ cA dC dI Rz 2 28 [] [] X := by
  rw [fX9_noSlot_28] at hf
  refine v_iconst (v := 1) C dX9_noSlot_28 (by decide) ?_
  refine v_goto (tgt := 33) C dX9_noSlot_29 (by decide) ?_
  exact v_zret C (bsZ01 (by decide)).1 hf dX9_noSlot_33
set_option maxHeartbeats 4000000 in
set_option maxRecDepth 100000 in
theorem wX9_noSlot_21 {p : Program} {l : Launch} {e : Env} {s : State} {m : MethodId} {args : Array Value} {below : List Frame} {meth : Method} {c : Code} {ρ : bsR} {cA : Nat → ClassId} {dC : Nat → ClassId} {dI : Nat → Nat → Nat} {Rz : va_W} {Ts : List Cond}   {z : (Int32 × bsX)} (C : bsCx p m c cX9_noSlot 2 s args Ts RX9 ρ cA dC dI Rz meth (some .boolean)) (y1 : Int32) (X : bsX) (hf : fX9_noSlot_21 y1 X = some z) : bsV p l e rmX9_noSlot s m args below meth c 0 0 (MQ below (bsQi ρ cA dC dI Rz z s.heap.size) args s 0 0 (bsA ρ cA Rz s.heap.size)) ρ cA dC dI Rz 2 21 [] [.int y1, .ref (ρ 14 0 0)] X := by
  rw [fX9_noSlot_21] at hf
  refine v_iconst (v := 2) C dX9_noSlot_21 (by decide) ?_
  obtain ⟨r1, hc2, hf⟩ := bs_bind hf
  refine v_callVi (y := yX9_refuse) (As := [.int y1, .int (2 : Int32)]) (rest := []) C (cX9_refuse_ok  hc2) ml_X9_40 wyX9_refuse (bsm_X9) (bsc_X9) rfl dpX9_refuse ⟨Nat.le_of_ble_eq_true rfl, Nat.le_of_ble_eq_true rfl⟩ ⟨rfl, rfl⟩ ⟨Nat.le_of_ble_eq_true rfl, Nat.le_of_ble_eq_true rfl⟩ rfl (Nat.le_of_ble_eq_true rfl) dX9_noSlot_22 ?_
  refine v_if_eq (tgt := 32) C dX9_noSlot_25 (by decide) (fun h3 => ?_) (fun h3 => ?_)
  · replace hf := bs_pos h3 hf
    refine v_iconst (v := 0) C dX9_noSlot_32 (by decide) ?_
    exact v_zret C (bsZ01 (by decide)).1 hf dX9_noSlot_33
  · replace hf := bs_neg h3 hf
    refine v_sub [] rfl ?_
    exact wX9_noSlot_28   C  _  hf
set_option maxHeartbeats 4000000 in
set_option maxRecDepth 100000 in
theorem cX9_noSlot_ok {l : Launch} {ρ : bsR} {cA : Nat → ClassId} {dC : Nat → ClassId} {dI : Nat → Nat → Nat} {Rz : va_W}  {a1 : Int32} {X : bsX} {z : (Int32 × bsX)} (hf : fX9_noSlot a1 X = some z) : bsMi l yX9_noSlot cX9_noSlot 2 (some .boolean) rmX9_noSlot ρ cA dC dI Rz [.ref (ρ 14 0 0), .int a1] X z := by
  refine bsMi_of (by decide) (Nat.le_of_ble_eq_true rfl) (fun p e s m args below meth c C => ?_)
  have C : bsCx p m c cX9_noSlot 2 s args (Cond.code yX9_noSlot cX9_noSlot 2 (some .boolean) :: bsG) RX9 ρ cA dC dI Rz meth (some .boolean) := C
  rw [fX9_noSlot] at hf
  refine v_sub [0, 1] rfl ?_
  refine v_aload_n C dX9_noSlot_0 rfl rfl ?_
  obtain ⟨r4, hc5, hf⟩ := bs_bind hf
  refine v_callVi (y := yX9_notLoaded) (As := []) (rest := []) C (cX9_notLoaded_ok  hc5) ml_X9_48 wyX9_notLoaded (bsm_X9) (bsc_X9) rfl dpX9_notLoaded ⟨Nat.le_of_ble_eq_true rfl, Nat.le_of_ble_eq_true rfl⟩ ⟨rfl, rfl⟩ ⟨Nat.le_of_ble_eq_true rfl, Nat.le_of_ble_eq_true rfl⟩ rfl (Nat.le_of_ble_eq_true rfl) dX9_noSlot_1 ?_
  refine v_if_ne (tgt := 28) C dX9_noSlot_4 (by decide) (fun h9 => ?_) (fun h9 => ?_)
  · replace hf := bs_neg h9 hf
    refine v_sub [] rfl ?_
    exact wX9_noSlot_28   C  _  hf
  · replace hf := bs_pos h9 hf
    refine v_aload_n C dX9_noSlot_7 rfl rfl ?_
    refine v_aload_n C dX9_noSlot_8 rfl rfl ?_
    refine v_iload_n C dX9_noSlot_9 rfl rfl ?_
    obtain ⟨r6, hc7, hf⟩ := bs_bind hf
    refine v_callVi (y := yX9_isSlot) (As := [.int a1]) (rest := [.ref (ρ 14 0 0)]) C (cX9_isSlot_ok  hc7) ml_X9_52 wyX9_isSlot (bsm_X9) (bsc_X9) rfl dpX9_isSlot ⟨Nat.le_of_ble_eq_true rfl, Nat.le_of_ble_eq_true rfl⟩ ⟨rfl, rfl⟩ ⟨Nat.le_of_ble_eq_true rfl, Nat.le_of_ble_eq_true rfl⟩ rfl (Nat.le_of_ble_eq_true rfl) dX9_noSlot_10 ?_
    refine v_if_ne (tgt := 20) C dX9_noSlot_13 (by decide) (fun h8 => ?_) (fun h8 => ?_)
    · replace hf := bs_neg h8 hf
      refine v_iconst (v := 0) C dX9_noSlot_20 (by decide) ?_
      refine v_sub [] rfl ?_
      exact wX9_noSlot_21   C  _ _  hf
    · replace hf := bs_pos h8 hf
      refine v_iconst (v := 1) C dX9_noSlot_16 (by decide) ?_
      refine v_goto (tgt := 21) C dX9_noSlot_17 (by decide) ?_
      refine v_sub [] rfl ?_
      exact wX9_noSlot_21   C  _ _  hf
/-! BootSlotsModel.copies([II[II)V -/
def fX9_copies_3 (Ka na Kb nb : Nat) : Nat → Int32 → Int32 → Int32 → bsX → Option bsX
  | 0, _, _, _, _ => none
  | n + 1, x1, x3, x4, X => if (160 : Int32) ≤ x4 then (some X) else (if bsIn (x1 + x4) na then (if bsIn (x3 + x4) nb then (fX9_copies_3 Ka na Kb nb n x1 x3 (x4 + (1 : Int32)) (bsWr X 14 Kb 0 (bsIx (x3 + x4)) (X 14 Ka 0 (bsIx (x1 + x4))))) else none) else none)
def fX9_copies (Ka na Kb nb : Nat) (a1 : Int32) (a3 : Int32) (X : bsX) : Option bsX := fX9_copies_3 Ka na Kb nb  bsF a1 a3 (0 : Int32) X
abbrev rmX9_copies : Room := { frames := 0, cells := 0, slots := 0, locals := 0 }
set_option maxHeartbeats 4000000 in
set_option maxRecDepth 100000 in
theorem wX9_copies_3 {p : Program} {l : Launch} {e : Env} {s : State} {m : MethodId} {args : Array Value} {below : List Frame} {meth : Method} {c : Code} {ρ : bsR} {cA : Nat → ClassId} {dC : Nat → ClassId} {dI : Nat → Nat → Nat} {Rz : va_W} {Ts : List Cond} {Ka na Kb nb : Nat} (hKa : (14, Ka, 0) ∈ bsKeys) (hca : ∀ (ρ : bsR) (cA : Nat → ClassId) (c : Nat → Int32), bsCell ρ cA 14 Ka 0 c = .inl (cA 0, na, .inl c)) (hKb : (14, Kb, 0) ∈ bsKeys) (hcb : ∀ (ρ : bsR) (cA : Nat → ClassId) (c : Nat → Int32), bsCell ρ cA 14 Kb 0 c = .inl (cA 0, nb, .inl c))  {z : bsX} (C : bsCx p m c cX9_copies 5 s args Ts RX9 ρ cA dC dI Rz meth none) : ∀ (n : Nat) (x1 : Int32) (x3 : Int32) (x4 : Int32) (X : bsX), fX9_copies_3 Ka na Kb nb n x1 x3 x4 X = some z → bsV p l e rmX9_copies s m args below meth c 0 0 (MQ below (bsQv ρ cA dC dI Rz z s.heap.size) args s 0 0 (bsA ρ cA Rz s.heap.size)) ρ cA dC dI Rz 5 3 [(0, .ref (ρ 14 Ka 0)), (1, .int x1), (2, .ref (ρ 14 Kb 0)), (3, .int x3), (4, .int x4)] [] X := by
  intro n
  induction n with
  | zero => intro x1 x3 x4 X hf; exact (nomatch hf)
  | succ n ih =>
    intro x1 x3 x4 X hf
    rw [fX9_copies_3] at hf
    refine v_iload C dX9_copies_3 rfl ?_
    refine v_sipush (v := 160) C dX9_copies_5 (by decide) ?_
    refine v_icmp_ge (tgt := 29) C dX9_copies_8 (by decide) (fun h3 => ?_) (fun h3 => ?_)
    · replace hf := bs_pos h3 hf
      exact v_vret C hf dX9_copies_29
    · replace hf := bs_neg h3 hf
      refine v_aload_n C dX9_copies_11 rfl rfl ?_
      refine v_iload_n C dX9_copies_12 rfl rfl ?_
      refine v_iload C dX9_copies_13 rfl ?_
      refine v_iadd C dX9_copies_15 ?_
      refine v_aload_n C dX9_copies_16 rfl rfl ?_
      refine v_iload_n C dX9_copies_17 rfl rfl ?_
      refine v_iload C dX9_copies_18 rfl ?_
      refine v_iadd C dX9_copies_20 ?_
      obtain ⟨hi1, hf⟩ := bs_if hf
      refine v_iald (n := na) C hKa (hca _ _ _) hi1 dX9_copies_21 ?_
      obtain ⟨hi2, hf⟩ := bs_if hf
      refine v_iast (n := nb) C hKb (fun _ => (hcb _ _ _)) hi2 dX9_copies_22 ?_
      refine v_iinc (k0 := 4) (v := (x4 + (1 : Int32))) (lv' := [(4, .int (x4 + (1 : Int32))), (0, .ref (ρ 14 Ka 0)), (1, .int x1), (2, .ref (ρ 14 Kb 0)), (3, .int x3)]) C dX9_copies_23 rfl rfl (by decide) rfl ?_
      refine v_goto (tgt := 3) C dX9_copies_26 (by decide) ?_
      refine v_sub [1, 2, 3, 4, 0] rfl ?_
      exact ih _ _ _ _  hf
set_option maxHeartbeats 4000000 in
set_option maxRecDepth 100000 in
theorem cX9_copies_ok {l : Launch} {ρ : bsR} {cA : Nat → ClassId} {dC : Nat → ClassId} {dI : Nat → Nat → Nat} {Rz : va_W} {Ka na Kb nb : Nat} (hKa : (14, Ka, 0) ∈ bsKeys) (hca : ∀ (ρ : bsR) (cA : Nat → ClassId) (c : Nat → Int32), bsCell ρ cA 14 Ka 0 c = .inl (cA 0, na, .inl c)) (hKb : (14, Kb, 0) ∈ bsKeys) (hcb : ∀ (ρ : bsR) (cA : Nat → ClassId) (c : Nat → Int32), bsCell ρ cA 14 Kb 0 c = .inl (cA 0, nb, .inl c)) {a1 : Int32} {a3 : Int32} {X : bsX} {z : bsX} (hf : fX9_copies Ka na Kb nb a1 a3 X = some z) : bsMv l yX9_copies cX9_copies 5 none rmX9_copies ρ cA dC dI Rz [.ref (ρ 14 Ka 0), .int a1, .ref (ρ 14 Kb 0), .int a3] X z := by
  refine bsMv_of (by decide) (Nat.le_of_ble_eq_true rfl) (fun p e s m args below meth c C => ?_)
  have C : bsCx p m c cX9_copies 5 s args (Cond.code yX9_copies cX9_copies 5 none :: bsG) RX9 ρ cA dC dI Rz meth none := C
  rw [fX9_copies] at hf
  refine v_sub [0, 1, 2, 3] rfl ?_
  refine v_iconst (v := 0) C dX9_copies_0 (by decide) ?_
  refine v_istore (lv' := [(4, .int (0 : Int32)), (0, .ref (ρ 14 Ka 0)), (1, .int a1), (2, .ref (ρ 14 Kb 0)), (3, .int a3)]) C dX9_copies_1 (by decide) rfl ?_
  refine v_sub [1, 2, 3, 4, 0] rfl ?_
  exact wX9_copies_3 hKa hca hKb hcb  C  bsF _ _ _ _  hf
/-! BootSlotsModel.of(II)I -/
def fX9_of (a1 : Int32) (a2 : Int32) (X : bsX) : Option (Int32 × bsX) := if bsIn (((80 : Int32) + ((13 : Int32) * a1)) + a2) 160 then (some ((X 14 1 0 (bsIx (((80 : Int32) + ((13 : Int32) * a1)) + a2))), X)) else none
abbrev rmX9_of : Room := { frames := 0, cells := 0, slots := 0, locals := 0 }
set_option maxHeartbeats 4000000 in
set_option maxRecDepth 100000 in
theorem cX9_of_ok {l : Launch} {ρ : bsR} {cA : Nat → ClassId} {dC : Nat → ClassId} {dI : Nat → Nat → Nat} {Rz : va_W}  {a1 : Int32} {a2 : Int32} {X : bsX} {z : (Int32 × bsX)} (hf : fX9_of a1 a2 X = some z) : bsMi l yX9_of cX9_of 3 (some .int) rmX9_of ρ cA dC dI Rz [.ref (ρ 14 0 0), .int a1, .int a2] X z := by
  refine bsMi_of (by decide) (Nat.le_of_ble_eq_true rfl) (fun p e s m args below meth c C => ?_)
  have C : bsCx p m c cX9_of 3 s args (Cond.code yX9_of cX9_of 3 (some .int) :: bsG) RX9 ρ cA dC dI Rz meth (some .int) := C
  rw [fX9_of] at hf
  refine v_sub [0, 1, 2] rfl ?_
  refine v_aload_n C dX9_of_0 rfl rfl ?_
  refine gf_X9_7 C dX9_of_1 ?_
  refine v_bipush (v := 80) C dX9_of_4 (by decide) ?_
  refine v_bipush (v := 13) C dX9_of_6 (by decide) ?_
  refine v_iload_n C dX9_of_8 rfl rfl ?_
  refine v_imul C dX9_of_9 ?_
  refine v_iadd C dX9_of_10 ?_
  refine v_iload_n C dX9_of_11 rfl rfl ?_
  refine v_iadd C dX9_of_12 ?_
  obtain ⟨hi1, hf⟩ := bs_if hf
  refine v_iald (n := 160) C bsm_14_1 bsc_14_1 hi1 dX9_of_13 ?_
  exact v_iret C hf dX9_of_14
/-! BootSlotsModel.puts(III)V -/
def fX9_puts (a1 : Int32) (a2 : Int32) (a3 : Int32) (X : bsX) : Option bsX := if bsIn (((80 : Int32) + ((13 : Int32) * a1)) + a2) 160 then (some (bsWr X 14 1 0 (bsIx (((80 : Int32) + ((13 : Int32) * a1)) + a2)) a3)) else none
abbrev rmX9_puts : Room := { frames := 0, cells := 0, slots := 0, locals := 0 }
set_option maxHeartbeats 4000000 in
set_option maxRecDepth 100000 in
theorem cX9_puts_ok {l : Launch} {ρ : bsR} {cA : Nat → ClassId} {dC : Nat → ClassId} {dI : Nat → Nat → Nat} {Rz : va_W}  {a1 : Int32} {a2 : Int32} {a3 : Int32} {X : bsX} {z : bsX} (hf : fX9_puts a1 a2 a3 X = some z) : bsMv l yX9_puts cX9_puts 4 none rmX9_puts ρ cA dC dI Rz [.ref (ρ 14 0 0), .int a1, .int a2, .int a3] X z := by
  refine bsMv_of (by decide) (Nat.le_of_ble_eq_true rfl) (fun p e s m args below meth c C => ?_)
  have C : bsCx p m c cX9_puts 4 s args (Cond.code yX9_puts cX9_puts 4 none :: bsG) RX9 ρ cA dC dI Rz meth none := C
  rw [fX9_puts] at hf
  refine v_sub [0, 1, 2, 3] rfl ?_
  refine v_aload_n C dX9_puts_0 rfl rfl ?_
  refine gf_X9_7 C dX9_puts_1 ?_
  refine v_bipush (v := 80) C dX9_puts_4 (by decide) ?_
  refine v_bipush (v := 13) C dX9_puts_6 (by decide) ?_
  refine v_iload_n C dX9_puts_8 rfl rfl ?_
  refine v_imul C dX9_puts_9 ?_
  refine v_iadd C dX9_puts_10 ?_
  refine v_iload_n C dX9_puts_11 rfl rfl ?_
  refine v_iadd C dX9_puts_12 ?_
  refine v_iload_n C dX9_puts_13 rfl rfl ?_
  obtain ⟨hi1, hf⟩ := bs_if hf
  refine v_iast (n := 160) C bsm_14_1 (fun _ => bsc_14_1) hi1 dX9_puts_14 ?_
  exact v_vret C hf dX9_puts_15
/-! BootSlotsModel.has(I)Z -/
def fX9_has (a1 : Int32) (X : bsX) : Option (Int32 × bsX) := (fX9_of  a1 (0 : Int32) X).bind fun r1 => if r1.1 = (1 : Int32) then (some ((1 : Int32), r1.2)) else (some ((0 : Int32), r1.2))
abbrev rmX9_has : Room := { frames := 1, cells := 0, slots := 0, locals := 22 }
set_option maxHeartbeats 4000000 in
set_option maxRecDepth 100000 in
theorem cX9_has_ok {l : Launch} {ρ : bsR} {cA : Nat → ClassId} {dC : Nat → ClassId} {dI : Nat → Nat → Nat} {Rz : va_W}  {a1 : Int32} {X : bsX} {z : (Int32 × bsX)} (hf : fX9_has a1 X = some z) : bsMi l yX9_has cX9_has 2 (some .boolean) rmX9_has ρ cA dC dI Rz [.ref (ρ 14 0 0), .int a1] X z := by
  refine bsMi_of (by decide) (Nat.le_of_ble_eq_true rfl) (fun p e s m args below meth c C => ?_)
  have C : bsCx p m c cX9_has 2 s args (Cond.code yX9_has cX9_has 2 (some .boolean) :: bsG) RX9 ρ cA dC dI Rz meth (some .boolean) := C
  rw [fX9_has] at hf
  refine v_sub [0, 1] rfl ?_
  refine v_aload_n C dX9_has_0 rfl rfl ?_
  refine v_iload_n C dX9_has_1 rfl rfl ?_
  refine v_iconst (v := 0) C dX9_has_2 (by decide) ?_
  obtain ⟨r1, hc2, hf⟩ := bs_bind hf
  refine v_callVi (y := yX9_of) (As := [.int a1, .int (0 : Int32)]) (rest := []) C (cX9_of_ok  hc2) ml_X9_56 wyX9_of (bsm_X9) (bsc_X9) rfl dpX9_of ⟨Nat.le_of_ble_eq_true rfl, Nat.le_of_ble_eq_true rfl⟩ ⟨rfl, rfl⟩ ⟨Nat.le_of_ble_eq_true rfl, Nat.le_of_ble_eq_true rfl⟩ rfl (Nat.le_of_ble_eq_true rfl) dX9_has_3 ?_
  refine v_iconst (v := 1) C dX9_has_6 (by decide) ?_
  refine v_icmp_ne (tgt := 14) C dX9_has_7 (by decide) (fun h3 => ?_) (fun h3 => ?_)
  · replace hf := bs_neg h3 hf
    refine v_iconst (v := 0) C dX9_has_14 (by decide) ?_
    exact v_zret C (bsZ01 (by decide)).1 hf dX9_has_15
  · replace hf := bs_pos h3 hf
    refine v_iconst (v := 1) C dX9_has_10 (by decide) ?_
    refine v_goto (tgt := 15) C dX9_has_11 (by decide) ?_
    exact v_zret C (bsZ01 (by decide)).1 hf dX9_has_15
/-! BootSlotsModel.isGood(I)Z -/
def fX9_isGood (a1 : Int32) (X : bsX) : Option (Int32 × bsX) := (fX9_of  a1 (3 : Int32) X).bind fun r1 => if r1.1 = (1 : Int32) then (some ((1 : Int32), r1.2)) else (some ((0 : Int32), r1.2))
abbrev rmX9_isGood : Room := { frames := 1, cells := 0, slots := 0, locals := 22 }
set_option maxHeartbeats 4000000 in
set_option maxRecDepth 100000 in
theorem cX9_isGood_ok {l : Launch} {ρ : bsR} {cA : Nat → ClassId} {dC : Nat → ClassId} {dI : Nat → Nat → Nat} {Rz : va_W}  {a1 : Int32} {X : bsX} {z : (Int32 × bsX)} (hf : fX9_isGood a1 X = some z) : bsMi l yX9_isGood cX9_isGood 2 (some .boolean) rmX9_isGood ρ cA dC dI Rz [.ref (ρ 14 0 0), .int a1] X z := by
  refine bsMi_of (by decide) (Nat.le_of_ble_eq_true rfl) (fun p e s m args below meth c C => ?_)
  have C : bsCx p m c cX9_isGood 2 s args (Cond.code yX9_isGood cX9_isGood 2 (some .boolean) :: bsG) RX9 ρ cA dC dI Rz meth (some .boolean) := C
  rw [fX9_isGood] at hf
  refine v_sub [0, 1] rfl ?_
  refine v_aload_n C dX9_isGood_0 rfl rfl ?_
  refine v_iload_n C dX9_isGood_1 rfl rfl ?_
  refine v_iconst (v := 3) C dX9_isGood_2 (by decide) ?_
  obtain ⟨r1, hc2, hf⟩ := bs_bind hf
  refine v_callVi (y := yX9_of) (As := [.int a1, .int (3 : Int32)]) (rest := []) C (cX9_of_ok  hc2) ml_X9_56 wyX9_of (bsm_X9) (bsc_X9) rfl dpX9_of ⟨Nat.le_of_ble_eq_true rfl, Nat.le_of_ble_eq_true rfl⟩ ⟨rfl, rfl⟩ ⟨Nat.le_of_ble_eq_true rfl, Nat.le_of_ble_eq_true rfl⟩ rfl (Nat.le_of_ble_eq_true rfl) dX9_isGood_3 ?_
  refine v_iconst (v := 1) C dX9_isGood_6 (by decide) ?_
  refine v_icmp_ne (tgt := 14) C dX9_isGood_7 (by decide) (fun h3 => ?_) (fun h3 => ?_)
  · replace hf := bs_neg h3 hf
    refine v_iconst (v := 0) C dX9_isGood_14 (by decide) ?_
    exact v_zret C (bsZ01 (by decide)).1 hf dX9_isGood_15
  · replace hf := bs_pos h3 hf
    refine v_iconst (v := 1) C dX9_isGood_10 (by decide) ?_
    refine v_goto (tgt := 15) C dX9_isGood_11 (by decide) ?_
    exact v_zret C (bsZ01 (by decide)).1 hf dX9_isGood_15
/-! BootSlotsModel.isOn(I)Z -/
def fX9_isOn (a1 : Int32) (X : bsX) : Option (Int32 × bsX) := if bsIn (6 : Int32) 160 then (if (X 14 1 0 (bsIx (6 : Int32))) = (1 : Int32) then (if bsIn (7 : Int32) 160 then (if (X 14 1 0 (bsIx (7 : Int32))) = a1 then (some ((1 : Int32), X)) else (some ((0 : Int32), X))) else none) else (some ((0 : Int32), X))) else none
abbrev rmX9_isOn : Room := { frames := 0, cells := 0, slots := 0, locals := 0 }
set_option maxHeartbeats 4000000 in
set_option maxRecDepth 100000 in
theorem cX9_isOn_ok {l : Launch} {ρ : bsR} {cA : Nat → ClassId} {dC : Nat → ClassId} {dI : Nat → Nat → Nat} {Rz : va_W}  {a1 : Int32} {X : bsX} {z : (Int32 × bsX)} (hf : fX9_isOn a1 X = some z) : bsMi l yX9_isOn cX9_isOn 2 (some .boolean) rmX9_isOn ρ cA dC dI Rz [.ref (ρ 14 0 0), .int a1] X z := by
  refine bsMi_of (by decide) (Nat.le_of_ble_eq_true rfl) (fun p e s m args below meth c C => ?_)
  have C : bsCx p m c cX9_isOn 2 s args (Cond.code yX9_isOn cX9_isOn 2 (some .boolean) :: bsG) RX9 ρ cA dC dI Rz meth (some .boolean) := C
  rw [fX9_isOn] at hf
  refine v_sub [0, 1] rfl ?_
  refine v_aload_n C dX9_isOn_0 rfl rfl ?_
  refine gf_X9_7 C dX9_isOn_1 ?_
  refine v_bipush (v := 6) C dX9_isOn_4 (by decide) ?_
  obtain ⟨hi1, hf⟩ := bs_if hf
  refine v_iald (n := 160) C bsm_14_1 bsc_14_1 hi1 dX9_isOn_6 ?_
  refine v_iconst (v := 1) C dX9_isOn_7 (by decide) ?_
  refine v_icmp_ne (tgt := 26) C dX9_isOn_8 (by decide) (fun h4 => ?_) (fun h4 => ?_)
  · replace hf := bs_neg h4 hf
    refine v_iconst (v := 0) C dX9_isOn_26 (by decide) ?_
    exact v_zret C (bsZ01 (by decide)).1 hf dX9_isOn_27
  · replace hf := bs_pos h4 hf
    refine v_aload_n C dX9_isOn_11 rfl rfl ?_
    refine gf_X9_7 C dX9_isOn_12 ?_
    refine v_bipush (v := 7) C dX9_isOn_15 (by decide) ?_
    obtain ⟨hi2, hf⟩ := bs_if hf
    refine v_iald (n := 160) C bsm_14_1 bsc_14_1 hi2 dX9_isOn_17 ?_
    refine v_iload_n C dX9_isOn_18 rfl rfl ?_
    refine v_icmp_ne (tgt := 26) C dX9_isOn_19 (by decide) (fun h3 => ?_) (fun h3 => ?_)
    · replace hf := bs_neg h3 hf
      refine v_iconst (v := 0) C dX9_isOn_26 (by decide) ?_
      exact v_zret C (bsZ01 (by decide)).1 hf dX9_isOn_27
    · replace hf := bs_pos h3 hf
      refine v_iconst (v := 1) C dX9_isOn_22 (by decide) ?_
      refine v_goto (tgt := 27) C dX9_isOn_23 (by decide) ?_
      exact v_zret C (bsZ01 (by decide)).1 hf dX9_isOn_27
/-! BootSlotsModel.hasInstall()Z -/
def fX9_hasInstall (X : bsX) : Option (Int32 × bsX) := if bsIn (20 : Int32) 160 then (if (X 14 1 0 (bsIx (20 : Int32))) = (-1 : Int32) then (some ((0 : Int32), X)) else (some ((1 : Int32), X))) else none
abbrev rmX9_hasInstall : Room := { frames := 0, cells := 0, slots := 0, locals := 0 }
set_option maxHeartbeats 4000000 in
set_option maxRecDepth 100000 in
theorem cX9_hasInstall_ok {l : Launch} {ρ : bsR} {cA : Nat → ClassId} {dC : Nat → ClassId} {dI : Nat → Nat → Nat} {Rz : va_W}  {X : bsX} {z : (Int32 × bsX)} (hf : fX9_hasInstall  X = some z) : bsMi l yX9_hasInstall cX9_hasInstall 1 (some .boolean) rmX9_hasInstall ρ cA dC dI Rz [.ref (ρ 14 0 0)] X z := by
  refine bsMi_of (by decide) (Nat.le_of_ble_eq_true rfl) (fun p e s m args below meth c C => ?_)
  have C : bsCx p m c cX9_hasInstall 1 s args (Cond.code yX9_hasInstall cX9_hasInstall 1 (some .boolean) :: bsG) RX9 ρ cA dC dI Rz meth (some .boolean) := C
  rw [fX9_hasInstall] at hf
  refine v_sub [0] rfl ?_
  refine v_aload_n C dX9_hasInstall_0 rfl rfl ?_
  refine gf_X9_7 C dX9_hasInstall_1 ?_
  refine v_bipush (v := 20) C dX9_hasInstall_4 (by decide) ?_
  obtain ⟨hi1, hf⟩ := bs_if hf
  refine v_iald (n := 160) C bsm_14_1 bsc_14_1 hi1 dX9_hasInstall_6 ?_
  refine v_iconst (v := -1) C dX9_hasInstall_7 (by decide) ?_
  refine v_icmp_eq (tgt := 15) C dX9_hasInstall_8 (by decide) (fun h2 => ?_) (fun h2 => ?_)
  · replace hf := bs_pos h2 hf
    refine v_iconst (v := 0) C dX9_hasInstall_15 (by decide) ?_
    exact v_zret C (bsZ01 (by decide)).1 hf dX9_hasInstall_16
  · replace hf := bs_neg h2 hf
    refine v_iconst (v := 1) C dX9_hasInstall_11 (by decide) ?_
    refine v_goto (tgt := 16) C dX9_hasInstall_12 (by decide) ?_
    exact v_zret C (bsZ01 (by decide)).1 hf dX9_hasInstall_16
/-! BootSlotsModel.whyOf(I)I -/
def fX9_whyOf_69 (X : bsX) : Option (Int32 × bsX) := some ((0 : Int32), X)
def fX9_whyOf (a1 : Int32) (X : bsX) : Option (Int32 × bsX) := (fX9_has  a1 X).bind fun r1 => if r1.1 = 0 then (some ((1 : Int32), r1.2)) else ((fX9_of  a1 (11 : Int32) r1.2).bind fun r3 => if r3.1 = (1 : Int32) then (some ((2 : Int32), r3.2)) else ((fX9_of  a1 (8 : Int32) r3.2).bind fun r5 => if bsIn (5 : Int32) 160 then (if (r5.2 14 1 0 (bsIx (5 : Int32))) ≤ r5.1 then ((fX9_of  a1 (1 : Int32) r5.2).bind fun r8 => if r8.1 = 0 then (some ((4 : Int32), r8.2)) else ((fX9_isGood  a1 r8.2).bind fun r10 => if r10.1 = 0 then ((fX9_of  a1 (2 : Int32) r10.2).bind fun r12 => if r12.1 ≤ 0 then (some ((5 : Int32), r12.2)) else (fX9_whyOf_69    r12.2)) else (fX9_whyOf_69    r10.2))) else (some ((3 : Int32), r5.2))) else none))
abbrev rmX9_whyOf : Room := { frames := 2, cells := 0, slots := 0, locals := 43 }
set_option maxHeartbeats 4000000 in
set_option maxRecDepth 100000 in
theorem wX9_whyOf_69 {p : Program} {l : Launch} {e : Env} {s : State} {m : MethodId} {args : Array Value} {below : List Frame} {meth : Method} {c : Code} {ρ : bsR} {cA : Nat → ClassId} {dC : Nat → ClassId} {dI : Nat → Nat → Nat} {Rz : va_W} {Ts : List Cond}   {z : (Int32 × bsX)} (C : bsCx p m c cX9_whyOf 2 s args Ts RX9 ρ cA dC dI Rz meth (some .int)) (X : bsX) (hf : fX9_whyOf_69  X = some z) : bsV p l e rmX9_whyOf s m args below meth c 0 0 (MQ below (bsQi ρ cA dC dI Rz z s.heap.size) args s 0 0 (bsA ρ cA Rz s.heap.size)) ρ cA dC dI Rz 2 69 [] [] X := by
  rw [fX9_whyOf_69] at hf
  refine v_iconst (v := 0) C dX9_whyOf_69 (by decide) ?_
  refine v_goto (tgt := 74) C dX9_whyOf_70 (by decide) ?_
  exact v_iret C hf dX9_whyOf_74
set_option maxHeartbeats 4000000 in
set_option maxRecDepth 100000 in
theorem cX9_whyOf_ok {l : Launch} {ρ : bsR} {cA : Nat → ClassId} {dC : Nat → ClassId} {dI : Nat → Nat → Nat} {Rz : va_W}  {a1 : Int32} {X : bsX} {z : (Int32 × bsX)} (hf : fX9_whyOf a1 X = some z) : bsMi l yX9_whyOf cX9_whyOf 2 (some .int) rmX9_whyOf ρ cA dC dI Rz [.ref (ρ 14 0 0), .int a1] X z := by
  refine bsMi_of (by decide) (Nat.le_of_ble_eq_true rfl) (fun p e s m args below meth c C => ?_)
  have C : bsCx p m c cX9_whyOf 2 s args (Cond.code yX9_whyOf cX9_whyOf 2 (some .int) :: bsG) RX9 ρ cA dC dI Rz meth (some .int) := C
  rw [fX9_whyOf] at hf
  refine v_sub [0, 1] rfl ?_
  refine v_aload_n C dX9_whyOf_0 rfl rfl ?_
  refine v_iload_n C dX9_whyOf_1 rfl rfl ?_
  obtain ⟨r1, hc2, hf⟩ := bs_bind hf
  refine v_callVi (y := yX9_has) (As := [.int a1]) (rest := []) C (cX9_has_ok  hc2) ml_X9_60 wyX9_has (bsm_X9) (bsc_X9) rfl dpX9_has ⟨Nat.le_of_ble_eq_true rfl, Nat.le_of_ble_eq_true rfl⟩ ⟨rfl, rfl⟩ ⟨Nat.le_of_ble_eq_true rfl, Nat.le_of_ble_eq_true rfl⟩ rfl (Nat.le_of_ble_eq_true rfl) dX9_whyOf_2 ?_
  refine v_if_ne (tgt := 10) C dX9_whyOf_5 (by decide) (fun h19 => ?_) (fun h19 => ?_)
  · replace hf := bs_neg h19 hf
    refine v_aload_n C dX9_whyOf_10 rfl rfl ?_
    refine v_iload_n C dX9_whyOf_11 rfl rfl ?_
    refine v_bipush (v := 11) C dX9_whyOf_12 (by decide) ?_
    obtain ⟨r3, hc4, hf⟩ := bs_bind hf
    refine v_callVi (y := yX9_of) (As := [.int a1, .int (11 : Int32)]) (rest := []) C (cX9_of_ok  hc4) ml_X9_56 wyX9_of (bsm_X9) (bsc_X9) rfl dpX9_of ⟨Nat.le_of_ble_eq_true rfl, Nat.le_of_ble_eq_true rfl⟩ ⟨rfl, rfl⟩ ⟨Nat.le_of_ble_eq_true rfl, Nat.le_of_ble_eq_true rfl⟩ rfl (Nat.le_of_ble_eq_true rfl) dX9_whyOf_14 ?_
    refine v_iconst (v := 1) C dX9_whyOf_17 (by decide) ?_
    refine v_icmp_ne (tgt := 23) C dX9_whyOf_18 (by decide) (fun h18 => ?_) (fun h18 => ?_)
    · replace hf := bs_neg h18 hf
      refine v_aload_n C dX9_whyOf_23 rfl rfl ?_
      refine v_iload_n C dX9_whyOf_24 rfl rfl ?_
      refine v_bipush (v := 8) C dX9_whyOf_25 (by decide) ?_
      obtain ⟨r5, hc6, hf⟩ := bs_bind hf
      refine v_callVi (y := yX9_of) (As := [.int a1, .int (8 : Int32)]) (rest := []) C (cX9_of_ok  hc6) ml_X9_56 wyX9_of (bsm_X9) (bsc_X9) rfl dpX9_of ⟨Nat.le_of_ble_eq_true rfl, Nat.le_of_ble_eq_true rfl⟩ ⟨rfl, rfl⟩ ⟨Nat.le_of_ble_eq_true rfl, Nat.le_of_ble_eq_true rfl⟩ rfl (Nat.le_of_ble_eq_true rfl) dX9_whyOf_27 ?_
      refine v_aload_n C dX9_whyOf_30 rfl rfl ?_
      refine gf_X9_7 C dX9_whyOf_31 ?_
      refine v_iconst (v := 5) C dX9_whyOf_34 (by decide) ?_
      obtain ⟨hi7, hf⟩ := bs_if hf
      refine v_iald (n := 160) C bsm_14_1 bsc_14_1 hi7 dX9_whyOf_35 ?_
      refine v_icmp_ge (tgt := 41) C dX9_whyOf_36 (by decide) (fun h17 => ?_) (fun h17 => ?_)
      · replace hf := bs_pos h17 hf
        refine v_aload_n C dX9_whyOf_41 rfl rfl ?_
        refine v_iload_n C dX9_whyOf_42 rfl rfl ?_
        refine v_iconst (v := 1) C dX9_whyOf_43 (by decide) ?_
        obtain ⟨r8, hc9, hf⟩ := bs_bind hf
        refine v_callVi (y := yX9_of) (As := [.int a1, .int (1 : Int32)]) (rest := []) C (cX9_of_ok  hc9) ml_X9_56 wyX9_of (bsm_X9) (bsc_X9) rfl dpX9_of ⟨Nat.le_of_ble_eq_true rfl, Nat.le_of_ble_eq_true rfl⟩ ⟨rfl, rfl⟩ ⟨Nat.le_of_ble_eq_true rfl, Nat.le_of_ble_eq_true rfl⟩ rfl (Nat.le_of_ble_eq_true rfl) dX9_whyOf_44 ?_
        refine v_if_ne (tgt := 52) C dX9_whyOf_47 (by decide) (fun h16 => ?_) (fun h16 => ?_)
        · replace hf := bs_neg h16 hf
          refine v_aload_n C dX9_whyOf_52 rfl rfl ?_
          refine v_iload_n C dX9_whyOf_53 rfl rfl ?_
          obtain ⟨r10, hc11, hf⟩ := bs_bind hf
          refine v_callVi (y := yX9_isGood) (As := [.int a1]) (rest := []) C (cX9_isGood_ok  hc11) ml_X9_63 wyX9_isGood (bsm_X9) (bsc_X9) rfl dpX9_isGood ⟨Nat.le_of_ble_eq_true rfl, Nat.le_of_ble_eq_true rfl⟩ ⟨rfl, rfl⟩ ⟨Nat.le_of_ble_eq_true rfl, Nat.le_of_ble_eq_true rfl⟩ rfl (Nat.le_of_ble_eq_true rfl) dX9_whyOf_54 ?_
          refine v_if_ne (tgt := 69) C dX9_whyOf_57 (by decide) (fun h15 => ?_) (fun h15 => ?_)
          · replace hf := bs_neg h15 hf
            refine v_sub [] rfl ?_
            exact wX9_whyOf_69   C  _  hf
          · replace hf := bs_pos h15 hf
            refine v_aload_n C dX9_whyOf_60 rfl rfl ?_
            refine v_iload_n C dX9_whyOf_61 rfl rfl ?_
            refine v_iconst (v := 2) C dX9_whyOf_62 (by decide) ?_
            obtain ⟨r12, hc13, hf⟩ := bs_bind hf
            refine v_callVi (y := yX9_of) (As := [.int a1, .int (2 : Int32)]) (rest := []) C (cX9_of_ok  hc13) ml_X9_56 wyX9_of (bsm_X9) (bsc_X9) rfl dpX9_of ⟨Nat.le_of_ble_eq_true rfl, Nat.le_of_ble_eq_true rfl⟩ ⟨rfl, rfl⟩ ⟨Nat.le_of_ble_eq_true rfl, Nat.le_of_ble_eq_true rfl⟩ rfl (Nat.le_of_ble_eq_true rfl) dX9_whyOf_63 ?_
            refine v_if_le (tgt := 73) C dX9_whyOf_66 (by decide) (fun h14 => ?_) (fun h14 => ?_)
            · replace hf := bs_pos h14 hf
              refine v_iconst (v := 5) C dX9_whyOf_73 (by decide) ?_
              exact v_iret C hf dX9_whyOf_74
            · replace hf := bs_neg h14 hf
              refine v_sub [] rfl ?_
              exact wX9_whyOf_69   C  _  hf
        · replace hf := bs_pos h16 hf
          refine v_iconst (v := 4) C dX9_whyOf_50 (by decide) ?_
          exact v_iret C hf dX9_whyOf_51
      · replace hf := bs_neg h17 hf
        refine v_iconst (v := 3) C dX9_whyOf_39 (by decide) ?_
        exact v_iret C hf dX9_whyOf_40
    · replace hf := bs_pos h18 hf
      refine v_iconst (v := 2) C dX9_whyOf_21 (by decide) ?_
      exact v_iret C hf dX9_whyOf_22
  · replace hf := bs_pos h19 hf
    refine v_iconst (v := 1) C dX9_whyOf_8 (by decide) ?_
    exact v_iret C hf dX9_whyOf_9
/-! BootSlotsModel.canBoot(I)Z -/
def fX9_canBoot (a1 : Int32) (X : bsX) : Option (Int32 × bsX) := (fX9_whyOf  a1 X).bind fun r1 => if r1.1 = 0 then (some ((1 : Int32), r1.2)) else (some ((0 : Int32), r1.2))
abbrev rmX9_canBoot : Room := { frames := 3, cells := 0, slots := 0, locals := 64 }
set_option maxHeartbeats 4000000 in
set_option maxRecDepth 100000 in
theorem cX9_canBoot_ok {l : Launch} {ρ : bsR} {cA : Nat → ClassId} {dC : Nat → ClassId} {dI : Nat → Nat → Nat} {Rz : va_W}  {a1 : Int32} {X : bsX} {z : (Int32 × bsX)} (hf : fX9_canBoot a1 X = some z) : bsMi l yX9_canBoot cX9_canBoot 2 (some .boolean) rmX9_canBoot ρ cA dC dI Rz [.ref (ρ 14 0 0), .int a1] X z := by
  refine bsMi_of (by decide) (Nat.le_of_ble_eq_true rfl) (fun p e s m args below meth c C => ?_)
  have C : bsCx p m c cX9_canBoot 2 s args (Cond.code yX9_canBoot cX9_canBoot 2 (some .boolean) :: bsG) RX9 ρ cA dC dI Rz meth (some .boolean) := C
  rw [fX9_canBoot] at hf
  refine v_sub [0, 1] rfl ?_
  refine v_aload_n C dX9_canBoot_0 rfl rfl ?_
  refine v_iload_n C dX9_canBoot_1 rfl rfl ?_
  obtain ⟨r1, hc2, hf⟩ := bs_bind hf
  refine v_callVi (y := yX9_whyOf) (As := [.int a1]) (rest := []) C (cX9_whyOf_ok  hc2) ml_X9_66 wyX9_whyOf (bsm_X9) (bsc_X9) rfl dpX9_whyOf ⟨Nat.le_of_ble_eq_true rfl, Nat.le_of_ble_eq_true rfl⟩ ⟨rfl, rfl⟩ ⟨Nat.le_of_ble_eq_true rfl, Nat.le_of_ble_eq_true rfl⟩ rfl (Nat.le_of_ble_eq_true rfl) dX9_canBoot_2 ?_
  refine v_if_ne (tgt := 12) C dX9_canBoot_5 (by decide) (fun h3 => ?_) (fun h3 => ?_)
  · replace hf := bs_neg h3 hf
    refine v_iconst (v := 0) C dX9_canBoot_12 (by decide) ?_
    exact v_zret C (bsZ01 (by decide)).1 hf dX9_canBoot_13
  · replace hf := bs_pos h3 hf
    refine v_iconst (v := 1) C dX9_canBoot_8 (by decide) ?_
    refine v_goto (tgt := 13) C dX9_canBoot_9 (by decide) ?_
    exact v_zret C (bsZ01 (by decide)).1 hf dX9_canBoot_13
/-! BootSlotsModel.isAhead(II)Z -/
def fX9_isAhead (a1 : Int32) (a2 : Int32) (X : bsX) : Option (Int32 × bsX) := (fX9_of  a1 (1 : Int32) X).bind fun r1 => (fX9_of  a2 (1 : Int32) r1.2).bind fun r3 => if r1.1 = r3.1 then ((fX9_of  a1 (3 : Int32) r3.2).bind fun r5 => (fX9_of  a2 (3 : Int32) r5.2).bind fun r7 => if r5.1 = r7.1 then ((fX9_of  a1 (8 : Int32) r7.2).bind fun r9 => (fX9_of  a2 (8 : Int32) r9.2).bind fun r11 => if r9.1 = r11.1 then (if a2 ≤ a1 then (some ((0 : Int32), r11.2)) else (some ((1 : Int32), r11.2))) else ((fX9_of  a1 (8 : Int32) r11.2).bind fun r14 => (fX9_of  a2 (8 : Int32) r14.2).bind fun r16 => if r14.1 ≤ r16.1 then (some ((0 : Int32), r16.2)) else (some ((1 : Int32), r16.2)))) else ((fX9_isGood  a1 r7.2).bind fun r20 => if r20.1 = 0 ∨ r20.1 = 1 then (some (r20.1, r20.2)) else none)) else ((fX9_of  a1 (1 : Int32) r3.2).bind fun r24 => (fX9_of  a2 (1 : Int32) r24.2).bind fun r26 => if r24.1 ≤ r26.1 then (some ((0 : Int32), r26.2)) else (some ((1 : Int32), r26.2)))
abbrev rmX9_isAhead : Room := { frames := 2, cells := 0, slots := 0, locals := 43 }
set_option maxHeartbeats 4000000 in
set_option maxRecDepth 100000 in
theorem cX9_isAhead_ok {l : Launch} {ρ : bsR} {cA : Nat → ClassId} {dC : Nat → ClassId} {dI : Nat → Nat → Nat} {Rz : va_W}  {a1 : Int32} {a2 : Int32} {X : bsX} {z : (Int32 × bsX)} (hf : fX9_isAhead a1 a2 X = some z) : bsMi l yX9_isAhead cX9_isAhead 3 (some .boolean) rmX9_isAhead ρ cA dC dI Rz [.ref (ρ 14 0 0), .int a1, .int a2] X z := by
  refine bsMi_of (by decide) (Nat.le_of_ble_eq_true rfl) (fun p e s m args below meth c C => ?_)
  have C : bsCx p m c cX9_isAhead 3 s args (Cond.code yX9_isAhead cX9_isAhead 3 (some .boolean) :: bsG) RX9 ρ cA dC dI Rz meth (some .boolean) := C
  rw [fX9_isAhead] at hf
  refine v_sub [0, 1, 2] rfl ?_
  refine v_aload_n C dX9_isAhead_0 rfl rfl ?_
  refine v_iload_n C dX9_isAhead_1 rfl rfl ?_
  refine v_iconst (v := 1) C dX9_isAhead_2 (by decide) ?_
  obtain ⟨r1, hc2, hf⟩ := bs_bind hf
  refine v_callVi (y := yX9_of) (As := [.int a1, .int (1 : Int32)]) (rest := []) C (cX9_of_ok  hc2) ml_X9_56 wyX9_of (bsm_X9) (bsc_X9) rfl dpX9_of ⟨Nat.le_of_ble_eq_true rfl, Nat.le_of_ble_eq_true rfl⟩ ⟨rfl, rfl⟩ ⟨Nat.le_of_ble_eq_true rfl, Nat.le_of_ble_eq_true rfl⟩ rfl (Nat.le_of_ble_eq_true rfl) dX9_isAhead_3 ?_
  refine v_aload_n C dX9_isAhead_6 rfl rfl ?_
  refine v_iload_n C dX9_isAhead_7 rfl rfl ?_
  refine v_iconst (v := 1) C dX9_isAhead_8 (by decide) ?_
  obtain ⟨r3, hc4, hf⟩ := bs_bind hf
  refine v_callVi (y := yX9_of) (As := [.int a2, .int (1 : Int32)]) (rest := [.int r1.1]) C (cX9_of_ok  hc4) ml_X9_56 wyX9_of (bsm_X9) (bsc_X9) rfl dpX9_of ⟨Nat.le_of_ble_eq_true rfl, Nat.le_of_ble_eq_true rfl⟩ ⟨rfl, rfl⟩ ⟨Nat.le_of_ble_eq_true rfl, Nat.le_of_ble_eq_true rfl⟩ rfl (Nat.le_of_ble_eq_true rfl) dX9_isAhead_9 ?_
  refine v_icmp_eq (tgt := 36) C dX9_isAhead_12 (by decide) (fun h29 => ?_) (fun h29 => ?_)
  · replace hf := bs_pos h29 hf
    refine v_aload_n C dX9_isAhead_36 rfl rfl ?_
    refine v_iload_n C dX9_isAhead_37 rfl rfl ?_
    refine v_iconst (v := 3) C dX9_isAhead_38 (by decide) ?_
    obtain ⟨r5, hc6, hf⟩ := bs_bind hf
    refine v_callVi (y := yX9_of) (As := [.int a1, .int (3 : Int32)]) (rest := []) C (cX9_of_ok  hc6) ml_X9_56 wyX9_of (bsm_X9) (bsc_X9) rfl dpX9_of ⟨Nat.le_of_ble_eq_true rfl, Nat.le_of_ble_eq_true rfl⟩ ⟨rfl, rfl⟩ ⟨Nat.le_of_ble_eq_true rfl, Nat.le_of_ble_eq_true rfl⟩ rfl (Nat.le_of_ble_eq_true rfl) dX9_isAhead_39 ?_
    refine v_aload_n C dX9_isAhead_42 rfl rfl ?_
    refine v_iload_n C dX9_isAhead_43 rfl rfl ?_
    refine v_iconst (v := 3) C dX9_isAhead_44 (by decide) ?_
    obtain ⟨r7, hc8, hf⟩ := bs_bind hf
    refine v_callVi (y := yX9_of) (As := [.int a2, .int (3 : Int32)]) (rest := [.int r5.1]) C (cX9_of_ok  hc8) ml_X9_56 wyX9_of (bsm_X9) (bsc_X9) rfl dpX9_of ⟨Nat.le_of_ble_eq_true rfl, Nat.le_of_ble_eq_true rfl⟩ ⟨rfl, rfl⟩ ⟨Nat.le_of_ble_eq_true rfl, Nat.le_of_ble_eq_true rfl⟩ rfl (Nat.le_of_ble_eq_true rfl) dX9_isAhead_45 ?_
    refine v_icmp_eq (tgt := 57) C dX9_isAhead_48 (by decide) (fun h23 => ?_) (fun h23 => ?_)
    · replace hf := bs_pos h23 hf
      refine v_aload_n C dX9_isAhead_57 rfl rfl ?_
      refine v_iload_n C dX9_isAhead_58 rfl rfl ?_
      refine v_bipush (v := 8) C dX9_isAhead_59 (by decide) ?_
      obtain ⟨r9, hc10, hf⟩ := bs_bind hf
      refine v_callVi (y := yX9_of) (As := [.int a1, .int (8 : Int32)]) (rest := []) C (cX9_of_ok  hc10) ml_X9_56 wyX9_of (bsm_X9) (bsc_X9) rfl dpX9_of ⟨Nat.le_of_ble_eq_true rfl, Nat.le_of_ble_eq_true rfl⟩ ⟨rfl, rfl⟩ ⟨Nat.le_of_ble_eq_true rfl, Nat.le_of_ble_eq_true rfl⟩ rfl (Nat.le_of_ble_eq_true rfl) dX9_isAhead_61 ?_
      refine v_aload_n C dX9_isAhead_64 rfl rfl ?_
      refine v_iload_n C dX9_isAhead_65 rfl rfl ?_
      refine v_bipush (v := 8) C dX9_isAhead_66 (by decide) ?_
      obtain ⟨r11, hc12, hf⟩ := bs_bind hf
      refine v_callVi (y := yX9_of) (As := [.int a2, .int (8 : Int32)]) (rest := [.int r9.1]) C (cX9_of_ok  hc12) ml_X9_56 wyX9_of (bsm_X9) (bsc_X9) rfl dpX9_of ⟨Nat.le_of_ble_eq_true rfl, Nat.le_of_ble_eq_true rfl⟩ ⟨rfl, rfl⟩ ⟨Nat.le_of_ble_eq_true rfl, Nat.le_of_ble_eq_true rfl⟩ rfl (Nat.le_of_ble_eq_true rfl) dX9_isAhead_68 ?_
      refine v_icmp_eq (tgt := 97) C dX9_isAhead_71 (by decide) (fun h19 => ?_) (fun h19 => ?_)
      · replace hf := bs_pos h19 hf
        refine v_iload_n C dX9_isAhead_97 rfl rfl ?_
        refine v_iload_n C dX9_isAhead_98 rfl rfl ?_
        refine v_icmp_ge (tgt := 106) C dX9_isAhead_99 (by decide) (fun h13 => ?_) (fun h13 => ?_)
        · replace hf := bs_pos h13 hf
          refine v_iconst (v := 0) C dX9_isAhead_106 (by decide) ?_
          exact v_zret C (bsZ01 (by decide)).1 hf dX9_isAhead_107
        · replace hf := bs_neg h13 hf
          refine v_iconst (v := 1) C dX9_isAhead_102 (by decide) ?_
          refine v_goto (tgt := 107) C dX9_isAhead_103 (by decide) ?_
          exact v_zret C (bsZ01 (by decide)).1 hf dX9_isAhead_107
      · replace hf := bs_neg h19 hf
        refine v_aload_n C dX9_isAhead_74 rfl rfl ?_
        refine v_iload_n C dX9_isAhead_75 rfl rfl ?_
        refine v_bipush (v := 8) C dX9_isAhead_76 (by decide) ?_
        obtain ⟨r14, hc15, hf⟩ := bs_bind hf
        refine v_callVi (y := yX9_of) (As := [.int a1, .int (8 : Int32)]) (rest := []) C (cX9_of_ok  hc15) ml_X9_56 wyX9_of (bsm_X9) (bsc_X9) rfl dpX9_of ⟨Nat.le_of_ble_eq_true rfl, Nat.le_of_ble_eq_true rfl⟩ ⟨rfl, rfl⟩ ⟨Nat.le_of_ble_eq_true rfl, Nat.le_of_ble_eq_true rfl⟩ rfl (Nat.le_of_ble_eq_true rfl) dX9_isAhead_78 ?_
        refine v_aload_n C dX9_isAhead_81 rfl rfl ?_
        refine v_iload_n C dX9_isAhead_82 rfl rfl ?_
        refine v_bipush (v := 8) C dX9_isAhead_83 (by decide) ?_
        obtain ⟨r16, hc17, hf⟩ := bs_bind hf
        refine v_callVi (y := yX9_of) (As := [.int a2, .int (8 : Int32)]) (rest := [.int r14.1]) C (cX9_of_ok  hc17) ml_X9_56 wyX9_of (bsm_X9) (bsc_X9) rfl dpX9_of ⟨Nat.le_of_ble_eq_true rfl, Nat.le_of_ble_eq_true rfl⟩ ⟨rfl, rfl⟩ ⟨Nat.le_of_ble_eq_true rfl, Nat.le_of_ble_eq_true rfl⟩ rfl (Nat.le_of_ble_eq_true rfl) dX9_isAhead_85 ?_
        refine v_icmp_le (tgt := 95) C dX9_isAhead_88 (by decide) (fun h18 => ?_) (fun h18 => ?_)
        · replace hf := bs_pos h18 hf
          refine v_iconst (v := 0) C dX9_isAhead_95 (by decide) ?_
          exact v_zret C (bsZ01 (by decide)).1 hf dX9_isAhead_96
        · replace hf := bs_neg h18 hf
          refine v_iconst (v := 1) C dX9_isAhead_91 (by decide) ?_
          refine v_goto (tgt := 96) C dX9_isAhead_92 (by decide) ?_
          exact v_zret C (bsZ01 (by decide)).1 hf dX9_isAhead_96
    · replace hf := bs_neg h23 hf
      refine v_aload_n C dX9_isAhead_51 rfl rfl ?_
      refine v_iload_n C dX9_isAhead_52 rfl rfl ?_
      obtain ⟨r20, hc21, hf⟩ := bs_bind hf
      refine v_callVi (y := yX9_isGood) (As := [.int a1]) (rest := []) C (cX9_isGood_ok  hc21) ml_X9_63 wyX9_isGood (bsm_X9) (bsc_X9) rfl dpX9_isGood ⟨Nat.le_of_ble_eq_true rfl, Nat.le_of_ble_eq_true rfl⟩ ⟨rfl, rfl⟩ ⟨Nat.le_of_ble_eq_true rfl, Nat.le_of_ble_eq_true rfl⟩ rfl (Nat.le_of_ble_eq_true rfl) dX9_isAhead_53 ?_
      obtain ⟨hb22, hf⟩ := bs_if hf
      exact v_zret C (bsZ01 hb22).1 hf dX9_isAhead_56
  · replace hf := bs_neg h29 hf
    refine v_aload_n C dX9_isAhead_15 rfl rfl ?_
    refine v_iload_n C dX9_isAhead_16 rfl rfl ?_
    refine v_iconst (v := 1) C dX9_isAhead_17 (by decide) ?_
    obtain ⟨r24, hc25, hf⟩ := bs_bind hf
    refine v_callVi (y := yX9_of) (As := [.int a1, .int (1 : Int32)]) (rest := []) C (cX9_of_ok  hc25) ml_X9_56 wyX9_of (bsm_X9) (bsc_X9) rfl dpX9_of ⟨Nat.le_of_ble_eq_true rfl, Nat.le_of_ble_eq_true rfl⟩ ⟨rfl, rfl⟩ ⟨Nat.le_of_ble_eq_true rfl, Nat.le_of_ble_eq_true rfl⟩ rfl (Nat.le_of_ble_eq_true rfl) dX9_isAhead_18 ?_
    refine v_aload_n C dX9_isAhead_21 rfl rfl ?_
    refine v_iload_n C dX9_isAhead_22 rfl rfl ?_
    refine v_iconst (v := 1) C dX9_isAhead_23 (by decide) ?_
    obtain ⟨r26, hc27, hf⟩ := bs_bind hf
    refine v_callVi (y := yX9_of) (As := [.int a2, .int (1 : Int32)]) (rest := [.int r24.1]) C (cX9_of_ok  hc27) ml_X9_56 wyX9_of (bsm_X9) (bsc_X9) rfl dpX9_of ⟨Nat.le_of_ble_eq_true rfl, Nat.le_of_ble_eq_true rfl⟩ ⟨rfl, rfl⟩ ⟨Nat.le_of_ble_eq_true rfl, Nat.le_of_ble_eq_true rfl⟩ rfl (Nat.le_of_ble_eq_true rfl) dX9_isAhead_24 ?_
    refine v_icmp_le (tgt := 34) C dX9_isAhead_27 (by decide) (fun h28 => ?_) (fun h28 => ?_)
    · replace hf := bs_pos h28 hf
      refine v_iconst (v := 0) C dX9_isAhead_34 (by decide) ?_
      exact v_zret C (bsZ01 (by decide)).1 hf dX9_isAhead_35
    · replace hf := bs_neg h28 hf
      refine v_iconst (v := 1) C dX9_isAhead_30 (by decide) ?_
      refine v_goto (tgt := 35) C dX9_isAhead_31 (by decide) ?_
      exact v_zret C (bsZ01 (by decide)).1 hf dX9_isAhead_35
/-! BootSlotsModel.first()I -/
def fX9_first_38 (k4 : Int32 → Int32 → bsX → Option (Int32 × bsX)) (x1 : Int32) (x2 : Int32) (X : bsX) : Option (Int32 × bsX) := k4 x1 (x2 + (1 : Int32)) X
def fX9_first_36 (k4 : Int32 → Int32 → bsX → Option (Int32 × bsX)) (x2 : Int32) (X : bsX) : Option (Int32 × bsX) := fX9_first_38  k4 x2 x2 X
def fX9_first_4 : Nat → Int32 → Int32 → bsX → Option (Int32 × bsX)
  | 0, _, _, _ => none
  | n + 1, x1, x2, X => if bsIn (0 : Int32) 160 then (if (X 14 1 0 (bsIx (0 : Int32))) ≤ x2 then (some (x1, X)) else ((fX9_canBoot  x2 X).bind fun r2 => if r2.1 = 0 then (fX9_first_38  (fX9_first_4  n) x1 x2 r2.2) else (if x1 = (-1 : Int32) then (fX9_first_36  (fX9_first_4  n) x2 r2.2) else ((fX9_isAhead  x2 x1 r2.2).bind fun r4 => if r4.1 = 0 then (fX9_first_38  (fX9_first_4  n) x1 x2 r4.2) else (fX9_first_36  (fX9_first_4  n) x2 r4.2))))) else none
def fX9_first (X : bsX) : Option (Int32 × bsX) := fX9_first_4   bsF (-1 : Int32) (0 : Int32) X
abbrev rmX9_first : Room := { frames := 4, cells := 0, slots := 0, locals := 85 }
set_option maxHeartbeats 4000000 in
set_option maxRecDepth 100000 in
theorem wX9_first_38 {p : Program} {l : Launch} {e : Env} {s : State} {m : MethodId} {args : Array Value} {below : List Frame} {meth : Method} {c : Code} {ρ : bsR} {cA : Nat → ClassId} {dC : Nat → ClassId} {dI : Nat → Nat → Nat} {Rz : va_W} {Ts : List Cond}  (k4 : Int32 → Int32 → bsX → Option (Int32 × bsX))  {z : (Int32 × bsX)} (C : bsCx p m c cX9_first 3 s args Ts RX9 ρ cA dC dI Rz meth (some .int)) (hk4 : ∀ (x1 : Int32) (x2 : Int32) (X : bsX), k4 x1 x2 X = some z → bsV p l e rmX9_first s m args below meth c 0 0 (MQ below (bsQi ρ cA dC dI Rz z s.heap.size) args s 0 0 (bsA ρ cA Rz s.heap.size)) ρ cA dC dI Rz 3 4 [(0, .ref (ρ 14 0 0)), (1, .int x1), (2, .int x2)] [] X)  (x1 : Int32) (x2 : Int32) (X : bsX) (hf : fX9_first_38 k4 x1 x2 X = some z) : bsV p l e rmX9_first s m args below meth c 0 0 (MQ below (bsQi ρ cA dC dI Rz z s.heap.size) args s 0 0 (bsA ρ cA Rz s.heap.size)) ρ cA dC dI Rz 3 38 [(0, .ref (ρ 14 0 0)), (1, .int x1), (2, .int x2)] [] X := by
  rw [fX9_first_38] at hf
  refine v_iinc (k0 := 2) (v := (x2 + (1 : Int32))) (lv' := [(2, .int (x2 + (1 : Int32))), (0, .ref (ρ 14 0 0)), (1, .int x1)]) C dX9_first_38 rfl rfl (by decide) rfl ?_
  refine v_goto (tgt := 4) C dX9_first_41 (by decide) ?_
  refine v_sub [1, 2, 0] rfl ?_
  exact hk4 _ _ _  hf
set_option maxHeartbeats 4000000 in
set_option maxRecDepth 100000 in
theorem wX9_first_36 {p : Program} {l : Launch} {e : Env} {s : State} {m : MethodId} {args : Array Value} {below : List Frame} {meth : Method} {c : Code} {ρ : bsR} {cA : Nat → ClassId} {dC : Nat → ClassId} {dI : Nat → Nat → Nat} {Rz : va_W} {Ts : List Cond}  (k4 : Int32 → Int32 → bsX → Option (Int32 × bsX))  {z : (Int32 × bsX)} (C : bsCx p m c cX9_first 3 s args Ts RX9 ρ cA dC dI Rz meth (some .int)) (hk4 : ∀ (x1 : Int32) (x2 : Int32) (X : bsX), k4 x1 x2 X = some z → bsV p l e rmX9_first s m args below meth c 0 0 (MQ below (bsQi ρ cA dC dI Rz z s.heap.size) args s 0 0 (bsA ρ cA Rz s.heap.size)) ρ cA dC dI Rz 3 4 [(0, .ref (ρ 14 0 0)), (1, .int x1), (2, .int x2)] [] X)  (x2 : Int32) (X : bsX) (hf : fX9_first_36 k4 x2 X = some z) : bsV p l e rmX9_first s m args below meth c 0 0 (MQ below (bsQi ρ cA dC dI Rz z s.heap.size) args s 0 0 (bsA ρ cA Rz s.heap.size)) ρ cA dC dI Rz 3 36 [(0, .ref (ρ 14 0 0)), (2, .int x2)] [] X := by
  rw [fX9_first_36] at hf
  refine v_iload_n C dX9_first_36 rfl rfl ?_
  refine v_istore_n (lv' := [(1, .int x2), (0, .ref (ρ 14 0 0)), (2, .int x2)]) C dX9_first_37 rfl (by decide) rfl ?_
  refine v_sub [1, 0, 2] rfl ?_
  exact wX9_first_38  k4 C hk4 _ _ _  hf
set_option maxHeartbeats 4000000 in
set_option maxRecDepth 100000 in
theorem wX9_first_4 {p : Program} {l : Launch} {e : Env} {s : State} {m : MethodId} {args : Array Value} {below : List Frame} {meth : Method} {c : Code} {ρ : bsR} {cA : Nat → ClassId} {dC : Nat → ClassId} {dI : Nat → Nat → Nat} {Rz : va_W} {Ts : List Cond}   {z : (Int32 × bsX)} (C : bsCx p m c cX9_first 3 s args Ts RX9 ρ cA dC dI Rz meth (some .int)) : ∀ (n : Nat) (x1 : Int32) (x2 : Int32) (X : bsX), fX9_first_4  n x1 x2 X = some z → bsV p l e rmX9_first s m args below meth c 0 0 (MQ below (bsQi ρ cA dC dI Rz z s.heap.size) args s 0 0 (bsA ρ cA Rz s.heap.size)) ρ cA dC dI Rz 3 4 [(0, .ref (ρ 14 0 0)), (1, .int x1), (2, .int x2)] [] X := by
  intro n
  induction n with
  | zero => intro x1 x2 X hf; exact (nomatch hf)
  | succ n ih =>
    intro x1 x2 X hf
    rw [fX9_first_4] at hf
    refine v_iload_n C dX9_first_4 rfl rfl ?_
    refine v_aload_n C dX9_first_5 rfl rfl ?_
    refine gf_X9_7 C dX9_first_6 ?_
    refine v_iconst (v := 0) C dX9_first_9 (by decide) ?_
    obtain ⟨hi1, hf⟩ := bs_if hf
    refine v_iald (n := 160) C bsm_14_1 bsc_14_1 hi1 dX9_first_10 ?_
    refine v_icmp_ge (tgt := 44) C dX9_first_11 (by decide) (fun h9 => ?_) (fun h9 => ?_)
    · replace hf := bs_pos h9 hf
      refine v_iload_n C dX9_first_44 rfl rfl ?_
      exact v_iret C hf dX9_first_45
    · replace hf := bs_neg h9 hf
      refine v_aload_n C dX9_first_14 rfl rfl ?_
      refine v_iload_n C dX9_first_15 rfl rfl ?_
      obtain ⟨r2, hc3, hf⟩ := bs_bind hf
      refine v_callVi (y := yX9_canBoot) (As := [.int x2]) (rest := []) C (cX9_canBoot_ok  hc3) ml_X9_70 wyX9_canBoot (bsm_X9) (bsc_X9) rfl dpX9_canBoot ⟨Nat.le_of_ble_eq_true rfl, Nat.le_of_ble_eq_true rfl⟩ ⟨rfl, rfl⟩ ⟨Nat.le_of_ble_eq_true rfl, Nat.le_of_ble_eq_true rfl⟩ rfl (Nat.le_of_ble_eq_true rfl) dX9_first_16 ?_
      refine v_if_eq (tgt := 38) C dX9_first_19 (by decide) (fun h8 => ?_) (fun h8 => ?_)
      · replace hf := bs_pos h8 hf
        refine v_sub [0, 1, 2] rfl ?_
        exact wX9_first_38  (fX9_first_4  n) C (fun b0 b1 X  h => ih b0 b1 X  h) _ _ _  hf
      · replace hf := bs_neg h8 hf
        refine v_iload_n C dX9_first_22 rfl rfl ?_
        refine v_iconst (v := -1) C dX9_first_23 (by decide) ?_
        refine v_icmp_eq (tgt := 36) C dX9_first_24 (by decide) (fun h7 => ?_) (fun h7 => ?_)
        · replace hf := bs_pos h7 hf
          refine v_sub [0, 2] rfl ?_
          exact wX9_first_36  (fX9_first_4  n) C (fun b0 b1 X  h => ih b0 b1 X  h) _ _  hf
        · replace hf := bs_neg h7 hf
          refine v_aload_n C dX9_first_27 rfl rfl ?_
          refine v_iload_n C dX9_first_28 rfl rfl ?_
          refine v_iload_n C dX9_first_29 rfl rfl ?_
          obtain ⟨r4, hc5, hf⟩ := bs_bind hf
          refine v_callVi (y := yX9_isAhead) (As := [.int x2, .int x1]) (rest := []) C (cX9_isAhead_ok  hc5) ml_X9_73 wyX9_isAhead (bsm_X9) (bsc_X9) rfl dpX9_isAhead ⟨Nat.le_of_ble_eq_true rfl, Nat.le_of_ble_eq_true rfl⟩ ⟨rfl, rfl⟩ ⟨Nat.le_of_ble_eq_true rfl, Nat.le_of_ble_eq_true rfl⟩ rfl (Nat.le_of_ble_eq_true rfl) dX9_first_30 ?_
          refine v_if_eq (tgt := 38) C dX9_first_33 (by decide) (fun h6 => ?_) (fun h6 => ?_)
          · replace hf := bs_pos h6 hf
            refine v_sub [0, 1, 2] rfl ?_
            exact wX9_first_38  (fX9_first_4  n) C (fun b0 b1 X  h => ih b0 b1 X  h) _ _ _  hf
          · replace hf := bs_neg h6 hf
            refine v_sub [0, 2] rfl ?_
            exact wX9_first_36  (fX9_first_4  n) C (fun b0 b1 X  h => ih b0 b1 X  h) _ _  hf
set_option maxHeartbeats 4000000 in
set_option maxRecDepth 100000 in
theorem cX9_first_ok {l : Launch} {ρ : bsR} {cA : Nat → ClassId} {dC : Nat → ClassId} {dI : Nat → Nat → Nat} {Rz : va_W}  {X : bsX} {z : (Int32 × bsX)} (hf : fX9_first  X = some z) : bsMi l yX9_first cX9_first 3 (some .int) rmX9_first ρ cA dC dI Rz [.ref (ρ 14 0 0)] X z := by
  refine bsMi_of (by decide) (Nat.le_of_ble_eq_true rfl) (fun p e s m args below meth c C => ?_)
  have C : bsCx p m c cX9_first 3 s args (Cond.code yX9_first cX9_first 3 (some .int) :: bsG) RX9 ρ cA dC dI Rz meth (some .int) := C
  rw [fX9_first] at hf
  refine v_sub [0] rfl ?_
  refine v_iconst (v := -1) C dX9_first_0 (by decide) ?_
  refine v_istore_n (lv' := [(1, .int (-1 : Int32)), (0, .ref (ρ 14 0 0))]) C dX9_first_1 rfl (by decide) rfl ?_
  refine v_iconst (v := 0) C dX9_first_2 (by decide) ?_
  refine v_istore_n (lv' := [(2, .int (0 : Int32)), (1, .int (-1 : Int32)), (0, .ref (ρ 14 0 0))]) C dX9_first_3 rfl (by decide) rfl ?_
  refine v_sub [2, 1, 0] rfl ?_
  exact wX9_first_4   C  bsF _ _ _  hf
/-! BootSlotsModel.tells(II)V -/
def fX9_tells_52 (x1 : Int32) (x2 : Int32) (X : bsX) : Option bsX := if bsIn (28 : Int32) 160 then (if bsIn (1 : Int32) 160 then (if bsIn ((29 : Int32) + ((4 : Int32) * (X 14 1 0 (bsIx (28 : Int32))))) 160 then (if bsIn (((29 : Int32) + ((4 : Int32) * (X 14 1 0 (bsIx (28 : Int32))))) + (1 : Int32)) 160 then (if bsIn (((29 : Int32) + ((4 : Int32) * (X 14 1 0 (bsIx (28 : Int32))))) + (2 : Int32)) 160 then (if bsIn (7 : Int32) 160 then (if bsIn (((29 : Int32) + ((4 : Int32) * (X 14 1 0 (bsIx (28 : Int32))))) + (3 : Int32)) 160 then (if bsIn (12 : Int32) 160 then (some (bsWr (bsWr (bsWr (bsWr (bsWr (bsWr X 14 1 0 (bsIx ((29 : Int32) + ((4 : Int32) * (X 14 1 0 (bsIx (28 : Int32)))))) (X 14 1 0 (bsIx (1 : Int32)))) 14 1 0 (bsIx (((29 : Int32) + ((4 : Int32) * (X 14 1 0 (bsIx (28 : Int32))))) + (1 : Int32))) x1) 14 1 0 (bsIx (((29 : Int32) + ((4 : Int32) * (X 14 1 0 (bsIx (28 : Int32))))) + (2 : Int32))) x2) 14 1 0 (bsIx (((29 : Int32) + ((4 : Int32) * (X 14 1 0 (bsIx (28 : Int32))))) + (3 : Int32))) ((bsWr (bsWr (bsWr X 14 1 0 (bsIx ((29 : Int32) + ((4 : Int32) * (X 14 1 0 (bsIx (28 : Int32)))))) (X 14 1 0 (bsIx (1 : Int32)))) 14 1 0 (bsIx (((29 : Int32) + ((4 : Int32) * (X 14 1 0 (bsIx (28 : Int32))))) + (1 : Int32))) x1) 14 1 0 (bsIx (((29 : Int32) + ((4 : Int32) * (X 14 1 0 (bsIx (28 : Int32))))) + (2 : Int32))) x2) 14 1 0 (bsIx (7 : Int32)))) 14 1 0 (bsIx (28 : Int32)) (((bsWr (bsWr (bsWr (bsWr X 14 1 0 (bsIx ((29 : Int32) + ((4 : Int32) * (X 14 1 0 (bsIx (28 : Int32)))))) (X 14 1 0 (bsIx (1 : Int32)))) 14 1 0 (bsIx (((29 : Int32) + ((4 : Int32) * (X 14 1 0 (bsIx (28 : Int32))))) + (1 : Int32))) x1) 14 1 0 (bsIx (((29 : Int32) + ((4 : Int32) * (X 14 1 0 (bsIx (28 : Int32))))) + (2 : Int32))) x2) 14 1 0 (bsIx (((29 : Int32) + ((4 : Int32) * (X 14 1 0 (bsIx (28 : Int32))))) + (3 : Int32))) ((bsWr (bsWr (bsWr X 14 1 0 (bsIx ((29 : Int32) + ((4 : Int32) * (X 14 1 0 (bsIx (28 : Int32)))))) (X 14 1 0 (bsIx (1 : Int32)))) 14 1 0 (bsIx (((29 : Int32) + ((4 : Int32) * (X 14 1 0 (bsIx (28 : Int32))))) + (1 : Int32))) x1) 14 1 0 (bsIx (((29 : Int32) + ((4 : Int32) * (X 14 1 0 (bsIx (28 : Int32))))) + (2 : Int32))) x2) 14 1 0 (bsIx (7 : Int32)))) 14 1 0 (bsIx (28 : Int32))) + (1 : Int32))) 14 1 0 (bsIx (12 : Int32)) (((bsWr (bsWr (bsWr (bsWr (bsWr X 14 1 0 (bsIx ((29 : Int32) + ((4 : Int32) * (X 14 1 0 (bsIx (28 : Int32)))))) (X 14 1 0 (bsIx (1 : Int32)))) 14 1 0 (bsIx (((29 : Int32) + ((4 : Int32) * (X 14 1 0 (bsIx (28 : Int32))))) + (1 : Int32))) x1) 14 1 0 (bsIx (((29 : Int32) + ((4 : Int32) * (X 14 1 0 (bsIx (28 : Int32))))) + (2 : Int32))) x2) 14 1 0 (bsIx (((29 : Int32) + ((4 : Int32) * (X 14 1 0 (bsIx (28 : Int32))))) + (3 : Int32))) ((bsWr (bsWr (bsWr X 14 1 0 (bsIx ((29 : Int32) + ((4 : Int32) * (X 14 1 0 (bsIx (28 : Int32)))))) (X 14 1 0 (bsIx (1 : Int32)))) 14 1 0 (bsIx (((29 : Int32) + ((4 : Int32) * (X 14 1 0 (bsIx (28 : Int32))))) + (1 : Int32))) x1) 14 1 0 (bsIx (((29 : Int32) + ((4 : Int32) * (X 14 1 0 (bsIx (28 : Int32))))) + (2 : Int32))) x2) 14 1 0 (bsIx (7 : Int32)))) 14 1 0 (bsIx (28 : Int32)) (((bsWr (bsWr (bsWr (bsWr X 14 1 0 (bsIx ((29 : Int32) + ((4 : Int32) * (X 14 1 0 (bsIx (28 : Int32)))))) (X 14 1 0 (bsIx (1 : Int32)))) 14 1 0 (bsIx (((29 : Int32) + ((4 : Int32) * (X 14 1 0 (bsIx (28 : Int32))))) + (1 : Int32))) x1) 14 1 0 (bsIx (((29 : Int32) + ((4 : Int32) * (X 14 1 0 (bsIx (28 : Int32))))) + (2 : Int32))) x2) 14 1 0 (bsIx (((29 : Int32) + ((4 : Int32) * (X 14 1 0 (bsIx (28 : Int32))))) + (3 : Int32))) ((bsWr (bsWr (bsWr X 14 1 0 (bsIx ((29 : Int32) + ((4 : Int32) * (X 14 1 0 (bsIx (28 : Int32)))))) (X 14 1 0 (bsIx (1 : Int32)))) 14 1 0 (bsIx (((29 : Int32) + ((4 : Int32) * (X 14 1 0 (bsIx (28 : Int32))))) + (1 : Int32))) x1) 14 1 0 (bsIx (((29 : Int32) + ((4 : Int32) * (X 14 1 0 (bsIx (28 : Int32))))) + (2 : Int32))) x2) 14 1 0 (bsIx (7 : Int32)))) 14 1 0 (bsIx (28 : Int32))) + (1 : Int32))) 14 1 0 (bsIx (12 : Int32))) + (1 : Int32)))) else none) else none) else none) else none) else none) else none) else none) else none
def fX9_tells_15 : Nat → Int32 → Int32 → Int32 → bsX → Option bsX
  | 0, _, _, _, _ => none
  | n + 1, x1, x2, x3, X => if (73 : Int32) ≤ x3 then (if bsIn (28 : Int32) 160 then (fX9_tells_52   x1 x2 (bsWr X 14 1 0 (bsIx (28 : Int32)) ((X 14 1 0 (bsIx (28 : Int32))) - (1 : Int32)))) else none) else (if bsIn (x3 + (4 : Int32)) 160 then (if bsIn x3 160 then (fX9_tells_15 n x1 x2 (x3 + (1 : Int32)) (bsWr X 14 1 0 (bsIx x3) (X 14 1 0 (bsIx (x3 + (4 : Int32)))))) else none) else none)
def fX9_tells (a1 : Int32) (a2 : Int32) (X : bsX) : Option bsX := if bsIn (28 : Int32) 160 then (if (X 14 1 0 (bsIx (28 : Int32))) = (12 : Int32) then (fX9_tells_15   bsF a1 a2 (29 : Int32) X) else (fX9_tells_52   a1 a2 X)) else none
abbrev rmX9_tells : Room := { frames := 0, cells := 0, slots := 0, locals := 0 }
set_option maxHeartbeats 4000000 in
set_option maxRecDepth 100000 in
theorem wX9_tells_52 {p : Program} {l : Launch} {e : Env} {s : State} {m : MethodId} {args : Array Value} {below : List Frame} {meth : Method} {c : Code} {ρ : bsR} {cA : Nat → ClassId} {dC : Nat → ClassId} {dI : Nat → Nat → Nat} {Rz : va_W} {Ts : List Cond}   {z : bsX} (C : bsCx p m c cX9_tells 4 s args Ts RX9 ρ cA dC dI Rz meth none) (x1 : Int32) (x2 : Int32) (X : bsX) (hf : fX9_tells_52 x1 x2 X = some z) : bsV p l e rmX9_tells s m args below meth c 0 0 (MQ below (bsQv ρ cA dC dI Rz z s.heap.size) args s 0 0 (bsA ρ cA Rz s.heap.size)) ρ cA dC dI Rz 4 52 [(0, .ref (ρ 14 0 0)), (1, .int x1), (2, .int x2)] [] X := by
  rw [fX9_tells_52] at hf
  refine v_bipush (v := 29) C dX9_tells_52 (by decide) ?_
  refine v_iconst (v := 4) C dX9_tells_54 (by decide) ?_
  refine v_aload_n C dX9_tells_55 rfl rfl ?_
  refine gf_X9_7 C dX9_tells_56 ?_
  refine v_bipush (v := 28) C dX9_tells_59 (by decide) ?_
  obtain ⟨hi1, hf⟩ := bs_if hf
  refine v_iald (n := 160) C bsm_14_1 bsc_14_1 hi1 dX9_tells_61 ?_
  refine v_imul C dX9_tells_62 ?_
  refine v_iadd C dX9_tells_63 ?_
  refine v_istore_n (lv' := [(3, .int ((29 : Int32) + ((4 : Int32) * (X 14 1 0 (bsIx (28 : Int32)))))), (0, .ref (ρ 14 0 0)), (1, .int x1), (2, .int x2)]) C dX9_tells_64 rfl (by decide) rfl ?_
  refine v_aload_n C dX9_tells_65 rfl rfl ?_
  refine gf_X9_7 C dX9_tells_66 ?_
  refine v_iload_n C dX9_tells_69 rfl rfl ?_
  refine v_aload_n C dX9_tells_70 rfl rfl ?_
  refine gf_X9_7 C dX9_tells_71 ?_
  refine v_iconst (v := 1) C dX9_tells_74 (by decide) ?_
  obtain ⟨hi2, hf⟩ := bs_if hf
  refine v_iald (n := 160) C bsm_14_1 bsc_14_1 hi2 dX9_tells_75 ?_
  obtain ⟨hi3, hf⟩ := bs_if hf
  refine v_iast (n := 160) C bsm_14_1 (fun _ => bsc_14_1) hi3 dX9_tells_76 ?_
  refine v_aload_n C dX9_tells_77 rfl rfl ?_
  refine gf_X9_7 C dX9_tells_78 ?_
  refine v_iload_n C dX9_tells_81 rfl rfl ?_
  refine v_iconst (v := 1) C dX9_tells_82 (by decide) ?_
  refine v_iadd C dX9_tells_83 ?_
  refine v_iload_n C dX9_tells_84 rfl rfl ?_
  obtain ⟨hi4, hf⟩ := bs_if hf
  refine v_iast (n := 160) C bsm_14_1 (fun _ => bsc_14_1) hi4 dX9_tells_85 ?_
  refine v_aload_n C dX9_tells_86 rfl rfl ?_
  refine gf_X9_7 C dX9_tells_87 ?_
  refine v_iload_n C dX9_tells_90 rfl rfl ?_
  refine v_iconst (v := 2) C dX9_tells_91 (by decide) ?_
  refine v_iadd C dX9_tells_92 ?_
  refine v_iload_n C dX9_tells_93 rfl rfl ?_
  obtain ⟨hi5, hf⟩ := bs_if hf
  refine v_iast (n := 160) C bsm_14_1 (fun _ => bsc_14_1) hi5 dX9_tells_94 ?_
  refine v_aload_n C dX9_tells_95 rfl rfl ?_
  refine gf_X9_7 C dX9_tells_96 ?_
  refine v_iload_n C dX9_tells_99 rfl rfl ?_
  refine v_iconst (v := 3) C dX9_tells_100 (by decide) ?_
  refine v_iadd C dX9_tells_101 ?_
  refine v_aload_n C dX9_tells_102 rfl rfl ?_
  refine gf_X9_7 C dX9_tells_103 ?_
  refine v_bipush (v := 7) C dX9_tells_106 (by decide) ?_
  obtain ⟨hi6, hf⟩ := bs_if hf
  refine v_iald (n := 160) C bsm_14_1 bsc_14_1 hi6 dX9_tells_108 ?_
  obtain ⟨hi7, hf⟩ := bs_if hf
  refine v_iast (n := 160) C bsm_14_1 (fun _ => bsc_14_1) hi7 dX9_tells_109 ?_
  refine v_aload_n C dX9_tells_110 rfl rfl ?_
  refine gf_X9_7 C dX9_tells_111 ?_
  refine v_bipush (v := 28) C dX9_tells_114 (by decide) ?_
  refine v_dup2 C dX9_tells_116 rfl rfl ?_
  refine v_iald (n := 160) C bsm_14_1 bsc_14_1 hi1 dX9_tells_117 ?_
  refine v_iconst (v := 1) C dX9_tells_118 (by decide) ?_
  refine v_iadd C dX9_tells_119 ?_
  refine v_iast (n := 160) C bsm_14_1 (fun _ => bsc_14_1) hi1 dX9_tells_120 ?_
  refine v_aload_n C dX9_tells_121 rfl rfl ?_
  refine gf_X9_7 C dX9_tells_122 ?_
  refine v_bipush (v := 12) C dX9_tells_125 (by decide) ?_
  refine v_dup2 C dX9_tells_127 rfl rfl ?_
  obtain ⟨hi10, hf⟩ := bs_if hf
  refine v_iald (n := 160) C bsm_14_1 bsc_14_1 hi10 dX9_tells_128 ?_
  refine v_iconst (v := 1) C dX9_tells_129 (by decide) ?_
  refine v_iadd C dX9_tells_130 ?_
  refine v_iast (n := 160) C bsm_14_1 (fun _ => bsc_14_1) hi10 dX9_tells_131 ?_
  exact v_vret C hf dX9_tells_132
set_option maxHeartbeats 4000000 in
set_option maxRecDepth 100000 in
theorem wX9_tells_15 {p : Program} {l : Launch} {e : Env} {s : State} {m : MethodId} {args : Array Value} {below : List Frame} {meth : Method} {c : Code} {ρ : bsR} {cA : Nat → ClassId} {dC : Nat → ClassId} {dI : Nat → Nat → Nat} {Rz : va_W} {Ts : List Cond}   {z : bsX} (C : bsCx p m c cX9_tells 4 s args Ts RX9 ρ cA dC dI Rz meth none) : ∀ (n : Nat) (x1 : Int32) (x2 : Int32) (x3 : Int32) (X : bsX), fX9_tells_15  n x1 x2 x3 X = some z → bsV p l e rmX9_tells s m args below meth c 0 0 (MQ below (bsQv ρ cA dC dI Rz z s.heap.size) args s 0 0 (bsA ρ cA Rz s.heap.size)) ρ cA dC dI Rz 4 15 [(0, .ref (ρ 14 0 0)), (1, .int x1), (2, .int x2), (3, .int x3)] [] X := by
  intro n
  induction n with
  | zero => intro x1 x2 x3 X hf; exact (nomatch hf)
  | succ n ih =>
    intro x1 x2 x3 X hf
    rw [fX9_tells_15] at hf
    refine v_iload_n C dX9_tells_15 rfl rfl ?_
    refine v_bipush (v := 73) C dX9_tells_16 (by decide) ?_
    refine v_icmp_ge (tgt := 41) C dX9_tells_18 (by decide) (fun h16 => ?_) (fun h16 => ?_)
    · replace hf := bs_pos h16 hf
      refine v_aload_n C dX9_tells_41 rfl rfl ?_
      refine gf_X9_7 C dX9_tells_42 ?_
      refine v_bipush (v := 28) C dX9_tells_45 (by decide) ?_
      refine v_dup2 C dX9_tells_47 rfl rfl ?_
      obtain ⟨hi12, hf⟩ := bs_if hf
      refine v_iald (n := 160) C bsm_14_1 bsc_14_1 hi12 dX9_tells_48 ?_
      refine v_iconst (v := 1) C dX9_tells_49 (by decide) ?_
      refine v_isub C dX9_tells_50 ?_
      refine v_iast (n := 160) C bsm_14_1 (fun _ => bsc_14_1) hi12 dX9_tells_51 ?_
      refine v_sub [0, 1, 2] rfl ?_
      exact wX9_tells_52   C  _ _ _  hf
    · replace hf := bs_neg h16 hf
      refine v_aload_n C dX9_tells_21 rfl rfl ?_
      refine gf_X9_7 C dX9_tells_22 ?_
      refine v_iload_n C dX9_tells_25 rfl rfl ?_
      refine v_aload_n C dX9_tells_26 rfl rfl ?_
      refine gf_X9_7 C dX9_tells_27 ?_
      refine v_iload_n C dX9_tells_30 rfl rfl ?_
      refine v_iconst (v := 4) C dX9_tells_31 (by decide) ?_
      refine v_iadd C dX9_tells_32 ?_
      obtain ⟨hi14, hf⟩ := bs_if hf
      refine v_iald (n := 160) C bsm_14_1 bsc_14_1 hi14 dX9_tells_33 ?_
      obtain ⟨hi15, hf⟩ := bs_if hf
      refine v_iast (n := 160) C bsm_14_1 (fun _ => bsc_14_1) hi15 dX9_tells_34 ?_
      refine v_iinc (k0 := 3) (v := (x3 + (1 : Int32))) (lv' := [(3, .int (x3 + (1 : Int32))), (0, .ref (ρ 14 0 0)), (1, .int x1), (2, .int x2)]) C dX9_tells_35 rfl rfl (by decide) rfl ?_
      refine v_goto (tgt := 15) C dX9_tells_38 (by decide) ?_
      refine v_sub [1, 2, 3, 0] rfl ?_
      exact ih _ _ _ _  hf
set_option maxHeartbeats 4000000 in
set_option maxRecDepth 100000 in
theorem cX9_tells_ok {l : Launch} {ρ : bsR} {cA : Nat → ClassId} {dC : Nat → ClassId} {dI : Nat → Nat → Nat} {Rz : va_W}  {a1 : Int32} {a2 : Int32} {X : bsX} {z : bsX} (hf : fX9_tells a1 a2 X = some z) : bsMv l yX9_tells cX9_tells 4 none rmX9_tells ρ cA dC dI Rz [.ref (ρ 14 0 0), .int a1, .int a2] X z := by
  refine bsMv_of (by decide) (Nat.le_of_ble_eq_true rfl) (fun p e s m args below meth c C => ?_)
  have C : bsCx p m c cX9_tells 4 s args (Cond.code yX9_tells cX9_tells 4 none :: bsG) RX9 ρ cA dC dI Rz meth none := C
  rw [fX9_tells] at hf
  refine v_sub [0, 1, 2] rfl ?_
  refine v_aload_n C dX9_tells_0 rfl rfl ?_
  refine gf_X9_7 C dX9_tells_1 ?_
  refine v_bipush (v := 28) C dX9_tells_4 (by decide) ?_
  obtain ⟨hi17, hf⟩ := bs_if hf
  refine v_iald (n := 160) C bsm_14_1 bsc_14_1 hi17 dX9_tells_6 ?_
  refine v_bipush (v := 12) C dX9_tells_7 (by decide) ?_
  refine v_icmp_ne (tgt := 52) C dX9_tells_9 (by decide) (fun h18 => ?_) (fun h18 => ?_)
  · replace hf := bs_neg h18 hf
    refine v_sub [0, 1, 2] rfl ?_
    exact wX9_tells_52   C  _ _ _  hf
  · replace hf := bs_pos h18 hf
    refine v_bipush (v := 29) C dX9_tells_12 (by decide) ?_
    refine v_istore_n (lv' := [(3, .int (29 : Int32)), (0, .ref (ρ 14 0 0)), (1, .int a1), (2, .int a2)]) C dX9_tells_14 rfl (by decide) rfl ?_
    refine v_sub [1, 2, 3, 0] rfl ?_
    exact wX9_tells_15   C  bsF _ _ _ _  hf
/-! BootSlotsModel.tries(I)Z -/
def fX9_tries_49 (x1 : Int32) (X : bsX) : Option (Int32 × bsX) := (fX9_of  x1 (12 : Int32) X).bind fun r1 => if r1.1 = 0 then (some ((1 : Int32), r1.2)) else ((fX9_puts  x1 (1 : Int32) (0 : Int32) r1.2).bind fun r3 => (fX9_puts  x1 (3 : Int32) (0 : Int32) r3).bind fun r5 => if bsIn (14 : Int32) 160 then (some ((0 : Int32), (bsWr r5 14 1 0 (bsIx (14 : Int32)) ((r5 14 1 0 (bsIx (14 : Int32))) + (1 : Int32))))) else none)
def fX9_tries (a1 : Int32) (X : bsX) : Option (Int32 × bsX) := (fX9_isGood  a1 X).bind fun r10 => if r10.1 = 0 then ((fX9_of  a1 (2 : Int32) r10.2).bind fun r12 => (fX9_puts  a1 (2 : Int32) (r12.1 - (1 : Int32)) r12.2).bind fun r14 => (fX9_of  a1 (6 : Int32) r14).bind fun r16 => (fX9_puts  a1 (6 : Int32) (r16.1 + (1 : Int32)) r16.2).bind fun r18 => if bsIn (13 : Int32) 160 then (fX9_tries_49   a1 (bsWr r18 14 1 0 (bsIx (13 : Int32)) ((r18 14 1 0 (bsIx (13 : Int32))) + (1 : Int32)))) else none) else (fX9_tries_49   a1 r10.2)
abbrev rmX9_tries : Room := { frames := 2, cells := 0, slots := 0, locals := 43 }
set_option maxHeartbeats 4000000 in
set_option maxRecDepth 100000 in
theorem wX9_tries_49 {p : Program} {l : Launch} {e : Env} {s : State} {m : MethodId} {args : Array Value} {below : List Frame} {meth : Method} {c : Code} {ρ : bsR} {cA : Nat → ClassId} {dC : Nat → ClassId} {dI : Nat → Nat → Nat} {Rz : va_W} {Ts : List Cond}   {z : (Int32 × bsX)} (C : bsCx p m c cX9_tries 2 s args Ts RX9 ρ cA dC dI Rz meth (some .boolean)) (x1 : Int32) (X : bsX) (hf : fX9_tries_49 x1 X = some z) : bsV p l e rmX9_tries s m args below meth c 0 0 (MQ below (bsQi ρ cA dC dI Rz z s.heap.size) args s 0 0 (bsA ρ cA Rz s.heap.size)) ρ cA dC dI Rz 2 49 [(0, .ref (ρ 14 0 0)), (1, .int x1)] [] X := by
  rw [fX9_tries_49] at hf
  refine v_aload_n C dX9_tries_49 rfl rfl ?_
  refine v_iload_n C dX9_tries_50 rfl rfl ?_
  refine v_bipush (v := 12) C dX9_tries_51 (by decide) ?_
  obtain ⟨r1, hc2, hf⟩ := bs_bind hf
  refine v_callVi (y := yX9_of) (As := [.int x1, .int (12 : Int32)]) (rest := []) C (cX9_of_ok  hc2) ml_X9_56 wyX9_of (bsm_X9) (bsc_X9) rfl dpX9_of ⟨Nat.le_of_ble_eq_true rfl, Nat.le_of_ble_eq_true rfl⟩ ⟨rfl, rfl⟩ ⟨Nat.le_of_ble_eq_true rfl, Nat.le_of_ble_eq_true rfl⟩ rfl (Nat.le_of_ble_eq_true rfl) dX9_tries_53 ?_
  refine v_if_ne (tgt := 61) C dX9_tries_56 (by decide) (fun h9 => ?_) (fun h9 => ?_)
  · replace hf := bs_neg h9 hf
    refine v_aload_n C dX9_tries_61 rfl rfl ?_
    refine v_iload_n C dX9_tries_62 rfl rfl ?_
    refine v_iconst (v := 1) C dX9_tries_63 (by decide) ?_
    refine v_iconst (v := 0) C dX9_tries_64 (by decide) ?_
    obtain ⟨r3, hc4, hf⟩ := bs_bind hf
    refine v_callVv (y := yX9_puts) (As := [.int x1, .int (1 : Int32), .int (0 : Int32)]) (rest := []) C (cX9_puts_ok  hc4) ml_X9_77 wyX9_puts (bsm_X9) (bsc_X9) rfl dpX9_puts ⟨Nat.le_of_ble_eq_true rfl, Nat.le_of_ble_eq_true rfl⟩ ⟨rfl, rfl⟩ ⟨Nat.le_of_ble_eq_true rfl, Nat.le_of_ble_eq_true rfl⟩ rfl (Nat.le_of_ble_eq_true rfl) dX9_tries_65 ?_
    refine v_aload_n C dX9_tries_68 rfl rfl ?_
    refine v_iload_n C dX9_tries_69 rfl rfl ?_
    refine v_iconst (v := 3) C dX9_tries_70 (by decide) ?_
    refine v_iconst (v := 0) C dX9_tries_71 (by decide) ?_
    obtain ⟨r5, hc6, hf⟩ := bs_bind hf
    refine v_callVv (y := yX9_puts) (As := [.int x1, .int (3 : Int32), .int (0 : Int32)]) (rest := []) C (cX9_puts_ok  hc6) ml_X9_77 wyX9_puts (bsm_X9) (bsc_X9) rfl dpX9_puts ⟨Nat.le_of_ble_eq_true rfl, Nat.le_of_ble_eq_true rfl⟩ ⟨rfl, rfl⟩ ⟨Nat.le_of_ble_eq_true rfl, Nat.le_of_ble_eq_true rfl⟩ rfl (Nat.le_of_ble_eq_true rfl) dX9_tries_72 ?_
    refine v_aload_n C dX9_tries_75 rfl rfl ?_
    refine gf_X9_7 C dX9_tries_76 ?_
    refine v_bipush (v := 14) C dX9_tries_79 (by decide) ?_
    refine v_dup2 C dX9_tries_81 rfl rfl ?_
    obtain ⟨hi7, hf⟩ := bs_if hf
    refine v_iald (n := 160) C bsm_14_1 bsc_14_1 hi7 dX9_tries_82 ?_
    refine v_iconst (v := 1) C dX9_tries_83 (by decide) ?_
    refine v_iadd C dX9_tries_84 ?_
    refine v_iast (n := 160) C bsm_14_1 (fun _ => bsc_14_1) hi7 dX9_tries_85 ?_
    refine v_iconst (v := 0) C dX9_tries_86 (by decide) ?_
    exact v_zret C (bsZ01 (by decide)).1 hf dX9_tries_87
  · replace hf := bs_pos h9 hf
    refine v_iconst (v := 1) C dX9_tries_59 (by decide) ?_
    exact v_zret C (bsZ01 (by decide)).1 hf dX9_tries_60
set_option maxHeartbeats 4000000 in
set_option maxRecDepth 100000 in
theorem cX9_tries_ok {l : Launch} {ρ : bsR} {cA : Nat → ClassId} {dC : Nat → ClassId} {dI : Nat → Nat → Nat} {Rz : va_W}  {a1 : Int32} {X : bsX} {z : (Int32 × bsX)} (hf : fX9_tries a1 X = some z) : bsMi l yX9_tries cX9_tries 2 (some .boolean) rmX9_tries ρ cA dC dI Rz [.ref (ρ 14 0 0), .int a1] X z := by
  refine bsMi_of (by decide) (Nat.le_of_ble_eq_true rfl) (fun p e s m args below meth c C => ?_)
  have C : bsCx p m c cX9_tries 2 s args (Cond.code yX9_tries cX9_tries 2 (some .boolean) :: bsG) RX9 ρ cA dC dI Rz meth (some .boolean) := C
  rw [fX9_tries] at hf
  refine v_sub [0, 1] rfl ?_
  refine v_aload_n C dX9_tries_0 rfl rfl ?_
  refine v_iload_n C dX9_tries_1 rfl rfl ?_
  obtain ⟨r10, hc11, hf⟩ := bs_bind hf
  refine v_callVi (y := yX9_isGood) (As := [.int a1]) (rest := []) C (cX9_isGood_ok  hc11) ml_X9_63 wyX9_isGood (bsm_X9) (bsc_X9) rfl dpX9_isGood ⟨Nat.le_of_ble_eq_true rfl, Nat.le_of_ble_eq_true rfl⟩ ⟨rfl, rfl⟩ ⟨Nat.le_of_ble_eq_true rfl, Nat.le_of_ble_eq_true rfl⟩ rfl (Nat.le_of_ble_eq_true rfl) dX9_tries_2 ?_
  refine v_if_ne (tgt := 49) C dX9_tries_5 (by decide) (fun h22 => ?_) (fun h22 => ?_)
  · replace hf := bs_neg h22 hf
    refine v_sub [0, 1] rfl ?_
    exact wX9_tries_49   C  _ _  hf
  · replace hf := bs_pos h22 hf
    refine v_aload_n C dX9_tries_8 rfl rfl ?_
    refine v_iload_n C dX9_tries_9 rfl rfl ?_
    refine v_iconst (v := 2) C dX9_tries_10 (by decide) ?_
    refine v_aload_n C dX9_tries_11 rfl rfl ?_
    refine v_iload_n C dX9_tries_12 rfl rfl ?_
    refine v_iconst (v := 2) C dX9_tries_13 (by decide) ?_
    obtain ⟨r12, hc13, hf⟩ := bs_bind hf
    refine v_callVi (y := yX9_of) (As := [.int a1, .int (2 : Int32)]) (rest := [.int (2 : Int32), .int a1, .ref (ρ 14 0 0)]) C (cX9_of_ok  hc13) ml_X9_56 wyX9_of (bsm_X9) (bsc_X9) rfl dpX9_of ⟨Nat.le_of_ble_eq_true rfl, Nat.le_of_ble_eq_true rfl⟩ ⟨rfl, rfl⟩ ⟨Nat.le_of_ble_eq_true rfl, Nat.le_of_ble_eq_true rfl⟩ rfl (Nat.le_of_ble_eq_true rfl) dX9_tries_14 ?_
    refine v_iconst (v := 1) C dX9_tries_17 (by decide) ?_
    refine v_isub C dX9_tries_18 ?_
    obtain ⟨r14, hc15, hf⟩ := bs_bind hf
    refine v_callVv (y := yX9_puts) (As := [.int a1, .int (2 : Int32), .int (r12.1 - (1 : Int32))]) (rest := []) C (cX9_puts_ok  hc15) ml_X9_77 wyX9_puts (bsm_X9) (bsc_X9) rfl dpX9_puts ⟨Nat.le_of_ble_eq_true rfl, Nat.le_of_ble_eq_true rfl⟩ ⟨rfl, rfl⟩ ⟨Nat.le_of_ble_eq_true rfl, Nat.le_of_ble_eq_true rfl⟩ rfl (Nat.le_of_ble_eq_true rfl) dX9_tries_19 ?_
    refine v_aload_n C dX9_tries_22 rfl rfl ?_
    refine v_iload_n C dX9_tries_23 rfl rfl ?_
    refine v_bipush (v := 6) C dX9_tries_24 (by decide) ?_
    refine v_aload_n C dX9_tries_26 rfl rfl ?_
    refine v_iload_n C dX9_tries_27 rfl rfl ?_
    refine v_bipush (v := 6) C dX9_tries_28 (by decide) ?_
    obtain ⟨r16, hc17, hf⟩ := bs_bind hf
    refine v_callVi (y := yX9_of) (As := [.int a1, .int (6 : Int32)]) (rest := [.int (6 : Int32), .int a1, .ref (ρ 14 0 0)]) C (cX9_of_ok  hc17) ml_X9_56 wyX9_of (bsm_X9) (bsc_X9) rfl dpX9_of ⟨Nat.le_of_ble_eq_true rfl, Nat.le_of_ble_eq_true rfl⟩ ⟨rfl, rfl⟩ ⟨Nat.le_of_ble_eq_true rfl, Nat.le_of_ble_eq_true rfl⟩ rfl (Nat.le_of_ble_eq_true rfl) dX9_tries_30 ?_
    refine v_iconst (v := 1) C dX9_tries_33 (by decide) ?_
    refine v_iadd C dX9_tries_34 ?_
    obtain ⟨r18, hc19, hf⟩ := bs_bind hf
    refine v_callVv (y := yX9_puts) (As := [.int a1, .int (6 : Int32), .int (r16.1 + (1 : Int32))]) (rest := []) C (cX9_puts_ok  hc19) ml_X9_77 wyX9_puts (bsm_X9) (bsc_X9) rfl dpX9_puts ⟨Nat.le_of_ble_eq_true rfl, Nat.le_of_ble_eq_true rfl⟩ ⟨rfl, rfl⟩ ⟨Nat.le_of_ble_eq_true rfl, Nat.le_of_ble_eq_true rfl⟩ rfl (Nat.le_of_ble_eq_true rfl) dX9_tries_35 ?_
    refine v_aload_n C dX9_tries_38 rfl rfl ?_
    refine gf_X9_7 C dX9_tries_39 ?_
    refine v_bipush (v := 13) C dX9_tries_42 (by decide) ?_
    refine v_dup2 C dX9_tries_44 rfl rfl ?_
    obtain ⟨hi20, hf⟩ := bs_if hf
    refine v_iald (n := 160) C bsm_14_1 bsc_14_1 hi20 dX9_tries_45 ?_
    refine v_iconst (v := 1) C dX9_tries_46 (by decide) ?_
    refine v_iadd C dX9_tries_47 ?_
    refine v_iast (n := 160) C bsm_14_1 (fun _ => bsc_14_1) hi20 dX9_tries_48 ?_
    refine v_sub [0, 1] rfl ?_
    exact wX9_tries_49   C  _ _  hf
/-! BootSlotsModel.boots(I)I -/
def fX9_boots_86 (x1 : Int32) (x2 : Int32) (X : bsX) : Option (Int32 × bsX) := (fX9_tells  x1 x2 X).bind fun r10 => some (x2, r10)
def fX9_boots_66 (x1 : Int32) (x2 : Int32) (x3 : Int32) (y1 : Int32) (y2 : Int32) (X : bsX) : Option (Int32 × bsX) := if bsIn y1 160 then (if x3 = (-1 : Int32) then (fX9_boots_86   x1 x2 (bsWr X 14 1 0 (bsIx y1) y2)) else ((fX9_of  x3 (5 : Int32) (bsWr X 14 1 0 (bsIx y1) y2)).bind fun r5 => (fX9_puts  x3 (5 : Int32) (r5.1 + (1 : Int32)) r5.2).bind fun r7 => fX9_boots_86   x1 x2 r7)) else none
def fX9_boots_34 (x1 : Int32) (x2 : Int32) (x3 : Int32) (X : bsX) : Option (Int32 × bsX) := if bsIn (8 : Int32) 160 then (if bsIn (7 : Int32) 160 then (if x3 = (-1 : Int32) then (fX9_boots_66   x1 x2 x3 (6 : Int32) (2 : Int32) (bsWr (bsWr X 14 1 0 (bsIx (8 : Int32)) (0 : Int32)) 14 1 0 (bsIx (7 : Int32)) x3)) else (fX9_boots_66   x1 x2 x3 (6 : Int32) (1 : Int32) (bsWr (bsWr X 14 1 0 (bsIx (8 : Int32)) (0 : Int32)) 14 1 0 (bsIx (7 : Int32)) x3))) else none) else none
def fX9_boots_7 : Nat → Int32 → Int32 → Int32 → bsX → Option (Int32 × bsX)
  | 0, _, _, _, _ => none
  | n + 1, x1, x2, x3, X => if x3 = (-1 : Int32) then (fX9_boots_34   x1 x2 x3 X) else ((fX9_tries  x3 X).bind fun r12 => if r12.1 = 0 then ((fX9_first   r12.2).bind fun r14 => fX9_boots_7 n x1 (x2 ||| ((1 : Int32) <<< (x3 &&& 31))) r14.1 r14.2) else (fX9_boots_34   x1 x2 x3 r12.2))
def fX9_boots (a1 : Int32) (X : bsX) : Option (Int32 × bsX) := (fX9_first   X).bind fun r18 => fX9_boots_7   bsF a1 (0 : Int32) r18.1 r18.2
abbrev rmX9_boots : Room := { frames := 5, cells := 0, slots := 0, locals := 107 }
set_option maxHeartbeats 4000000 in
set_option maxRecDepth 100000 in
theorem wX9_boots_86 {p : Program} {l : Launch} {e : Env} {s : State} {m : MethodId} {args : Array Value} {below : List Frame} {meth : Method} {c : Code} {ρ : bsR} {cA : Nat → ClassId} {dC : Nat → ClassId} {dI : Nat → Nat → Nat} {Rz : va_W} {Ts : List Cond}   {z : (Int32 × bsX)} (C : bsCx p m c cX9_boots 4 s args Ts RX9 ρ cA dC dI Rz meth (some .int)) (x1 : Int32) (x2 : Int32) (X : bsX) (hf : fX9_boots_86 x1 x2 X = some z) : bsV p l e rmX9_boots s m args below meth c 0 0 (MQ below (bsQi ρ cA dC dI Rz z s.heap.size) args s 0 0 (bsA ρ cA Rz s.heap.size)) ρ cA dC dI Rz 4 86 [(0, .ref (ρ 14 0 0)), (1, .int x1), (2, .int x2)] [] X := by
  rw [fX9_boots_86] at hf
  refine v_aload_n C dX9_boots_86 rfl rfl ?_
  refine v_iload_n C dX9_boots_87 rfl rfl ?_
  refine v_iload_n C dX9_boots_88 rfl rfl ?_
  obtain ⟨r10, hc11, hf⟩ := bs_bind hf
  refine v_callVv (y := yX9_tells) (As := [.int x1, .int x2]) (rest := []) C (cX9_tells_ok  hc11) ml_X9_88 wyX9_tells (bsm_X9) (bsc_X9) rfl dpX9_tells ⟨Nat.le_of_ble_eq_true rfl, Nat.le_of_ble_eq_true rfl⟩ ⟨rfl, rfl⟩ ⟨Nat.le_of_ble_eq_true rfl, Nat.le_of_ble_eq_true rfl⟩ rfl (Nat.le_of_ble_eq_true rfl) dX9_boots_89 ?_
  refine v_iload_n C dX9_boots_92 rfl rfl ?_
  exact v_iret C hf dX9_boots_93
set_option maxHeartbeats 4000000 in
set_option maxRecDepth 100000 in
theorem wX9_boots_66 {p : Program} {l : Launch} {e : Env} {s : State} {m : MethodId} {args : Array Value} {below : List Frame} {meth : Method} {c : Code} {ρ : bsR} {cA : Nat → ClassId} {dC : Nat → ClassId} {dI : Nat → Nat → Nat} {Rz : va_W} {Ts : List Cond}   {z : (Int32 × bsX)} (C : bsCx p m c cX9_boots 4 s args Ts RX9 ρ cA dC dI Rz meth (some .int)) (x1 : Int32) (x2 : Int32) (x3 : Int32) (y1 : Int32) (y2 : Int32) (X : bsX) (hf : fX9_boots_66 x1 x2 x3 y1 y2 X = some z) : bsV p l e rmX9_boots s m args below meth c 0 0 (MQ below (bsQi ρ cA dC dI Rz z s.heap.size) args s 0 0 (bsA ρ cA Rz s.heap.size)) ρ cA dC dI Rz 4 66 [(0, .ref (ρ 14 0 0)), (1, .int x1), (2, .int x2), (3, .int x3)] [.int y2, .int y1, .ref (ρ 14 1 0)] X := by
  rw [fX9_boots_66] at hf
  obtain ⟨hi4, hf⟩ := bs_if hf
  refine v_iast (n := 160) C bsm_14_1 (fun _ => bsc_14_1) hi4 dX9_boots_66 ?_
  refine v_iload_n C dX9_boots_67 rfl rfl ?_
  refine v_iconst (v := -1) C dX9_boots_68 (by decide) ?_
  refine v_icmp_eq (tgt := 86) C dX9_boots_69 (by decide) (fun h9 => ?_) (fun h9 => ?_)
  · replace hf := bs_pos h9 hf
    refine v_sub [0, 1, 2] rfl ?_
    exact wX9_boots_86   C  _ _ _  hf
  · replace hf := bs_neg h9 hf
    refine v_aload_n C dX9_boots_72 rfl rfl ?_
    refine v_iload_n C dX9_boots_73 rfl rfl ?_
    refine v_iconst (v := 5) C dX9_boots_74 (by decide) ?_
    refine v_aload_n C dX9_boots_75 rfl rfl ?_
    refine v_iload_n C dX9_boots_76 rfl rfl ?_
    refine v_iconst (v := 5) C dX9_boots_77 (by decide) ?_
    obtain ⟨r5, hc6, hf⟩ := bs_bind hf
    refine v_callVi (y := yX9_of) (As := [.int x3, .int (5 : Int32)]) (rest := [.int (5 : Int32), .int x3, .ref (ρ 14 0 0)]) C (cX9_of_ok  hc6) ml_X9_56 wyX9_of (bsm_X9) (bsc_X9) rfl dpX9_of ⟨Nat.le_of_ble_eq_true rfl, Nat.le_of_ble_eq_true rfl⟩ ⟨rfl, rfl⟩ ⟨Nat.le_of_ble_eq_true rfl, Nat.le_of_ble_eq_true rfl⟩ rfl (Nat.le_of_ble_eq_true rfl) dX9_boots_78 ?_
    refine v_iconst (v := 1) C dX9_boots_81 (by decide) ?_
    refine v_iadd C dX9_boots_82 ?_
    obtain ⟨r7, hc8, hf⟩ := bs_bind hf
    refine v_callVv (y := yX9_puts) (As := [.int x3, .int (5 : Int32), .int (r5.1 + (1 : Int32))]) (rest := []) C (cX9_puts_ok  hc8) ml_X9_77 wyX9_puts (bsm_X9) (bsc_X9) rfl dpX9_puts ⟨Nat.le_of_ble_eq_true rfl, Nat.le_of_ble_eq_true rfl⟩ ⟨rfl, rfl⟩ ⟨Nat.le_of_ble_eq_true rfl, Nat.le_of_ble_eq_true rfl⟩ rfl (Nat.le_of_ble_eq_true rfl) dX9_boots_83 ?_
    refine v_sub [0, 1, 2] rfl ?_
    exact wX9_boots_86   C  _ _ _  hf
set_option maxHeartbeats 4000000 in
set_option maxRecDepth 100000 in
theorem wX9_boots_34 {p : Program} {l : Launch} {e : Env} {s : State} {m : MethodId} {args : Array Value} {below : List Frame} {meth : Method} {c : Code} {ρ : bsR} {cA : Nat → ClassId} {dC : Nat → ClassId} {dI : Nat → Nat → Nat} {Rz : va_W} {Ts : List Cond}   {z : (Int32 × bsX)} (C : bsCx p m c cX9_boots 4 s args Ts RX9 ρ cA dC dI Rz meth (some .int)) (x1 : Int32) (x2 : Int32) (x3 : Int32) (X : bsX) (hf : fX9_boots_34 x1 x2 x3 X = some z) : bsV p l e rmX9_boots s m args below meth c 0 0 (MQ below (bsQi ρ cA dC dI Rz z s.heap.size) args s 0 0 (bsA ρ cA Rz s.heap.size)) ρ cA dC dI Rz 4 34 [(0, .ref (ρ 14 0 0)), (1, .int x1), (2, .int x2), (3, .int x3)] [] X := by
  rw [fX9_boots_34] at hf
  refine v_aload_n C dX9_boots_34 rfl rfl ?_
  refine gf_X9_7 C dX9_boots_35 ?_
  refine v_bipush (v := 8) C dX9_boots_38 (by decide) ?_
  refine v_iconst (v := 0) C dX9_boots_40 (by decide) ?_
  obtain ⟨hi1, hf⟩ := bs_if hf
  refine v_iast (n := 160) C bsm_14_1 (fun _ => bsc_14_1) hi1 dX9_boots_41 ?_
  refine v_aload_n C dX9_boots_42 rfl rfl ?_
  refine gf_X9_7 C dX9_boots_43 ?_
  refine v_bipush (v := 7) C dX9_boots_46 (by decide) ?_
  refine v_iload_n C dX9_boots_48 rfl rfl ?_
  obtain ⟨hi2, hf⟩ := bs_if hf
  refine v_iast (n := 160) C bsm_14_1 (fun _ => bsc_14_1) hi2 dX9_boots_49 ?_
  refine v_aload_n C dX9_boots_50 rfl rfl ?_
  refine gf_X9_7 C dX9_boots_51 ?_
  refine v_bipush (v := 6) C dX9_boots_54 (by decide) ?_
  refine v_iload_n C dX9_boots_56 rfl rfl ?_
  refine v_iconst (v := -1) C dX9_boots_57 (by decide) ?_
  refine v_icmp_ne (tgt := 65) C dX9_boots_58 (by decide) (fun h3 => ?_) (fun h3 => ?_)
  · replace hf := bs_neg h3 hf
    refine v_iconst (v := 1) C dX9_boots_65 (by decide) ?_
    refine v_sub [0, 1, 2, 3] rfl ?_
    exact wX9_boots_66   C  _ _ _ _ _ _  hf
  · replace hf := bs_pos h3 hf
    refine v_iconst (v := 2) C dX9_boots_61 (by decide) ?_
    refine v_goto (tgt := 66) C dX9_boots_62 (by decide) ?_
    refine v_sub [0, 1, 2, 3] rfl ?_
    exact wX9_boots_66   C  _ _ _ _ _ _  hf
set_option maxHeartbeats 4000000 in
set_option maxRecDepth 100000 in
theorem wX9_boots_7 {p : Program} {l : Launch} {e : Env} {s : State} {m : MethodId} {args : Array Value} {below : List Frame} {meth : Method} {c : Code} {ρ : bsR} {cA : Nat → ClassId} {dC : Nat → ClassId} {dI : Nat → Nat → Nat} {Rz : va_W} {Ts : List Cond}   {z : (Int32 × bsX)} (C : bsCx p m c cX9_boots 4 s args Ts RX9 ρ cA dC dI Rz meth (some .int)) : ∀ (n : Nat) (x1 : Int32) (x2 : Int32) (x3 : Int32) (X : bsX), fX9_boots_7  n x1 x2 x3 X = some z → bsV p l e rmX9_boots s m args below meth c 0 0 (MQ below (bsQi ρ cA dC dI Rz z s.heap.size) args s 0 0 (bsA ρ cA Rz s.heap.size)) ρ cA dC dI Rz 4 7 [(0, .ref (ρ 14 0 0)), (1, .int x1), (2, .int x2), (3, .int x3)] [] X := by
  intro n
  induction n with
  | zero => intro x1 x2 x3 X hf; exact (nomatch hf)
  | succ n ih =>
    intro x1 x2 x3 X hf
    rw [fX9_boots_7] at hf
    refine v_iload_n C dX9_boots_7 rfl rfl ?_
    refine v_iconst (v := -1) C dX9_boots_8 (by decide) ?_
    refine v_icmp_eq (tgt := 34) C dX9_boots_9 (by decide) (fun h17 => ?_) (fun h17 => ?_)
    · replace hf := bs_pos h17 hf
      refine v_sub [0, 1, 2, 3] rfl ?_
      exact wX9_boots_34   C  _ _ _ _  hf
    · replace hf := bs_neg h17 hf
      refine v_aload_n C dX9_boots_12 rfl rfl ?_
      refine v_iload_n C dX9_boots_13 rfl rfl ?_
      obtain ⟨r12, hc13, hf⟩ := bs_bind hf
      refine v_callVi (y := yX9_tries) (As := [.int x3]) (rest := []) C (cX9_tries_ok  hc13) ml_X9_85 wyX9_tries (bsm_X9) (bsc_X9) rfl dpX9_tries ⟨Nat.le_of_ble_eq_true rfl, Nat.le_of_ble_eq_true rfl⟩ ⟨rfl, rfl⟩ ⟨Nat.le_of_ble_eq_true rfl, Nat.le_of_ble_eq_true rfl⟩ rfl (Nat.le_of_ble_eq_true rfl) dX9_boots_14 ?_
      refine v_if_ne (tgt := 34) C dX9_boots_17 (by decide) (fun h16 => ?_) (fun h16 => ?_)
      · replace hf := bs_neg h16 hf
        refine v_sub [0, 1, 2, 3] rfl ?_
        exact wX9_boots_34   C  _ _ _ _  hf
      · replace hf := bs_pos h16 hf
        refine v_iload_n C dX9_boots_20 rfl rfl ?_
        refine v_iconst (v := 1) C dX9_boots_21 (by decide) ?_
        refine v_iload_n C dX9_boots_22 rfl rfl ?_
        refine v_ishl C dX9_boots_23 ?_
        refine v_ior C dX9_boots_24 ?_
        refine v_istore_n (lv' := [(2, .int (x2 ||| ((1 : Int32) <<< (x3 &&& 31)))), (0, .ref (ρ 14 0 0)), (1, .int x1), (3, .int x3)]) C dX9_boots_25 rfl (by decide) rfl ?_
        refine v_aload_n C dX9_boots_26 rfl rfl ?_
        obtain ⟨r14, hc15, hf⟩ := bs_bind hf
        refine v_callVi (y := yX9_first) (As := []) (rest := []) C (cX9_first_ok  hc15) ml_X9_81 wyX9_first (bsm_X9) (bsc_X9) rfl dpX9_first ⟨Nat.le_of_ble_eq_true rfl, Nat.le_of_ble_eq_true rfl⟩ ⟨rfl, rfl⟩ ⟨Nat.le_of_ble_eq_true rfl, Nat.le_of_ble_eq_true rfl⟩ rfl (Nat.le_of_ble_eq_true rfl) dX9_boots_27 ?_
        refine v_istore_n (lv' := [(3, .int r14.1), (2, .int (x2 ||| ((1 : Int32) <<< (x3 &&& 31)))), (0, .ref (ρ 14 0 0)), (1, .int x1)]) C dX9_boots_30 rfl (by decide) rfl ?_
        refine v_goto (tgt := 7) C dX9_boots_31 (by decide) ?_
        refine v_sub [2, 3, 1, 0] rfl ?_
        exact ih _ _ _ _  hf
set_option maxHeartbeats 4000000 in
set_option maxRecDepth 100000 in
theorem cX9_boots_ok {l : Launch} {ρ : bsR} {cA : Nat → ClassId} {dC : Nat → ClassId} {dI : Nat → Nat → Nat} {Rz : va_W}  {a1 : Int32} {X : bsX} {z : (Int32 × bsX)} (hf : fX9_boots a1 X = some z) : bsMi l yX9_boots cX9_boots 4 (some .int) rmX9_boots ρ cA dC dI Rz [.ref (ρ 14 0 0), .int a1] X z := by
  refine bsMi_of (by decide) (Nat.le_of_ble_eq_true rfl) (fun p e s m args below meth c C => ?_)
  have C : bsCx p m c cX9_boots 4 s args (Cond.code yX9_boots cX9_boots 4 (some .int) :: bsG) RX9 ρ cA dC dI Rz meth (some .int) := C
  rw [fX9_boots] at hf
  refine v_sub [0, 1] rfl ?_
  refine v_iconst (v := 0) C dX9_boots_0 (by decide) ?_
  refine v_istore_n (lv' := [(2, .int (0 : Int32)), (0, .ref (ρ 14 0 0)), (1, .int a1)]) C dX9_boots_1 rfl (by decide) rfl ?_
  refine v_aload_n C dX9_boots_2 rfl rfl ?_
  obtain ⟨r18, hc19, hf⟩ := bs_bind hf
  refine v_callVi (y := yX9_first) (As := []) (rest := []) C (cX9_first_ok  hc19) ml_X9_81 wyX9_first (bsm_X9) (bsc_X9) rfl dpX9_first ⟨Nat.le_of_ble_eq_true rfl, Nat.le_of_ble_eq_true rfl⟩ ⟨rfl, rfl⟩ ⟨Nat.le_of_ble_eq_true rfl, Nat.le_of_ble_eq_true rfl⟩ rfl (Nat.le_of_ble_eq_true rfl) dX9_boots_3 ?_
  refine v_istore_n (lv' := [(3, .int r18.1), (2, .int (0 : Int32)), (0, .ref (ρ 14 0 0)), (1, .int a1)]) C dX9_boots_6 rfl (by decide) rfl ?_
  refine v_sub [2, 3, 1, 0] rfl ?_
  exact wX9_boots_7   C  bsF _ _ _ _  hf
/-! BootSlotsModel.leastGood(I)I -/
def fX9_leastGood_51 (k4 : Int32 → Int32 → Int32 → bsX → Option (Int32 × bsX)) (x1 : Int32) (x2 : Int32) (x3 : Int32) (X : bsX) : Option (Int32 × bsX) := k4 x1 x2 (x3 + (1 : Int32)) X
def fX9_leastGood_43 (k4 : Int32 → Int32 → Int32 → bsX → Option (Int32 × bsX)) (x1 : Int32) (x3 : Int32) (X : bsX) : Option (Int32 × bsX) := (fX9_of  x3 (8 : Int32) X).bind fun r1 => fX9_leastGood_51  k4 x1 r1.1 x3 r1.2
def fX9_leastGood_27 (k4 : Int32 → Int32 → Int32 → bsX → Option (Int32 × bsX)) (x1 : Int32) (x2 : Int32) (x3 : Int32) (X : bsX) : Option (Int32 × bsX) := if x2 = (-1 : Int32) then (fX9_leastGood_43  k4 x1 x3 X) else ((fX9_of  x3 (8 : Int32) X).bind fun r3 => if x2 ≤ r3.1 then (fX9_leastGood_51  k4 x1 x2 x3 r3.2) else (fX9_leastGood_43  k4 x1 x3 r3.2))
def fX9_leastGood_4 : Nat → Int32 → Int32 → Int32 → bsX → Option (Int32 × bsX)
  | 0, _, _, _, _ => none
  | n + 1, x1, x2, x3, X => if bsIn (0 : Int32) 160 then (if (X 14 1 0 (bsIx (0 : Int32))) ≤ x3 then (some (x2, X)) else ((fX9_isGood  x3 X).bind fun r8 => if r8.1 = 0 then (if x3 = x1 then (fX9_leastGood_27  (fX9_leastGood_4  n) x1 x2 x3 r8.2) else (fX9_leastGood_51  (fX9_leastGood_4  n) x1 x2 x3 r8.2)) else (fX9_leastGood_27  (fX9_leastGood_4  n) x1 x2 x3 r8.2))) else none
def fX9_leastGood (a1 : Int32) (X : bsX) : Option (Int32 × bsX) := fX9_leastGood_4   bsF a1 (-1 : Int32) (0 : Int32) X
abbrev rmX9_leastGood : Room := { frames := 2, cells := 0, slots := 0, locals := 43 }
set_option maxHeartbeats 4000000 in
set_option maxRecDepth 100000 in
theorem wX9_leastGood_51 {p : Program} {l : Launch} {e : Env} {s : State} {m : MethodId} {args : Array Value} {below : List Frame} {meth : Method} {c : Code} {ρ : bsR} {cA : Nat → ClassId} {dC : Nat → ClassId} {dI : Nat → Nat → Nat} {Rz : va_W} {Ts : List Cond}  (k4 : Int32 → Int32 → Int32 → bsX → Option (Int32 × bsX))  {z : (Int32 × bsX)} (C : bsCx p m c cX9_leastGood 4 s args Ts RX9 ρ cA dC dI Rz meth (some .int)) (hk4 : ∀ (x1 : Int32) (x2 : Int32) (x3 : Int32) (X : bsX), k4 x1 x2 x3 X = some z → bsV p l e rmX9_leastGood s m args below meth c 0 0 (MQ below (bsQi ρ cA dC dI Rz z s.heap.size) args s 0 0 (bsA ρ cA Rz s.heap.size)) ρ cA dC dI Rz 4 4 [(0, .ref (ρ 14 0 0)), (1, .int x1), (2, .int x2), (3, .int x3)] [] X)  (x1 : Int32) (x2 : Int32) (x3 : Int32) (X : bsX) (hf : fX9_leastGood_51 k4 x1 x2 x3 X = some z) : bsV p l e rmX9_leastGood s m args below meth c 0 0 (MQ below (bsQi ρ cA dC dI Rz z s.heap.size) args s 0 0 (bsA ρ cA Rz s.heap.size)) ρ cA dC dI Rz 4 51 [(0, .ref (ρ 14 0 0)), (1, .int x1), (2, .int x2), (3, .int x3)] [] X := by
  rw [fX9_leastGood_51] at hf
  refine v_iinc (k0 := 3) (v := (x3 + (1 : Int32))) (lv' := [(3, .int (x3 + (1 : Int32))), (0, .ref (ρ 14 0 0)), (1, .int x1), (2, .int x2)]) C dX9_leastGood_51 rfl rfl (by decide) rfl ?_
  refine v_goto (tgt := 4) C dX9_leastGood_54 (by decide) ?_
  refine v_sub [1, 2, 3, 0] rfl ?_
  exact hk4 _ _ _ _  hf
set_option maxHeartbeats 4000000 in
set_option maxRecDepth 100000 in
theorem wX9_leastGood_43 {p : Program} {l : Launch} {e : Env} {s : State} {m : MethodId} {args : Array Value} {below : List Frame} {meth : Method} {c : Code} {ρ : bsR} {cA : Nat → ClassId} {dC : Nat → ClassId} {dI : Nat → Nat → Nat} {Rz : va_W} {Ts : List Cond}  (k4 : Int32 → Int32 → Int32 → bsX → Option (Int32 × bsX))  {z : (Int32 × bsX)} (C : bsCx p m c cX9_leastGood 4 s args Ts RX9 ρ cA dC dI Rz meth (some .int)) (hk4 : ∀ (x1 : Int32) (x2 : Int32) (x3 : Int32) (X : bsX), k4 x1 x2 x3 X = some z → bsV p l e rmX9_leastGood s m args below meth c 0 0 (MQ below (bsQi ρ cA dC dI Rz z s.heap.size) args s 0 0 (bsA ρ cA Rz s.heap.size)) ρ cA dC dI Rz 4 4 [(0, .ref (ρ 14 0 0)), (1, .int x1), (2, .int x2), (3, .int x3)] [] X)  (x1 : Int32) (x3 : Int32) (X : bsX) (hf : fX9_leastGood_43 k4 x1 x3 X = some z) : bsV p l e rmX9_leastGood s m args below meth c 0 0 (MQ below (bsQi ρ cA dC dI Rz z s.heap.size) args s 0 0 (bsA ρ cA Rz s.heap.size)) ρ cA dC dI Rz 4 43 [(0, .ref (ρ 14 0 0)), (1, .int x1), (3, .int x3)] [] X := by
  rw [fX9_leastGood_43] at hf
  refine v_aload_n C dX9_leastGood_43 rfl rfl ?_
  refine v_iload_n C dX9_leastGood_44 rfl rfl ?_
  refine v_bipush (v := 8) C dX9_leastGood_45 (by decide) ?_
  obtain ⟨r1, hc2, hf⟩ := bs_bind hf
  refine v_callVi (y := yX9_of) (As := [.int x3, .int (8 : Int32)]) (rest := []) C (cX9_of_ok  hc2) ml_X9_56 wyX9_of (bsm_X9) (bsc_X9) rfl dpX9_of ⟨Nat.le_of_ble_eq_true rfl, Nat.le_of_ble_eq_true rfl⟩ ⟨rfl, rfl⟩ ⟨Nat.le_of_ble_eq_true rfl, Nat.le_of_ble_eq_true rfl⟩ rfl (Nat.le_of_ble_eq_true rfl) dX9_leastGood_47 ?_
  refine v_istore_n (lv' := [(2, .int r1.1), (0, .ref (ρ 14 0 0)), (1, .int x1), (3, .int x3)]) C dX9_leastGood_50 rfl (by decide) rfl ?_
  refine v_sub [1, 2, 0, 3] rfl ?_
  exact wX9_leastGood_51  k4 C hk4 _ _ _ _  hf
set_option maxHeartbeats 4000000 in
set_option maxRecDepth 100000 in
theorem wX9_leastGood_27 {p : Program} {l : Launch} {e : Env} {s : State} {m : MethodId} {args : Array Value} {below : List Frame} {meth : Method} {c : Code} {ρ : bsR} {cA : Nat → ClassId} {dC : Nat → ClassId} {dI : Nat → Nat → Nat} {Rz : va_W} {Ts : List Cond}  (k4 : Int32 → Int32 → Int32 → bsX → Option (Int32 × bsX))  {z : (Int32 × bsX)} (C : bsCx p m c cX9_leastGood 4 s args Ts RX9 ρ cA dC dI Rz meth (some .int)) (hk4 : ∀ (x1 : Int32) (x2 : Int32) (x3 : Int32) (X : bsX), k4 x1 x2 x3 X = some z → bsV p l e rmX9_leastGood s m args below meth c 0 0 (MQ below (bsQi ρ cA dC dI Rz z s.heap.size) args s 0 0 (bsA ρ cA Rz s.heap.size)) ρ cA dC dI Rz 4 4 [(0, .ref (ρ 14 0 0)), (1, .int x1), (2, .int x2), (3, .int x3)] [] X)  (x1 : Int32) (x2 : Int32) (x3 : Int32) (X : bsX) (hf : fX9_leastGood_27 k4 x1 x2 x3 X = some z) : bsV p l e rmX9_leastGood s m args below meth c 0 0 (MQ below (bsQi ρ cA dC dI Rz z s.heap.size) args s 0 0 (bsA ρ cA Rz s.heap.size)) ρ cA dC dI Rz 4 27 [(0, .ref (ρ 14 0 0)), (1, .int x1), (2, .int x2), (3, .int x3)] [] X := by
  rw [fX9_leastGood_27] at hf
  refine v_iload_n C dX9_leastGood_27 rfl rfl ?_
  refine v_iconst (v := -1) C dX9_leastGood_28 (by decide) ?_
  refine v_icmp_eq (tgt := 43) C dX9_leastGood_29 (by decide) (fun h6 => ?_) (fun h6 => ?_)
  · replace hf := bs_pos h6 hf
    refine v_sub [0, 1, 3] rfl ?_
    exact wX9_leastGood_43  k4 C hk4 _ _ _  hf
  · replace hf := bs_neg h6 hf
    refine v_aload_n C dX9_leastGood_32 rfl rfl ?_
    refine v_iload_n C dX9_leastGood_33 rfl rfl ?_
    refine v_bipush (v := 8) C dX9_leastGood_34 (by decide) ?_
    obtain ⟨r3, hc4, hf⟩ := bs_bind hf
    refine v_callVi (y := yX9_of) (As := [.int x3, .int (8 : Int32)]) (rest := []) C (cX9_of_ok  hc4) ml_X9_56 wyX9_of (bsm_X9) (bsc_X9) rfl dpX9_of ⟨Nat.le_of_ble_eq_true rfl, Nat.le_of_ble_eq_true rfl⟩ ⟨rfl, rfl⟩ ⟨Nat.le_of_ble_eq_true rfl, Nat.le_of_ble_eq_true rfl⟩ rfl (Nat.le_of_ble_eq_true rfl) dX9_leastGood_36 ?_
    refine v_iload_n C dX9_leastGood_39 rfl rfl ?_
    refine v_icmp_ge (tgt := 51) C dX9_leastGood_40 (by decide) (fun h5 => ?_) (fun h5 => ?_)
    · replace hf := bs_pos h5 hf
      refine v_sub [0, 1, 2, 3] rfl ?_
      exact wX9_leastGood_51  k4 C hk4 _ _ _ _  hf
    · replace hf := bs_neg h5 hf
      refine v_sub [0, 1, 3] rfl ?_
      exact wX9_leastGood_43  k4 C hk4 _ _ _  hf
set_option maxHeartbeats 4000000 in
set_option maxRecDepth 100000 in
theorem wX9_leastGood_4 {p : Program} {l : Launch} {e : Env} {s : State} {m : MethodId} {args : Array Value} {below : List Frame} {meth : Method} {c : Code} {ρ : bsR} {cA : Nat → ClassId} {dC : Nat → ClassId} {dI : Nat → Nat → Nat} {Rz : va_W} {Ts : List Cond}   {z : (Int32 × bsX)} (C : bsCx p m c cX9_leastGood 4 s args Ts RX9 ρ cA dC dI Rz meth (some .int)) : ∀ (n : Nat) (x1 : Int32) (x2 : Int32) (x3 : Int32) (X : bsX), fX9_leastGood_4  n x1 x2 x3 X = some z → bsV p l e rmX9_leastGood s m args below meth c 0 0 (MQ below (bsQi ρ cA dC dI Rz z s.heap.size) args s 0 0 (bsA ρ cA Rz s.heap.size)) ρ cA dC dI Rz 4 4 [(0, .ref (ρ 14 0 0)), (1, .int x1), (2, .int x2), (3, .int x3)] [] X := by
  intro n
  induction n with
  | zero => intro x1 x2 x3 X hf; exact (nomatch hf)
  | succ n ih =>
    intro x1 x2 x3 X hf
    rw [fX9_leastGood_4] at hf
    refine v_iload_n C dX9_leastGood_4 rfl rfl ?_
    refine v_aload_n C dX9_leastGood_5 rfl rfl ?_
    refine gf_X9_7 C dX9_leastGood_6 ?_
    refine v_iconst (v := 0) C dX9_leastGood_9 (by decide) ?_
    obtain ⟨hi7, hf⟩ := bs_if hf
    refine v_iald (n := 160) C bsm_14_1 bsc_14_1 hi7 dX9_leastGood_10 ?_
    refine v_icmp_ge (tgt := 57) C dX9_leastGood_11 (by decide) (fun h12 => ?_) (fun h12 => ?_)
    · replace hf := bs_pos h12 hf
      refine v_iload_n C dX9_leastGood_57 rfl rfl ?_
      exact v_iret C hf dX9_leastGood_58
    · replace hf := bs_neg h12 hf
      refine v_aload_n C dX9_leastGood_14 rfl rfl ?_
      refine v_iload_n C dX9_leastGood_15 rfl rfl ?_
      obtain ⟨r8, hc9, hf⟩ := bs_bind hf
      refine v_callVi (y := yX9_isGood) (As := [.int x3]) (rest := []) C (cX9_isGood_ok  hc9) ml_X9_63 wyX9_isGood (bsm_X9) (bsc_X9) rfl dpX9_isGood ⟨Nat.le_of_ble_eq_true rfl, Nat.le_of_ble_eq_true rfl⟩ ⟨rfl, rfl⟩ ⟨Nat.le_of_ble_eq_true rfl, Nat.le_of_ble_eq_true rfl⟩ rfl (Nat.le_of_ble_eq_true rfl) dX9_leastGood_16 ?_
      refine v_if_ne (tgt := 27) C dX9_leastGood_19 (by decide) (fun h11 => ?_) (fun h11 => ?_)
      · replace hf := bs_neg h11 hf
        refine v_sub [0, 1, 2, 3] rfl ?_
        exact wX9_leastGood_27  (fX9_leastGood_4  n) C (fun b0 b1 b2 X  h => ih b0 b1 b2 X  h) _ _ _ _  hf
      · replace hf := bs_pos h11 hf
        refine v_iload_n C dX9_leastGood_22 rfl rfl ?_
        refine v_iload_n C dX9_leastGood_23 rfl rfl ?_
        refine v_icmp_ne (tgt := 51) C dX9_leastGood_24 (by decide) (fun h10 => ?_) (fun h10 => ?_)
        · replace hf := bs_neg h10 hf
          refine v_sub [0, 1, 2, 3] rfl ?_
          exact wX9_leastGood_51  (fX9_leastGood_4  n) C (fun b0 b1 b2 X  h => ih b0 b1 b2 X  h) _ _ _ _  hf
        · replace hf := bs_pos h10 hf
          refine v_sub [0, 1, 2, 3] rfl ?_
          exact wX9_leastGood_27  (fX9_leastGood_4  n) C (fun b0 b1 b2 X  h => ih b0 b1 b2 X  h) _ _ _ _  hf
set_option maxHeartbeats 4000000 in
set_option maxRecDepth 100000 in
theorem cX9_leastGood_ok {l : Launch} {ρ : bsR} {cA : Nat → ClassId} {dC : Nat → ClassId} {dI : Nat → Nat → Nat} {Rz : va_W}  {a1 : Int32} {X : bsX} {z : (Int32 × bsX)} (hf : fX9_leastGood a1 X = some z) : bsMi l yX9_leastGood cX9_leastGood 4 (some .int) rmX9_leastGood ρ cA dC dI Rz [.ref (ρ 14 0 0), .int a1] X z := by
  refine bsMi_of (by decide) (Nat.le_of_ble_eq_true rfl) (fun p e s m args below meth c C => ?_)
  have C : bsCx p m c cX9_leastGood 4 s args (Cond.code yX9_leastGood cX9_leastGood 4 (some .int) :: bsG) RX9 ρ cA dC dI Rz meth (some .int) := C
  rw [fX9_leastGood] at hf
  refine v_sub [0, 1] rfl ?_
  refine v_iconst (v := -1) C dX9_leastGood_0 (by decide) ?_
  refine v_istore_n (lv' := [(2, .int (-1 : Int32)), (0, .ref (ρ 14 0 0)), (1, .int a1)]) C dX9_leastGood_1 rfl (by decide) rfl ?_
  refine v_iconst (v := 0) C dX9_leastGood_2 (by decide) ?_
  refine v_istore_n (lv' := [(3, .int (0 : Int32)), (2, .int (-1 : Int32)), (0, .ref (ρ 14 0 0)), (1, .int a1)]) C dX9_leastGood_3 rfl (by decide) rfl ?_
  refine v_sub [2, 3, 1, 0] rfl ?_
  exact wX9_leastGood_4   C  bsF _ _ _ _  hf
/-! BootSlotsModel.crashes(I)V -/
def fX9_crashes_74 (X : bsX) : Option bsX := (fX9_boots  (2 : Int32) X).bind fun r1 => some r1.2
def fX9_crashes (a1 : Int32) (X : bsX) : Option bsX := if bsIn (15 : Int32) 160 then ((fX9_of  a1 (4 : Int32) (bsWr X 14 1 0 (bsIx (15 : Int32)) ((X 14 1 0 (bsIx (15 : Int32))) + (1 : Int32)))).bind fun r5 => (fX9_puts  a1 (4 : Int32) (r5.1 + (1 : Int32)) r5.2).bind fun r7 => (fX9_isGood  a1 r7).bind fun r9 => if r9.1 = 0 then (fX9_crashes_74    r9.2) else ((fX9_of  a1 (4 : Int32) r9.2).bind fun r11 => if bsIn (3 : Int32) 160 then (if r11.1 < (r11.2 14 1 0 (bsIx (3 : Int32))) then (fX9_crashes_74    r11.2) else ((fX9_puts  a1 (3 : Int32) (0 : Int32) r11.2).bind fun r14 => if bsIn (4 : Int32) 160 then ((fX9_puts  a1 (2 : Int32) (r14 14 1 0 (bsIx (4 : Int32))) r14).bind fun r17 => (fX9_puts  a1 (4 : Int32) (0 : Int32) r17).bind fun r19 => fX9_crashes_74    r19) else none)) else none)) else none
abbrev rmX9_crashes : Room := { frames := 6, cells := 0, slots := 0, locals := 130 }
set_option maxHeartbeats 4000000 in
set_option maxRecDepth 100000 in
theorem wX9_crashes_74 {p : Program} {l : Launch} {e : Env} {s : State} {m : MethodId} {args : Array Value} {below : List Frame} {meth : Method} {c : Code} {ρ : bsR} {cA : Nat → ClassId} {dC : Nat → ClassId} {dI : Nat → Nat → Nat} {Rz : va_W} {Ts : List Cond}   {z : bsX} (C : bsCx p m c cX9_crashes 3 s args Ts RX9 ρ cA dC dI Rz meth none) (X : bsX) (hf : fX9_crashes_74  X = some z) : bsV p l e rmX9_crashes s m args below meth c 0 0 (MQ below (bsQv ρ cA dC dI Rz z s.heap.size) args s 0 0 (bsA ρ cA Rz s.heap.size)) ρ cA dC dI Rz 3 74 [(0, .ref (ρ 14 0 0))] [] X := by
  rw [fX9_crashes_74] at hf
  refine v_aload_n C dX9_crashes_74 rfl rfl ?_
  refine v_iconst (v := 2) C dX9_crashes_75 (by decide) ?_
  obtain ⟨r1, hc2, hf⟩ := bs_bind hf
  refine v_callVi (y := yX9_boots) (As := [.int (2 : Int32)]) (rest := []) C (cX9_boots_ok  hc2) ml_X9_92 wyX9_boots (bsm_X9) (bsc_X9) rfl dpX9_boots ⟨Nat.le_of_ble_eq_true rfl, Nat.le_of_ble_eq_true rfl⟩ ⟨rfl, rfl⟩ ⟨Nat.le_of_ble_eq_true rfl, Nat.le_of_ble_eq_true rfl⟩ rfl (Nat.le_of_ble_eq_true rfl) dX9_crashes_76 ?_
  refine v_istore_n (lv' := [(2, .int r1.1), (0, .ref (ρ 14 0 0))]) C dX9_crashes_79 rfl (by decide) rfl ?_
  exact v_vret C hf dX9_crashes_80
set_option maxHeartbeats 4000000 in
set_option maxRecDepth 100000 in
theorem cX9_crashes_ok {l : Launch} {ρ : bsR} {cA : Nat → ClassId} {dC : Nat → ClassId} {dI : Nat → Nat → Nat} {Rz : va_W}  {a1 : Int32} {X : bsX} {z : bsX} (hf : fX9_crashes a1 X = some z) : bsMv l yX9_crashes cX9_crashes 3 none rmX9_crashes ρ cA dC dI Rz [.ref (ρ 14 0 0), .int a1] X z := by
  refine bsMv_of (by decide) (Nat.le_of_ble_eq_true rfl) (fun p e s m args below meth c C => ?_)
  have C : bsCx p m c cX9_crashes 3 s args (Cond.code yX9_crashes cX9_crashes 3 none :: bsG) RX9 ρ cA dC dI Rz meth none := C
  rw [fX9_crashes] at hf
  refine v_sub [0, 1] rfl ?_
  refine v_aload_n C dX9_crashes_0 rfl rfl ?_
  refine gf_X9_7 C dX9_crashes_1 ?_
  refine v_bipush (v := 15) C dX9_crashes_4 (by decide) ?_
  refine v_dup2 C dX9_crashes_6 rfl rfl ?_
  obtain ⟨hi3, hf⟩ := bs_if hf
  refine v_iald (n := 160) C bsm_14_1 bsc_14_1 hi3 dX9_crashes_7 ?_
  refine v_iconst (v := 1) C dX9_crashes_8 (by decide) ?_
  refine v_iadd C dX9_crashes_9 ?_
  refine v_iast (n := 160) C bsm_14_1 (fun _ => bsc_14_1) hi3 dX9_crashes_10 ?_
  refine v_aload_n C dX9_crashes_11 rfl rfl ?_
  refine v_iload_n C dX9_crashes_12 rfl rfl ?_
  refine v_iconst (v := 4) C dX9_crashes_13 (by decide) ?_
  refine v_aload_n C dX9_crashes_14 rfl rfl ?_
  refine v_iload_n C dX9_crashes_15 rfl rfl ?_
  refine v_iconst (v := 4) C dX9_crashes_16 (by decide) ?_
  obtain ⟨r5, hc6, hf⟩ := bs_bind hf
  refine v_callVi (y := yX9_of) (As := [.int a1, .int (4 : Int32)]) (rest := [.int (4 : Int32), .int a1, .ref (ρ 14 0 0)]) C (cX9_of_ok  hc6) ml_X9_56 wyX9_of (bsm_X9) (bsc_X9) rfl dpX9_of ⟨Nat.le_of_ble_eq_true rfl, Nat.le_of_ble_eq_true rfl⟩ ⟨rfl, rfl⟩ ⟨Nat.le_of_ble_eq_true rfl, Nat.le_of_ble_eq_true rfl⟩ rfl (Nat.le_of_ble_eq_true rfl) dX9_crashes_17 ?_
  refine v_iconst (v := 1) C dX9_crashes_20 (by decide) ?_
  refine v_iadd C dX9_crashes_21 ?_
  obtain ⟨r7, hc8, hf⟩ := bs_bind hf
  refine v_callVv (y := yX9_puts) (As := [.int a1, .int (4 : Int32), .int (r5.1 + (1 : Int32))]) (rest := []) C (cX9_puts_ok  hc8) ml_X9_77 wyX9_puts (bsm_X9) (bsc_X9) rfl dpX9_puts ⟨Nat.le_of_ble_eq_true rfl, Nat.le_of_ble_eq_true rfl⟩ ⟨rfl, rfl⟩ ⟨Nat.le_of_ble_eq_true rfl, Nat.le_of_ble_eq_true rfl⟩ rfl (Nat.le_of_ble_eq_true rfl) dX9_crashes_22 ?_
  refine v_aload_n C dX9_crashes_25 rfl rfl ?_
  refine v_iload_n C dX9_crashes_26 rfl rfl ?_
  obtain ⟨r9, hc10, hf⟩ := bs_bind hf
  refine v_callVi (y := yX9_isGood) (As := [.int a1]) (rest := []) C (cX9_isGood_ok  hc10) ml_X9_63 wyX9_isGood (bsm_X9) (bsc_X9) rfl dpX9_isGood ⟨Nat.le_of_ble_eq_true rfl, Nat.le_of_ble_eq_true rfl⟩ ⟨rfl, rfl⟩ ⟨Nat.le_of_ble_eq_true rfl, Nat.le_of_ble_eq_true rfl⟩ rfl (Nat.le_of_ble_eq_true rfl) dX9_crashes_27 ?_
  refine v_if_eq (tgt := 74) C dX9_crashes_30 (by decide) (fun h22 => ?_) (fun h22 => ?_)
  · replace hf := bs_pos h22 hf
    refine v_sub [0] rfl ?_
    exact wX9_crashes_74   C  _  hf
  · replace hf := bs_neg h22 hf
    refine v_aload_n C dX9_crashes_33 rfl rfl ?_
    refine v_iload_n C dX9_crashes_34 rfl rfl ?_
    refine v_iconst (v := 4) C dX9_crashes_35 (by decide) ?_
    obtain ⟨r11, hc12, hf⟩ := bs_bind hf
    refine v_callVi (y := yX9_of) (As := [.int a1, .int (4 : Int32)]) (rest := []) C (cX9_of_ok  hc12) ml_X9_56 wyX9_of (bsm_X9) (bsc_X9) rfl dpX9_of ⟨Nat.le_of_ble_eq_true rfl, Nat.le_of_ble_eq_true rfl⟩ ⟨rfl, rfl⟩ ⟨Nat.le_of_ble_eq_true rfl, Nat.le_of_ble_eq_true rfl⟩ rfl (Nat.le_of_ble_eq_true rfl) dX9_crashes_36 ?_
    refine v_aload_n C dX9_crashes_39 rfl rfl ?_
    refine gf_X9_7 C dX9_crashes_40 ?_
    refine v_iconst (v := 3) C dX9_crashes_43 (by decide) ?_
    obtain ⟨hi13, hf⟩ := bs_if hf
    refine v_iald (n := 160) C bsm_14_1 bsc_14_1 hi13 dX9_crashes_44 ?_
    refine v_icmp_lt (tgt := 74) C dX9_crashes_45 (by decide) (fun h21 => ?_) (fun h21 => ?_)
    · replace hf := bs_pos h21 hf
      refine v_sub [0] rfl ?_
      exact wX9_crashes_74   C  _  hf
    · replace hf := bs_neg h21 hf
      refine v_aload_n C dX9_crashes_48 rfl rfl ?_
      refine v_iload_n C dX9_crashes_49 rfl rfl ?_
      refine v_iconst (v := 3) C dX9_crashes_50 (by decide) ?_
      refine v_iconst (v := 0) C dX9_crashes_51 (by decide) ?_
      obtain ⟨r14, hc15, hf⟩ := bs_bind hf
      refine v_callVv (y := yX9_puts) (As := [.int a1, .int (3 : Int32), .int (0 : Int32)]) (rest := []) C (cX9_puts_ok  hc15) ml_X9_77 wyX9_puts (bsm_X9) (bsc_X9) rfl dpX9_puts ⟨Nat.le_of_ble_eq_true rfl, Nat.le_of_ble_eq_true rfl⟩ ⟨rfl, rfl⟩ ⟨Nat.le_of_ble_eq_true rfl, Nat.le_of_ble_eq_true rfl⟩ rfl (Nat.le_of_ble_eq_true rfl) dX9_crashes_52 ?_
      refine v_aload_n C dX9_crashes_55 rfl rfl ?_
      refine v_iload_n C dX9_crashes_56 rfl rfl ?_
      refine v_iconst (v := 2) C dX9_crashes_57 (by decide) ?_
      refine v_aload_n C dX9_crashes_58 rfl rfl ?_
      refine gf_X9_7 C dX9_crashes_59 ?_
      refine v_iconst (v := 4) C dX9_crashes_62 (by decide) ?_
      obtain ⟨hi16, hf⟩ := bs_if hf
      refine v_iald (n := 160) C bsm_14_1 bsc_14_1 hi16 dX9_crashes_63 ?_
      obtain ⟨r17, hc18, hf⟩ := bs_bind hf
      refine v_callVv (y := yX9_puts) (As := [.int a1, .int (2 : Int32), .int (r14 14 1 0 (bsIx (4 : Int32)))]) (rest := []) C (cX9_puts_ok  hc18) ml_X9_77 wyX9_puts (bsm_X9) (bsc_X9) rfl dpX9_puts ⟨Nat.le_of_ble_eq_true rfl, Nat.le_of_ble_eq_true rfl⟩ ⟨rfl, rfl⟩ ⟨Nat.le_of_ble_eq_true rfl, Nat.le_of_ble_eq_true rfl⟩ rfl (Nat.le_of_ble_eq_true rfl) dX9_crashes_64 ?_
      refine v_aload_n C dX9_crashes_67 rfl rfl ?_
      refine v_iload_n C dX9_crashes_68 rfl rfl ?_
      refine v_iconst (v := 4) C dX9_crashes_69 (by decide) ?_
      refine v_iconst (v := 0) C dX9_crashes_70 (by decide) ?_
      obtain ⟨r19, hc20, hf⟩ := bs_bind hf
      refine v_callVv (y := yX9_puts) (As := [.int a1, .int (4 : Int32), .int (0 : Int32)]) (rest := []) C (cX9_puts_ok  hc20) ml_X9_77 wyX9_puts (bsm_X9) (bsc_X9) rfl dpX9_puts ⟨Nat.le_of_ble_eq_true rfl, Nat.le_of_ble_eq_true rfl⟩ ⟨rfl, rfl⟩ ⟨Nat.le_of_ble_eq_true rfl, Nat.le_of_ble_eq_true rfl⟩ rfl (Nat.le_of_ble_eq_true rfl) dX9_crashes_71 ?_
      refine v_sub [0] rfl ?_
      exact wX9_crashes_74   C  _  hf
/-! BootSlotsModel.succeeds(I)V -/
def fX9_succeeds_49 (x1 : Int32) (X : bsX) : Option bsX := (fX9_puts  x1 (4 : Int32) (0 : Int32) X).bind fun r1 => if bsIn (5 : Int32) 160 then ((fX9_leastGood  x1 r1).bind fun r4 => some (bsWr r4.2 14 1 0 (bsIx (5 : Int32)) (bsMax (r1 14 1 0 (bsIx (5 : Int32))) r4.1))) else none
def fX9_succeeds (a1 : Int32) (X : bsX) : Option bsX := (fX9_isGood  a1 X).bind fun r7 => if r7.1 = 0 then ((fX9_puts  a1 (3 : Int32) (1 : Int32) r7.2).bind fun r9 => (fX9_puts  a1 (2 : Int32) (0 : Int32) r9).bind fun r11 => (fX9_of  a1 (7 : Int32) r11).bind fun r13 => (fX9_puts  a1 (7 : Int32) (r13.1 + (1 : Int32)) r13.2).bind fun r15 => if bsIn (17 : Int32) 160 then (fX9_succeeds_49   a1 (bsWr r15 14 1 0 (bsIx (17 : Int32)) ((r15 14 1 0 (bsIx (17 : Int32))) + (1 : Int32)))) else none) else (fX9_succeeds_49   a1 r7.2)
abbrev rmX9_succeeds : Room := { frames := 3, cells := 0, slots := 0, locals := 66 }
set_option maxHeartbeats 4000000 in
set_option maxRecDepth 100000 in
theorem wX9_succeeds_49 {p : Program} {l : Launch} {e : Env} {s : State} {m : MethodId} {args : Array Value} {below : List Frame} {meth : Method} {c : Code} {ρ : bsR} {cA : Nat → ClassId} {dC : Nat → ClassId} {dI : Nat → Nat → Nat} {Rz : va_W} {Ts : List Cond}   {z : bsX} (C : bsCx p m c cX9_succeeds 2 s args Ts RX9 ρ cA dC dI Rz meth none) (x1 : Int32) (X : bsX) (hf : fX9_succeeds_49 x1 X = some z) : bsV p l e rmX9_succeeds s m args below meth c 0 0 (MQ below (bsQv ρ cA dC dI Rz z s.heap.size) args s 0 0 (bsA ρ cA Rz s.heap.size)) ρ cA dC dI Rz 2 49 [(0, .ref (ρ 14 0 0)), (1, .int x1)] [] X := by
  rw [fX9_succeeds_49] at hf
  refine v_aload_n C dX9_succeeds_49 rfl rfl ?_
  refine v_iload_n C dX9_succeeds_50 rfl rfl ?_
  refine v_iconst (v := 4) C dX9_succeeds_51 (by decide) ?_
  refine v_iconst (v := 0) C dX9_succeeds_52 (by decide) ?_
  obtain ⟨r1, hc2, hf⟩ := bs_bind hf
  refine v_callVv (y := yX9_puts) (As := [.int x1, .int (4 : Int32), .int (0 : Int32)]) (rest := []) C (cX9_puts_ok  hc2) ml_X9_77 wyX9_puts (bsm_X9) (bsc_X9) rfl dpX9_puts ⟨Nat.le_of_ble_eq_true rfl, Nat.le_of_ble_eq_true rfl⟩ ⟨rfl, rfl⟩ ⟨Nat.le_of_ble_eq_true rfl, Nat.le_of_ble_eq_true rfl⟩ rfl (Nat.le_of_ble_eq_true rfl) dX9_succeeds_53 ?_
  refine v_aload_n C dX9_succeeds_56 rfl rfl ?_
  refine gf_X9_7 C dX9_succeeds_57 ?_
  refine v_iconst (v := 5) C dX9_succeeds_60 (by decide) ?_
  refine v_aload_n C dX9_succeeds_61 rfl rfl ?_
  refine gf_X9_7 C dX9_succeeds_62 ?_
  refine v_iconst (v := 5) C dX9_succeeds_65 (by decide) ?_
  obtain ⟨hi3, hf⟩ := bs_if hf
  refine v_iald (n := 160) C bsm_14_1 bsc_14_1 hi3 dX9_succeeds_66 ?_
  refine v_aload_n C dX9_succeeds_67 rfl rfl ?_
  refine v_iload_n C dX9_succeeds_68 rfl rfl ?_
  obtain ⟨r4, hc5, hf⟩ := bs_bind hf
  refine v_callVi (y := yX9_leastGood) (As := [.int x1]) (rest := [.int (r1 14 1 0 (bsIx (5 : Int32))), .int (5 : Int32), .ref (ρ 14 1 0)]) C (cX9_leastGood_ok  hc5) ml_X9_95 wyX9_leastGood (bsm_X9) (bsc_X9) rfl dpX9_leastGood ⟨Nat.le_of_ble_eq_true rfl, Nat.le_of_ble_eq_true rfl⟩ ⟨rfl, rfl⟩ ⟨Nat.le_of_ble_eq_true rfl, Nat.le_of_ble_eq_true rfl⟩ rfl (Nat.le_of_ble_eq_true rfl) dX9_succeeds_69 ?_
  refine v_mmax C (Nat.le_of_ble_eq_true rfl) (Nat.le_of_ble_eq_true rfl) (Nat.le_of_ble_eq_true rfl) (Nat.le_of_ble_eq_true rfl) (mm_X9_98) dX9_succeeds_72 ?_
  refine v_iast (n := 160) C bsm_14_1 (fun _ => bsc_14_1) hi3 dX9_succeeds_75 ?_
  exact v_vret C hf dX9_succeeds_76
set_option maxHeartbeats 4000000 in
set_option maxRecDepth 100000 in
theorem cX9_succeeds_ok {l : Launch} {ρ : bsR} {cA : Nat → ClassId} {dC : Nat → ClassId} {dI : Nat → Nat → Nat} {Rz : va_W}  {a1 : Int32} {X : bsX} {z : bsX} (hf : fX9_succeeds a1 X = some z) : bsMv l yX9_succeeds cX9_succeeds 2 none rmX9_succeeds ρ cA dC dI Rz [.ref (ρ 14 0 0), .int a1] X z := by
  refine bsMv_of (by decide) (Nat.le_of_ble_eq_true rfl) (fun p e s m args below meth c C => ?_)
  have C : bsCx p m c cX9_succeeds 2 s args (Cond.code yX9_succeeds cX9_succeeds 2 none :: bsG) RX9 ρ cA dC dI Rz meth none := C
  rw [fX9_succeeds] at hf
  refine v_sub [0, 1] rfl ?_
  refine v_aload_n C dX9_succeeds_0 rfl rfl ?_
  refine v_iload_n C dX9_succeeds_1 rfl rfl ?_
  obtain ⟨r7, hc8, hf⟩ := bs_bind hf
  refine v_callVi (y := yX9_isGood) (As := [.int a1]) (rest := []) C (cX9_isGood_ok  hc8) ml_X9_63 wyX9_isGood (bsm_X9) (bsc_X9) rfl dpX9_isGood ⟨Nat.le_of_ble_eq_true rfl, Nat.le_of_ble_eq_true rfl⟩ ⟨rfl, rfl⟩ ⟨Nat.le_of_ble_eq_true rfl, Nat.le_of_ble_eq_true rfl⟩ rfl (Nat.le_of_ble_eq_true rfl) dX9_succeeds_2 ?_
  refine v_if_ne (tgt := 49) C dX9_succeeds_5 (by decide) (fun h19 => ?_) (fun h19 => ?_)
  · replace hf := bs_neg h19 hf
    refine v_sub [0, 1] rfl ?_
    exact wX9_succeeds_49   C  _ _  hf
  · replace hf := bs_pos h19 hf
    refine v_aload_n C dX9_succeeds_8 rfl rfl ?_
    refine v_iload_n C dX9_succeeds_9 rfl rfl ?_
    refine v_iconst (v := 3) C dX9_succeeds_10 (by decide) ?_
    refine v_iconst (v := 1) C dX9_succeeds_11 (by decide) ?_
    obtain ⟨r9, hc10, hf⟩ := bs_bind hf
    refine v_callVv (y := yX9_puts) (As := [.int a1, .int (3 : Int32), .int (1 : Int32)]) (rest := []) C (cX9_puts_ok  hc10) ml_X9_77 wyX9_puts (bsm_X9) (bsc_X9) rfl dpX9_puts ⟨Nat.le_of_ble_eq_true rfl, Nat.le_of_ble_eq_true rfl⟩ ⟨rfl, rfl⟩ ⟨Nat.le_of_ble_eq_true rfl, Nat.le_of_ble_eq_true rfl⟩ rfl (Nat.le_of_ble_eq_true rfl) dX9_succeeds_12 ?_
    refine v_aload_n C dX9_succeeds_15 rfl rfl ?_
    refine v_iload_n C dX9_succeeds_16 rfl rfl ?_
    refine v_iconst (v := 2) C dX9_succeeds_17 (by decide) ?_
    refine v_iconst (v := 0) C dX9_succeeds_18 (by decide) ?_
    obtain ⟨r11, hc12, hf⟩ := bs_bind hf
    refine v_callVv (y := yX9_puts) (As := [.int a1, .int (2 : Int32), .int (0 : Int32)]) (rest := []) C (cX9_puts_ok  hc12) ml_X9_77 wyX9_puts (bsm_X9) (bsc_X9) rfl dpX9_puts ⟨Nat.le_of_ble_eq_true rfl, Nat.le_of_ble_eq_true rfl⟩ ⟨rfl, rfl⟩ ⟨Nat.le_of_ble_eq_true rfl, Nat.le_of_ble_eq_true rfl⟩ rfl (Nat.le_of_ble_eq_true rfl) dX9_succeeds_19 ?_
    refine v_aload_n C dX9_succeeds_22 rfl rfl ?_
    refine v_iload_n C dX9_succeeds_23 rfl rfl ?_
    refine v_bipush (v := 7) C dX9_succeeds_24 (by decide) ?_
    refine v_aload_n C dX9_succeeds_26 rfl rfl ?_
    refine v_iload_n C dX9_succeeds_27 rfl rfl ?_
    refine v_bipush (v := 7) C dX9_succeeds_28 (by decide) ?_
    obtain ⟨r13, hc14, hf⟩ := bs_bind hf
    refine v_callVi (y := yX9_of) (As := [.int a1, .int (7 : Int32)]) (rest := [.int (7 : Int32), .int a1, .ref (ρ 14 0 0)]) C (cX9_of_ok  hc14) ml_X9_56 wyX9_of (bsm_X9) (bsc_X9) rfl dpX9_of ⟨Nat.le_of_ble_eq_true rfl, Nat.le_of_ble_eq_true rfl⟩ ⟨rfl, rfl⟩ ⟨Nat.le_of_ble_eq_true rfl, Nat.le_of_ble_eq_true rfl⟩ rfl (Nat.le_of_ble_eq_true rfl) dX9_succeeds_30 ?_
    refine v_iconst (v := 1) C dX9_succeeds_33 (by decide) ?_
    refine v_iadd C dX9_succeeds_34 ?_
    obtain ⟨r15, hc16, hf⟩ := bs_bind hf
    refine v_callVv (y := yX9_puts) (As := [.int a1, .int (7 : Int32), .int (r13.1 + (1 : Int32))]) (rest := []) C (cX9_puts_ok  hc16) ml_X9_77 wyX9_puts (bsm_X9) (bsc_X9) rfl dpX9_puts ⟨Nat.le_of_ble_eq_true rfl, Nat.le_of_ble_eq_true rfl⟩ ⟨rfl, rfl⟩ ⟨Nat.le_of_ble_eq_true rfl, Nat.le_of_ble_eq_true rfl⟩ rfl (Nat.le_of_ble_eq_true rfl) dX9_succeeds_35 ?_
    refine v_aload_n C dX9_succeeds_38 rfl rfl ?_
    refine gf_X9_7 C dX9_succeeds_39 ?_
    refine v_bipush (v := 17) C dX9_succeeds_42 (by decide) ?_
    refine v_dup2 C dX9_succeeds_44 rfl rfl ?_
    obtain ⟨hi17, hf⟩ := bs_if hf
    refine v_iald (n := 160) C bsm_14_1 bsc_14_1 hi17 dX9_succeeds_45 ?_
    refine v_iconst (v := 1) C dX9_succeeds_46 (by decide) ?_
    refine v_iadd C dX9_succeeds_47 ?_
    refine v_iast (n := 160) C bsm_14_1 (fun _ => bsc_14_1) hi17 dX9_succeeds_48 ?_
    refine v_sub [0, 1] rfl ?_
    exact wX9_succeeds_49   C  _ _  hf
/-! BootSlotsModel.runsOn()V -/
def fX9_runsOn (X : bsX) : Option bsX := if bsIn (7 : Int32) 160 then (if bsIn (8 : Int32) 160 then ((fX9_of  (X 14 1 0 (bsIx (7 : Int32))) (10 : Int32) (bsWr X 14 1 0 (bsIx (8 : Int32)) ((X 14 1 0 (bsIx (8 : Int32))) + (1 : Int32)))).bind fun r5 => if ((bsWr X 14 1 0 (bsIx (8 : Int32)) ((X 14 1 0 (bsIx (8 : Int32))) + (1 : Int32))) 14 1 0 (bsIx (8 : Int32))) = r5.1 then ((fX9_crashes  (X 14 1 0 (bsIx (7 : Int32))) r5.2).bind fun r23 => some r23) else ((fX9_of  (X 14 1 0 (bsIx (7 : Int32))) (9 : Int32) r5.2).bind fun r8 => if (r5.2 14 1 0 (bsIx (8 : Int32))) = r8.1 then ((fX9_succeeds  (X 14 1 0 (bsIx (7 : Int32))) r8.2).bind fun r20 => some r20) else (if bsIn (2 : Int32) 160 then (if (r8.2 14 1 0 (bsIx (8 : Int32))) = (r8.2 14 1 0 (bsIx (2 : Int32))) then ((fX9_isGood  (X 14 1 0 (bsIx (7 : Int32))) r8.2).bind fun r12 => if r12.1 = 0 then (if bsIn (16 : Int32) 160 then ((fX9_boots  (3 : Int32) (bsWr r12.2 14 1 0 (bsIx (16 : Int32)) ((r12.2 14 1 0 (bsIx (16 : Int32))) + (1 : Int32)))).bind fun r16 => some r16.2) else none) else (some r12.2)) else (some r8.2)) else none))) else none) else none
abbrev rmX9_runsOn : Room := { frames := 7, cells := 0, slots := 0, locals := 152 }
set_option maxHeartbeats 4000000 in
set_option maxRecDepth 100000 in
theorem cX9_runsOn_ok {l : Launch} {ρ : bsR} {cA : Nat → ClassId} {dC : Nat → ClassId} {dI : Nat → Nat → Nat} {Rz : va_W}  {X : bsX} {z : bsX} (hf : fX9_runsOn  X = some z) : bsMv l yX9_runsOn cX9_runsOn 3 none rmX9_runsOn ρ cA dC dI Rz [.ref (ρ 14 0 0)] X z := by
  refine bsMv_of (by decide) (Nat.le_of_ble_eq_true rfl) (fun p e s m args below meth c C => ?_)
  have C : bsCx p m c cX9_runsOn 3 s args (Cond.code yX9_runsOn cX9_runsOn 3 none :: bsG) RX9 ρ cA dC dI Rz meth none := C
  rw [fX9_runsOn] at hf
  refine v_sub [0] rfl ?_
  refine v_aload_n C dX9_runsOn_0 rfl rfl ?_
  refine gf_X9_7 C dX9_runsOn_1 ?_
  refine v_bipush (v := 7) C dX9_runsOn_4 (by decide) ?_
  obtain ⟨hi1, hf⟩ := bs_if hf
  refine v_iald (n := 160) C bsm_14_1 bsc_14_1 hi1 dX9_runsOn_6 ?_
  refine v_istore_n (lv' := [(1, .int (X 14 1 0 (bsIx (7 : Int32)))), (0, .ref (ρ 14 0 0))]) C dX9_runsOn_7 rfl (by decide) rfl ?_
  refine v_aload_n C dX9_runsOn_8 rfl rfl ?_
  refine gf_X9_7 C dX9_runsOn_9 ?_
  refine v_bipush (v := 8) C dX9_runsOn_12 (by decide) ?_
  refine v_dup2 C dX9_runsOn_14 rfl rfl ?_
  obtain ⟨hi2, hf⟩ := bs_if hf
  refine v_iald (n := 160) C bsm_14_1 bsc_14_1 hi2 dX9_runsOn_15 ?_
  refine v_iconst (v := 1) C dX9_runsOn_16 (by decide) ?_
  refine v_iadd C dX9_runsOn_17 ?_
  refine v_iast (n := 160) C bsm_14_1 (fun _ => bsc_14_1) hi2 dX9_runsOn_18 ?_
  refine v_aload_n C dX9_runsOn_19 rfl rfl ?_
  refine gf_X9_7 C dX9_runsOn_20 ?_
  refine v_bipush (v := 8) C dX9_runsOn_23 (by decide) ?_
  refine v_iald (n := 160) C bsm_14_1 bsc_14_1 hi2 dX9_runsOn_25 ?_
  refine v_aload_n C dX9_runsOn_26 rfl rfl ?_
  refine v_iload_n C dX9_runsOn_27 rfl rfl ?_
  refine v_bipush (v := 10) C dX9_runsOn_28 (by decide) ?_
  obtain ⟨r5, hc6, hf⟩ := bs_bind hf
  refine v_callVi (y := yX9_of) (As := [.int (X 14 1 0 (bsIx (7 : Int32))), .int (10 : Int32)]) (rest := [.int ((bsWr X 14 1 0 (bsIx (8 : Int32)) ((X 14 1 0 (bsIx (8 : Int32))) + (1 : Int32))) 14 1 0 (bsIx (8 : Int32)))]) C (cX9_of_ok  hc6) ml_X9_56 wyX9_of (bsm_X9) (bsc_X9) rfl dpX9_of ⟨Nat.le_of_ble_eq_true rfl, Nat.le_of_ble_eq_true rfl⟩ ⟨rfl, rfl⟩ ⟨Nat.le_of_ble_eq_true rfl, Nat.le_of_ble_eq_true rfl⟩ rfl (Nat.le_of_ble_eq_true rfl) dX9_runsOn_30 ?_
  refine v_icmp_ne (tgt := 44) C dX9_runsOn_33 (by decide) (fun h25 => ?_) (fun h25 => ?_)
  · replace hf := bs_neg h25 hf
    refine v_aload_n C dX9_runsOn_44 rfl rfl ?_
    refine gf_X9_7 C dX9_runsOn_45 ?_
    refine v_bipush (v := 8) C dX9_runsOn_48 (by decide) ?_
    refine v_iald (n := 160) C bsm_14_1 bsc_14_1 hi2 dX9_runsOn_50 ?_
    refine v_aload_n C dX9_runsOn_51 rfl rfl ?_
    refine v_iload_n C dX9_runsOn_52 rfl rfl ?_
    refine v_bipush (v := 9) C dX9_runsOn_53 (by decide) ?_
    obtain ⟨r8, hc9, hf⟩ := bs_bind hf
    refine v_callVi (y := yX9_of) (As := [.int (X 14 1 0 (bsIx (7 : Int32))), .int (9 : Int32)]) (rest := [.int (r5.2 14 1 0 (bsIx (8 : Int32)))]) C (cX9_of_ok  hc9) ml_X9_56 wyX9_of (bsm_X9) (bsc_X9) rfl dpX9_of ⟨Nat.le_of_ble_eq_true rfl, Nat.le_of_ble_eq_true rfl⟩ ⟨rfl, rfl⟩ ⟨Nat.le_of_ble_eq_true rfl, Nat.le_of_ble_eq_true rfl⟩ rfl (Nat.le_of_ble_eq_true rfl) dX9_runsOn_55 ?_
    refine v_icmp_ne (tgt := 69) C dX9_runsOn_58 (by decide) (fun h22 => ?_) (fun h22 => ?_)
    · replace hf := bs_neg h22 hf
      refine v_aload_n C dX9_runsOn_69 rfl rfl ?_
      refine gf_X9_7 C dX9_runsOn_70 ?_
      refine v_bipush (v := 8) C dX9_runsOn_73 (by decide) ?_
      refine v_iald (n := 160) C bsm_14_1 bsc_14_1 hi2 dX9_runsOn_75 ?_
      refine v_aload_n C dX9_runsOn_76 rfl rfl ?_
      refine gf_X9_7 C dX9_runsOn_77 ?_
      refine v_iconst (v := 2) C dX9_runsOn_80 (by decide) ?_
      obtain ⟨hi11, hf⟩ := bs_if hf
      refine v_iald (n := 160) C bsm_14_1 bsc_14_1 hi11 dX9_runsOn_81 ?_
      refine v_icmp_ne (tgt := 110) C dX9_runsOn_82 (by decide) (fun h19 => ?_) (fun h19 => ?_)
      · replace hf := bs_neg h19 hf
        exact v_vret C hf dX9_runsOn_110
      · replace hf := bs_pos h19 hf
        refine v_aload_n C dX9_runsOn_85 rfl rfl ?_
        refine v_iload_n C dX9_runsOn_86 rfl rfl ?_
        obtain ⟨r12, hc13, hf⟩ := bs_bind hf
        refine v_callVi (y := yX9_isGood) (As := [.int (X 14 1 0 (bsIx (7 : Int32)))]) (rest := []) C (cX9_isGood_ok  hc13) ml_X9_63 wyX9_isGood (bsm_X9) (bsc_X9) rfl dpX9_isGood ⟨Nat.le_of_ble_eq_true rfl, Nat.le_of_ble_eq_true rfl⟩ ⟨rfl, rfl⟩ ⟨Nat.le_of_ble_eq_true rfl, Nat.le_of_ble_eq_true rfl⟩ rfl (Nat.le_of_ble_eq_true rfl) dX9_runsOn_87 ?_
        refine v_if_ne (tgt := 110) C dX9_runsOn_90 (by decide) (fun h18 => ?_) (fun h18 => ?_)
        · replace hf := bs_neg h18 hf
          exact v_vret C hf dX9_runsOn_110
        · replace hf := bs_pos h18 hf
          refine v_aload_n C dX9_runsOn_93 rfl rfl ?_
          refine gf_X9_7 C dX9_runsOn_94 ?_
          refine v_bipush (v := 16) C dX9_runsOn_97 (by decide) ?_
          refine v_dup2 C dX9_runsOn_99 rfl rfl ?_
          obtain ⟨hi14, hf⟩ := bs_if hf
          refine v_iald (n := 160) C bsm_14_1 bsc_14_1 hi14 dX9_runsOn_100 ?_
          refine v_iconst (v := 1) C dX9_runsOn_101 (by decide) ?_
          refine v_iadd C dX9_runsOn_102 ?_
          refine v_iast (n := 160) C bsm_14_1 (fun _ => bsc_14_1) hi14 dX9_runsOn_103 ?_
          refine v_aload_n C dX9_runsOn_104 rfl rfl ?_
          refine v_iconst (v := 3) C dX9_runsOn_105 (by decide) ?_
          obtain ⟨r16, hc17, hf⟩ := bs_bind hf
          refine v_callVi (y := yX9_boots) (As := [.int (3 : Int32)]) (rest := []) C (cX9_boots_ok  hc17) ml_X9_92 wyX9_boots (bsm_X9) (bsc_X9) rfl dpX9_boots ⟨Nat.le_of_ble_eq_true rfl, Nat.le_of_ble_eq_true rfl⟩ ⟨rfl, rfl⟩ ⟨Nat.le_of_ble_eq_true rfl, Nat.le_of_ble_eq_true rfl⟩ rfl (Nat.le_of_ble_eq_true rfl) dX9_runsOn_106 ?_
          refine v_istore_n (lv' := [(2, .int r16.1), (1, .int (X 14 1 0 (bsIx (7 : Int32)))), (0, .ref (ρ 14 0 0))]) C dX9_runsOn_109 rfl (by decide) rfl ?_
          exact v_vret C hf dX9_runsOn_110
    · replace hf := bs_pos h22 hf
      refine v_aload_n C dX9_runsOn_61 rfl rfl ?_
      refine v_iload_n C dX9_runsOn_62 rfl rfl ?_
      obtain ⟨r20, hc21, hf⟩ := bs_bind hf
      refine v_callVv (y := yX9_succeeds) (As := [.int (X 14 1 0 (bsIx (7 : Int32)))]) (rest := []) C (cX9_succeeds_ok  hc21) ml_X9_107 wyX9_succeeds (bsm_X9) (bsc_X9) rfl dpX9_succeeds ⟨Nat.le_of_ble_eq_true rfl, Nat.le_of_ble_eq_true rfl⟩ ⟨rfl, rfl⟩ ⟨Nat.le_of_ble_eq_true rfl, Nat.le_of_ble_eq_true rfl⟩ rfl (Nat.le_of_ble_eq_true rfl) dX9_runsOn_63 ?_
      refine v_goto (tgt := 110) C dX9_runsOn_66 (by decide) ?_
      exact v_vret C hf dX9_runsOn_110
  · replace hf := bs_pos h25 hf
    refine v_aload_n C dX9_runsOn_36 rfl rfl ?_
    refine v_iload_n C dX9_runsOn_37 rfl rfl ?_
    obtain ⟨r23, hc24, hf⟩ := bs_bind hf
    refine v_callVv (y := yX9_crashes) (As := [.int (X 14 1 0 (bsIx (7 : Int32)))]) (rest := []) C (cX9_crashes_ok  hc24) ml_X9_103 wyX9_crashes (bsm_X9) (bsc_X9) rfl dpX9_crashes ⟨Nat.le_of_ble_eq_true rfl, Nat.le_of_ble_eq_true rfl⟩ ⟨rfl, rfl⟩ ⟨Nat.le_of_ble_eq_true rfl, Nat.le_of_ble_eq_true rfl⟩ rfl (Nat.le_of_ble_eq_true rfl) dX9_runsOn_38 ?_
    refine v_goto (tgt := 110) C dX9_runsOn_41 (by decide) ?_
    exact v_vret C hf dX9_runsOn_110
/-! BootSlotsModel.greatestBut(I)I -/
def fX9_greatestBut_39 (k4 : Int32 → Int32 → Int32 → bsX → Option (Int32 × bsX)) (x1 : Int32) (x3 : Int32) (y0 : Int32) (X : bsX) : Option (Int32 × bsX) := k4 x1 y0 (x3 + (1 : Int32)) X
def fX9_greatestBut_38 (k4 : Int32 → Int32 → Int32 → bsX → Option (Int32 × bsX)) (x1 : Int32) (x2 : Int32) (x3 : Int32) (X : bsX) : Option (Int32 × bsX) := fX9_greatestBut_39  k4 x1 x3 x2 X
def fX9_greatestBut_4 : Nat → Int32 → Int32 → Int32 → bsX → Option (Int32 × bsX)
  | 0, _, _, _, _ => none
  | n + 1, x1, x2, x3, X => if bsIn (0 : Int32) 160 then (if (X 14 1 0 (bsIx (0 : Int32))) ≤ x3 then (some (x2, X)) else (if x3 = x1 then (fX9_greatestBut_38  (fX9_greatestBut_4  n) x1 x2 x3 X) else ((fX9_of  x3 (1 : Int32) X).bind fun r2 => if r2.1 ≤ x2 then (fX9_greatestBut_38  (fX9_greatestBut_4  n) x1 x2 x3 r2.2) else ((fX9_of  x3 (1 : Int32) r2.2).bind fun r4 => fX9_greatestBut_39  (fX9_greatestBut_4  n) x1 x3 r4.1 r4.2)))) else none
def fX9_greatestBut (a1 : Int32) (X : bsX) : Option (Int32 × bsX) := fX9_greatestBut_4   bsF a1 (0 : Int32) (0 : Int32) X
abbrev rmX9_greatestBut : Room := { frames := 1, cells := 0, slots := 0, locals := 22 }
set_option maxHeartbeats 4000000 in
set_option maxRecDepth 100000 in
theorem wX9_greatestBut_39 {p : Program} {l : Launch} {e : Env} {s : State} {m : MethodId} {args : Array Value} {below : List Frame} {meth : Method} {c : Code} {ρ : bsR} {cA : Nat → ClassId} {dC : Nat → ClassId} {dI : Nat → Nat → Nat} {Rz : va_W} {Ts : List Cond}  (k4 : Int32 → Int32 → Int32 → bsX → Option (Int32 × bsX))  {z : (Int32 × bsX)} (C : bsCx p m c cX9_greatestBut 4 s args Ts RX9 ρ cA dC dI Rz meth (some .int)) (hk4 : ∀ (x1 : Int32) (x2 : Int32) (x3 : Int32) (X : bsX), k4 x1 x2 x3 X = some z → bsV p l e rmX9_greatestBut s m args below meth c 0 0 (MQ below (bsQi ρ cA dC dI Rz z s.heap.size) args s 0 0 (bsA ρ cA Rz s.heap.size)) ρ cA dC dI Rz 4 4 [(0, .ref (ρ 14 0 0)), (1, .int x1), (2, .int x2), (3, .int x3)] [] X)  (x1 : Int32) (x3 : Int32) (y0 : Int32) (X : bsX) (hf : fX9_greatestBut_39 k4 x1 x3 y0 X = some z) : bsV p l e rmX9_greatestBut s m args below meth c 0 0 (MQ below (bsQi ρ cA dC dI Rz z s.heap.size) args s 0 0 (bsA ρ cA Rz s.heap.size)) ρ cA dC dI Rz 4 39 [(0, .ref (ρ 14 0 0)), (1, .int x1), (3, .int x3)] [.int y0] X := by
  rw [fX9_greatestBut_39] at hf
  refine v_istore_n (lv' := [(2, .int y0), (0, .ref (ρ 14 0 0)), (1, .int x1), (3, .int x3)]) C dX9_greatestBut_39 rfl (by decide) rfl ?_
  refine v_iinc (k0 := 3) (v := (x3 + (1 : Int32))) (lv' := [(3, .int (x3 + (1 : Int32))), (2, .int y0), (0, .ref (ρ 14 0 0)), (1, .int x1)]) C dX9_greatestBut_40 rfl rfl (by decide) rfl ?_
  refine v_goto (tgt := 4) C dX9_greatestBut_43 (by decide) ?_
  refine v_sub [2, 3, 1, 0] rfl ?_
  exact hk4 _ _ _ _  hf
set_option maxHeartbeats 4000000 in
set_option maxRecDepth 100000 in
theorem wX9_greatestBut_38 {p : Program} {l : Launch} {e : Env} {s : State} {m : MethodId} {args : Array Value} {below : List Frame} {meth : Method} {c : Code} {ρ : bsR} {cA : Nat → ClassId} {dC : Nat → ClassId} {dI : Nat → Nat → Nat} {Rz : va_W} {Ts : List Cond}  (k4 : Int32 → Int32 → Int32 → bsX → Option (Int32 × bsX))  {z : (Int32 × bsX)} (C : bsCx p m c cX9_greatestBut 4 s args Ts RX9 ρ cA dC dI Rz meth (some .int)) (hk4 : ∀ (x1 : Int32) (x2 : Int32) (x3 : Int32) (X : bsX), k4 x1 x2 x3 X = some z → bsV p l e rmX9_greatestBut s m args below meth c 0 0 (MQ below (bsQi ρ cA dC dI Rz z s.heap.size) args s 0 0 (bsA ρ cA Rz s.heap.size)) ρ cA dC dI Rz 4 4 [(0, .ref (ρ 14 0 0)), (1, .int x1), (2, .int x2), (3, .int x3)] [] X)  (x1 : Int32) (x2 : Int32) (x3 : Int32) (X : bsX) (hf : fX9_greatestBut_38 k4 x1 x2 x3 X = some z) : bsV p l e rmX9_greatestBut s m args below meth c 0 0 (MQ below (bsQi ρ cA dC dI Rz z s.heap.size) args s 0 0 (bsA ρ cA Rz s.heap.size)) ρ cA dC dI Rz 4 38 [(0, .ref (ρ 14 0 0)), (1, .int x1), (2, .int x2), (3, .int x3)] [] X := by
  rw [fX9_greatestBut_38] at hf
  refine v_iload_n C dX9_greatestBut_38 rfl rfl ?_
  refine v_sub [0, 1, 3] rfl ?_
  exact wX9_greatestBut_39  k4 C hk4 _ _ _ _  hf
set_option maxHeartbeats 4000000 in
set_option maxRecDepth 100000 in
theorem wX9_greatestBut_4 {p : Program} {l : Launch} {e : Env} {s : State} {m : MethodId} {args : Array Value} {below : List Frame} {meth : Method} {c : Code} {ρ : bsR} {cA : Nat → ClassId} {dC : Nat → ClassId} {dI : Nat → Nat → Nat} {Rz : va_W} {Ts : List Cond}   {z : (Int32 × bsX)} (C : bsCx p m c cX9_greatestBut 4 s args Ts RX9 ρ cA dC dI Rz meth (some .int)) : ∀ (n : Nat) (x1 : Int32) (x2 : Int32) (x3 : Int32) (X : bsX), fX9_greatestBut_4  n x1 x2 x3 X = some z → bsV p l e rmX9_greatestBut s m args below meth c 0 0 (MQ below (bsQi ρ cA dC dI Rz z s.heap.size) args s 0 0 (bsA ρ cA Rz s.heap.size)) ρ cA dC dI Rz 4 4 [(0, .ref (ρ 14 0 0)), (1, .int x1), (2, .int x2), (3, .int x3)] [] X := by
  intro n
  induction n with
  | zero => intro x1 x2 x3 X hf; exact (nomatch hf)
  | succ n ih =>
    intro x1 x2 x3 X hf
    rw [fX9_greatestBut_4] at hf
    refine v_iload_n C dX9_greatestBut_4 rfl rfl ?_
    refine v_aload_n C dX9_greatestBut_5 rfl rfl ?_
    refine gf_X9_7 C dX9_greatestBut_6 ?_
    refine v_iconst (v := 0) C dX9_greatestBut_9 (by decide) ?_
    obtain ⟨hi1, hf⟩ := bs_if hf
    refine v_iald (n := 160) C bsm_14_1 bsc_14_1 hi1 dX9_greatestBut_10 ?_
    refine v_icmp_ge (tgt := 46) C dX9_greatestBut_11 (by decide) (fun h8 => ?_) (fun h8 => ?_)
    · replace hf := bs_pos h8 hf
      refine v_iload_n C dX9_greatestBut_46 rfl rfl ?_
      exact v_iret C hf dX9_greatestBut_47
    · replace hf := bs_neg h8 hf
      refine v_iload_n C dX9_greatestBut_14 rfl rfl ?_
      refine v_iload_n C dX9_greatestBut_15 rfl rfl ?_
      refine v_icmp_eq (tgt := 38) C dX9_greatestBut_16 (by decide) (fun h7 => ?_) (fun h7 => ?_)
      · replace hf := bs_pos h7 hf
        refine v_sub [0, 1, 2, 3] rfl ?_
        exact wX9_greatestBut_38  (fX9_greatestBut_4  n) C (fun b0 b1 b2 X  h => ih b0 b1 b2 X  h) _ _ _ _  hf
      · replace hf := bs_neg h7 hf
        refine v_aload_n C dX9_greatestBut_19 rfl rfl ?_
        refine v_iload_n C dX9_greatestBut_20 rfl rfl ?_
        refine v_iconst (v := 1) C dX9_greatestBut_21 (by decide) ?_
        obtain ⟨r2, hc3, hf⟩ := bs_bind hf
        refine v_callVi (y := yX9_of) (As := [.int x3, .int (1 : Int32)]) (rest := []) C (cX9_of_ok  hc3) ml_X9_56 wyX9_of (bsm_X9) (bsc_X9) rfl dpX9_of ⟨Nat.le_of_ble_eq_true rfl, Nat.le_of_ble_eq_true rfl⟩ ⟨rfl, rfl⟩ ⟨Nat.le_of_ble_eq_true rfl, Nat.le_of_ble_eq_true rfl⟩ rfl (Nat.le_of_ble_eq_true rfl) dX9_greatestBut_22 ?_
        refine v_iload_n C dX9_greatestBut_25 rfl rfl ?_
        refine v_icmp_le (tgt := 38) C dX9_greatestBut_26 (by decide) (fun h6 => ?_) (fun h6 => ?_)
        · replace hf := bs_pos h6 hf
          refine v_sub [0, 1, 2, 3] rfl ?_
          exact wX9_greatestBut_38  (fX9_greatestBut_4  n) C (fun b0 b1 b2 X  h => ih b0 b1 b2 X  h) _ _ _ _  hf
        · replace hf := bs_neg h6 hf
          refine v_aload_n C dX9_greatestBut_29 rfl rfl ?_
          refine v_iload_n C dX9_greatestBut_30 rfl rfl ?_
          refine v_iconst (v := 1) C dX9_greatestBut_31 (by decide) ?_
          obtain ⟨r4, hc5, hf⟩ := bs_bind hf
          refine v_callVi (y := yX9_of) (As := [.int x3, .int (1 : Int32)]) (rest := []) C (cX9_of_ok  hc5) ml_X9_56 wyX9_of (bsm_X9) (bsc_X9) rfl dpX9_of ⟨Nat.le_of_ble_eq_true rfl, Nat.le_of_ble_eq_true rfl⟩ ⟨rfl, rfl⟩ ⟨Nat.le_of_ble_eq_true rfl, Nat.le_of_ble_eq_true rfl⟩ rfl (Nat.le_of_ble_eq_true rfl) dX9_greatestBut_32 ?_
          refine v_goto (tgt := 39) C dX9_greatestBut_35 (by decide) ?_
          refine v_sub [0, 1, 3] rfl ?_
          exact wX9_greatestBut_39  (fX9_greatestBut_4  n) C (fun b0 b1 b2 X  h => ih b0 b1 b2 X  h) _ _ _ _  hf
set_option maxHeartbeats 4000000 in
set_option maxRecDepth 100000 in
theorem cX9_greatestBut_ok {l : Launch} {ρ : bsR} {cA : Nat → ClassId} {dC : Nat → ClassId} {dI : Nat → Nat → Nat} {Rz : va_W}  {a1 : Int32} {X : bsX} {z : (Int32 × bsX)} (hf : fX9_greatestBut a1 X = some z) : bsMi l yX9_greatestBut cX9_greatestBut 4 (some .int) rmX9_greatestBut ρ cA dC dI Rz [.ref (ρ 14 0 0), .int a1] X z := by
  refine bsMi_of (by decide) (Nat.le_of_ble_eq_true rfl) (fun p e s m args below meth c C => ?_)
  have C : bsCx p m c cX9_greatestBut 4 s args (Cond.code yX9_greatestBut cX9_greatestBut 4 (some .int) :: bsG) RX9 ρ cA dC dI Rz meth (some .int) := C
  rw [fX9_greatestBut] at hf
  refine v_sub [0, 1] rfl ?_
  refine v_iconst (v := 0) C dX9_greatestBut_0 (by decide) ?_
  refine v_istore_n (lv' := [(2, .int (0 : Int32)), (0, .ref (ρ 14 0 0)), (1, .int a1)]) C dX9_greatestBut_1 rfl (by decide) rfl ?_
  refine v_iconst (v := 0) C dX9_greatestBut_2 (by decide) ?_
  refine v_istore_n (lv' := [(3, .int (0 : Int32)), (2, .int (0 : Int32)), (0, .ref (ρ 14 0 0)), (1, .int a1)]) C dX9_greatestBut_3 rfl (by decide) rfl ?_
  refine v_sub [2, 3, 1, 0] rfl ?_
  exact wX9_greatestBut_4   C  bsF _ _ _ _  hf
/-! BootSlotsModel.empties(I)V -/
def fX9_empties_23 : Nat → Int32 → Int32 → bsX → Option bsX
  | 0, _, _, _ => none
  | n + 1, x1, x2, X => if (12 : Int32) < x2 then (some X) else ((fX9_puts  x1 x2 (0 : Int32) X).bind fun r4 => fX9_empties_23 n x1 (x2 + (1 : Int32)) r4)
def fX9_empties_2 : Nat → Int32 → Int32 → bsX → Option bsX
  | 0, _, _, _ => none
  | n + 1, x1, x2, X => if (4 : Int32) < x2 then (fX9_empties_23   bsF x1 (8 : Int32) X) else ((fX9_puts  x1 x2 (0 : Int32) X).bind fun r1 => fX9_empties_2 n x1 (x2 + (1 : Int32)) r1)
def fX9_empties (a1 : Int32) (X : bsX) : Option bsX := fX9_empties_2   bsF a1 (0 : Int32) X
abbrev rmX9_empties : Room := { frames := 1, cells := 0, slots := 0, locals := 23 }
set_option maxHeartbeats 4000000 in
set_option maxRecDepth 100000 in
theorem wX9_empties_23 {p : Program} {l : Launch} {e : Env} {s : State} {m : MethodId} {args : Array Value} {below : List Frame} {meth : Method} {c : Code} {ρ : bsR} {cA : Nat → ClassId} {dC : Nat → ClassId} {dI : Nat → Nat → Nat} {Rz : va_W} {Ts : List Cond}   {z : bsX} (C : bsCx p m c cX9_empties 3 s args Ts RX9 ρ cA dC dI Rz meth none) : ∀ (n : Nat) (x1 : Int32) (x2 : Int32) (X : bsX), fX9_empties_23  n x1 x2 X = some z → bsV p l e rmX9_empties s m args below meth c 0 0 (MQ below (bsQv ρ cA dC dI Rz z s.heap.size) args s 0 0 (bsA ρ cA Rz s.heap.size)) ρ cA dC dI Rz 3 23 [(0, .ref (ρ 14 0 0)), (1, .int x1), (2, .int x2)] [] X := by
  intro n
  induction n with
  | zero => intro x1 x2 X hf; exact (nomatch hf)
  | succ n ih =>
    intro x1 x2 X hf
    rw [fX9_empties_23] at hf
    refine v_iload_n C dX9_empties_23 rfl rfl ?_
    refine v_bipush (v := 12) C dX9_empties_24 (by decide) ?_
    refine v_icmp_gt (tgt := 42) C dX9_empties_26 (by decide) (fun h6 => ?_) (fun h6 => ?_)
    · replace hf := bs_pos h6 hf
      exact v_vret C hf dX9_empties_42
    · replace hf := bs_neg h6 hf
      refine v_aload_n C dX9_empties_29 rfl rfl ?_
      refine v_iload_n C dX9_empties_30 rfl rfl ?_
      refine v_iload_n C dX9_empties_31 rfl rfl ?_
      refine v_iconst (v := 0) C dX9_empties_32 (by decide) ?_
      obtain ⟨r4, hc5, hf⟩ := bs_bind hf
      refine v_callVv (y := yX9_puts) (As := [.int x1, .int x2, .int (0 : Int32)]) (rest := []) C (cX9_puts_ok  hc5) ml_X9_77 wyX9_puts (bsm_X9) (bsc_X9) rfl dpX9_puts ⟨Nat.le_of_ble_eq_true rfl, Nat.le_of_ble_eq_true rfl⟩ ⟨rfl, rfl⟩ ⟨Nat.le_of_ble_eq_true rfl, Nat.le_of_ble_eq_true rfl⟩ rfl (Nat.le_of_ble_eq_true rfl) dX9_empties_33 ?_
      refine v_iinc (k0 := 2) (v := (x2 + (1 : Int32))) (lv' := [(2, .int (x2 + (1 : Int32))), (0, .ref (ρ 14 0 0)), (1, .int x1)]) C dX9_empties_36 rfl rfl (by decide) rfl ?_
      refine v_goto (tgt := 23) C dX9_empties_39 (by decide) ?_
      refine v_sub [1, 2, 0] rfl ?_
      exact ih _ _ _  hf
set_option maxHeartbeats 4000000 in
set_option maxRecDepth 100000 in
theorem wX9_empties_2 {p : Program} {l : Launch} {e : Env} {s : State} {m : MethodId} {args : Array Value} {below : List Frame} {meth : Method} {c : Code} {ρ : bsR} {cA : Nat → ClassId} {dC : Nat → ClassId} {dI : Nat → Nat → Nat} {Rz : va_W} {Ts : List Cond}   {z : bsX} (C : bsCx p m c cX9_empties 3 s args Ts RX9 ρ cA dC dI Rz meth none) : ∀ (n : Nat) (x1 : Int32) (x2 : Int32) (X : bsX), fX9_empties_2  n x1 x2 X = some z → bsV p l e rmX9_empties s m args below meth c 0 0 (MQ below (bsQv ρ cA dC dI Rz z s.heap.size) args s 0 0 (bsA ρ cA Rz s.heap.size)) ρ cA dC dI Rz 3 2 [(0, .ref (ρ 14 0 0)), (1, .int x1), (2, .int x2)] [] X := by
  intro n
  induction n with
  | zero => intro x1 x2 X hf; exact (nomatch hf)
  | succ n ih =>
    intro x1 x2 X hf
    rw [fX9_empties_2] at hf
    refine v_iload_n C dX9_empties_2 rfl rfl ?_
    refine v_iconst (v := 4) C dX9_empties_3 (by decide) ?_
    refine v_icmp_gt (tgt := 20) C dX9_empties_4 (by decide) (fun h3 => ?_) (fun h3 => ?_)
    · replace hf := bs_pos h3 hf
      refine v_bipush (v := 8) C dX9_empties_20 (by decide) ?_
      refine v_istore_n (lv' := [(2, .int (8 : Int32)), (0, .ref (ρ 14 0 0)), (1, .int x1)]) C dX9_empties_22 rfl (by decide) rfl ?_
      refine v_sub [1, 2, 0] rfl ?_
      exact wX9_empties_23   C  bsF _ _ _  hf
    · replace hf := bs_neg h3 hf
      refine v_aload_n C dX9_empties_7 rfl rfl ?_
      refine v_iload_n C dX9_empties_8 rfl rfl ?_
      refine v_iload_n C dX9_empties_9 rfl rfl ?_
      refine v_iconst (v := 0) C dX9_empties_10 (by decide) ?_
      obtain ⟨r1, hc2, hf⟩ := bs_bind hf
      refine v_callVv (y := yX9_puts) (As := [.int x1, .int x2, .int (0 : Int32)]) (rest := []) C (cX9_puts_ok  hc2) ml_X9_77 wyX9_puts (bsm_X9) (bsc_X9) rfl dpX9_puts ⟨Nat.le_of_ble_eq_true rfl, Nat.le_of_ble_eq_true rfl⟩ ⟨rfl, rfl⟩ ⟨Nat.le_of_ble_eq_true rfl, Nat.le_of_ble_eq_true rfl⟩ rfl (Nat.le_of_ble_eq_true rfl) dX9_empties_11 ?_
      refine v_iinc (k0 := 2) (v := (x2 + (1 : Int32))) (lv' := [(2, .int (x2 + (1 : Int32))), (0, .ref (ρ 14 0 0)), (1, .int x1)]) C dX9_empties_14 rfl rfl (by decide) rfl ?_
      refine v_goto (tgt := 2) C dX9_empties_17 (by decide) ?_
      refine v_sub [1, 2, 0] rfl ?_
      exact ih _ _ _  hf
set_option maxHeartbeats 4000000 in
set_option maxRecDepth 100000 in
theorem cX9_empties_ok {l : Launch} {ρ : bsR} {cA : Nat → ClassId} {dC : Nat → ClassId} {dI : Nat → Nat → Nat} {Rz : va_W}  {a1 : Int32} {X : bsX} {z : bsX} (hf : fX9_empties a1 X = some z) : bsMv l yX9_empties cX9_empties 3 none rmX9_empties ρ cA dC dI Rz [.ref (ρ 14 0 0), .int a1] X z := by
  refine bsMv_of (by decide) (Nat.le_of_ble_eq_true rfl) (fun p e s m args below meth c C => ?_)
  have C : bsCx p m c cX9_empties 3 s args (Cond.code yX9_empties cX9_empties 3 none :: bsG) RX9 ρ cA dC dI Rz meth none := C
  rw [fX9_empties] at hf
  refine v_sub [0, 1] rfl ?_
  refine v_iconst (v := 0) C dX9_empties_0 (by decide) ?_
  refine v_istore_n (lv' := [(2, .int (0 : Int32)), (0, .ref (ρ 14 0 0)), (1, .int a1)]) C dX9_empties_1 rfl (by decide) rfl ?_
  refine v_sub [1, 2, 0] rfl ?_
  exact wX9_empties_2   C  bsF _ _ _  hf
/-! BootSlotsModel.noInstall()V -/
def fX9_noInstall_2 : Nat → Int32 → bsX → Option bsX
  | 0, _, _ => none
  | n + 1, x1, X => if (7 : Int32) < x1 then (some X) else (if bsIn ((20 : Int32) + x1) 160 then (fX9_noInstall_2 n (x1 + (1 : Int32)) (bsWr X 14 1 0 (bsIx ((20 : Int32) + x1)) (-1 : Int32))) else none)
def fX9_noInstall (X : bsX) : Option bsX := fX9_noInstall_2   bsF (0 : Int32) X
abbrev rmX9_noInstall : Room := { frames := 0, cells := 0, slots := 0, locals := 0 }
set_option maxHeartbeats 4000000 in
set_option maxRecDepth 100000 in
theorem wX9_noInstall_2 {p : Program} {l : Launch} {e : Env} {s : State} {m : MethodId} {args : Array Value} {below : List Frame} {meth : Method} {c : Code} {ρ : bsR} {cA : Nat → ClassId} {dC : Nat → ClassId} {dI : Nat → Nat → Nat} {Rz : va_W} {Ts : List Cond}   {z : bsX} (C : bsCx p m c cX9_noInstall 2 s args Ts RX9 ρ cA dC dI Rz meth none) : ∀ (n : Nat) (x1 : Int32) (X : bsX), fX9_noInstall_2  n x1 X = some z → bsV p l e rmX9_noInstall s m args below meth c 0 0 (MQ below (bsQv ρ cA dC dI Rz z s.heap.size) args s 0 0 (bsA ρ cA Rz s.heap.size)) ρ cA dC dI Rz 2 2 [(0, .ref (ρ 14 0 0)), (1, .int x1)] [] X := by
  intro n
  induction n with
  | zero => intro x1 X hf; exact (nomatch hf)
  | succ n ih =>
    intro x1 X hf
    rw [fX9_noInstall_2] at hf
    refine v_iload_n C dX9_noInstall_2 rfl rfl ?_
    refine v_bipush (v := 7) C dX9_noInstall_3 (by decide) ?_
    refine v_icmp_gt (tgt := 24) C dX9_noInstall_5 (by decide) (fun h2 => ?_) (fun h2 => ?_)
    · replace hf := bs_pos h2 hf
      exact v_vret C hf dX9_noInstall_24
    · replace hf := bs_neg h2 hf
      refine v_aload_n C dX9_noInstall_8 rfl rfl ?_
      refine gf_X9_7 C dX9_noInstall_9 ?_
      refine v_bipush (v := 20) C dX9_noInstall_12 (by decide) ?_
      refine v_iload_n C dX9_noInstall_14 rfl rfl ?_
      refine v_iadd C dX9_noInstall_15 ?_
      refine v_iconst (v := -1) C dX9_noInstall_16 (by decide) ?_
      obtain ⟨hi1, hf⟩ := bs_if hf
      refine v_iast (n := 160) C bsm_14_1 (fun _ => bsc_14_1) hi1 dX9_noInstall_17 ?_
      refine v_iinc (k0 := 1) (v := (x1 + (1 : Int32))) (lv' := [(1, .int (x1 + (1 : Int32))), (0, .ref (ρ 14 0 0))]) C dX9_noInstall_18 rfl rfl (by decide) rfl ?_
      refine v_goto (tgt := 2) C dX9_noInstall_21 (by decide) ?_
      refine v_sub [1, 0] rfl ?_
      exact ih _ _  hf
set_option maxHeartbeats 4000000 in
set_option maxRecDepth 100000 in
theorem cX9_noInstall_ok {l : Launch} {ρ : bsR} {cA : Nat → ClassId} {dC : Nat → ClassId} {dI : Nat → Nat → Nat} {Rz : va_W}  {X : bsX} {z : bsX} (hf : fX9_noInstall  X = some z) : bsMv l yX9_noInstall cX9_noInstall 2 none rmX9_noInstall ρ cA dC dI Rz [.ref (ρ 14 0 0)] X z := by
  refine bsMv_of (by decide) (Nat.le_of_ble_eq_true rfl) (fun p e s m args below meth c C => ?_)
  have C : bsCx p m c cX9_noInstall 2 s args (Cond.code yX9_noInstall cX9_noInstall 2 none :: bsG) RX9 ρ cA dC dI Rz meth none := C
  rw [fX9_noInstall] at hf
  refine v_sub [0] rfl ?_
  refine v_iconst (v := 0) C dX9_noInstall_0 (by decide) ?_
  refine v_istore_n (lv' := [(1, .int (0 : Int32)), (0, .ref (ρ 14 0 0))]) C dX9_noInstall_1 rfl (by decide) rfl ?_
  refine v_sub [1, 0] rfl ?_
  exact wX9_noInstall_2   C  bsF _ _  hf
/-! BootSlotsModel.comes(IIII)V -/
def fX9_comes_57 (k13 : Int32 → Int32 → Int32 → Int32 → Int32 → bsX → Option bsX) (x1 : Int32) (x2 : Int32) (x3 : Int32) (x4 : Int32) (x5 : Int32) (y1 : Int32) (y2 : Int32) (y3 : Int32) (y4 : Int32) (X : bsX) : Option bsX := (fX9_flag  y4 X).bind fun r1 => (fX9_puts  y1 y2 (y3 - r1.1) r1.2).bind fun r3 => k13 x1 x2 x3 x4 (x5 + (1 : Int32)) r3
def fX9_comes_56 (k13 : Int32 → Int32 → Int32 → Int32 → Int32 → bsX → Option bsX) (x1 : Int32) (x2 : Int32) (x3 : Int32) (x4 : Int32) (x5 : Int32) (y1 : Int32) (y2 : Int32) (y3 : Int32) (X : bsX) : Option bsX := fX9_comes_57  k13 x1 x2 x3 x4 x5 y1 y2 y3 (0 : Int32) X
def fX9_comes_70 (x1 : Int32) (x2 : Int32) (x3 : Int32) (x4 : Int32) (X : bsX) : Option bsX := (fX9_puts  x1 (0 : Int32) (1 : Int32) X).bind fun r13 => (fX9_greatestBut  x1 r13).bind fun r15 => (fX9_puts  x1 (1 : Int32) (r15.1 + (1 : Int32)) r15.2).bind fun r17 => (fX9_puts  x1 (2 : Int32) (3 : Int32) r17).bind fun r19 => (fX9_puts  x1 (8 : Int32) x2 r19).bind fun r21 => (fX9_puts  x1 (9 : Int32) x3 r21).bind fun r23 => (fX9_puts  x1 (10 : Int32) x4 r23).bind fun r25 => some r25
def fX9_comes_13 : Nat → Int32 → Int32 → Int32 → Int32 → Int32 → bsX → Option bsX
  | 0, _, _, _, _, _, _ => none
  | n + 1, x1, x2, x3, x4, x5, X => if bsIn (0 : Int32) 160 then (if (X 14 1 0 (bsIx (0 : Int32))) ≤ x5 then (fX9_comes_70   x1 x2 x3 x4 X) else ((fX9_of  x5 (1 : Int32) X).bind fun r6 => if x5 = x1 then (fX9_comes_56  (fX9_comes_13  n) x1 x2 x3 x4 x5 x5 (1 : Int32) r6.1 r6.2) else ((fX9_of  x5 (1 : Int32) r6.2).bind fun r8 => if r8.1 ≤ (1 : Int32) then (fX9_comes_56  (fX9_comes_13  n) x1 x2 x3 x4 x5 x5 (1 : Int32) r6.1 r8.2) else (fX9_comes_57  (fX9_comes_13  n) x1 x2 x3 x4 x5 x5 (1 : Int32) r6.1 (1 : Int32) r8.2)))) else none
def fX9_comes (a1 : Int32) (a2 : Int32) (a3 : Int32) (a4 : Int32) (X : bsX) : Option bsX := (fX9_greatestBut  a1 X).bind fun r27 => if r27.1 = (15 : Int32) then (fX9_comes_13   bsF a1 a2 a3 a4 (0 : Int32) r27.2) else (fX9_comes_70   a1 a2 a3 a4 r27.2)
abbrev rmX9_comes : Room := { frames := 2, cells := 0, slots := 0, locals := 45 }
set_option maxHeartbeats 4000000 in
set_option maxRecDepth 100000 in
theorem wX9_comes_57 {p : Program} {l : Launch} {e : Env} {s : State} {m : MethodId} {args : Array Value} {below : List Frame} {meth : Method} {c : Code} {ρ : bsR} {cA : Nat → ClassId} {dC : Nat → ClassId} {dI : Nat → Nat → Nat} {Rz : va_W} {Ts : List Cond}  (k13 : Int32 → Int32 → Int32 → Int32 → Int32 → bsX → Option bsX)  {z : bsX} (C : bsCx p m c cX9_comes 6 s args Ts RX9 ρ cA dC dI Rz meth none) (hk13 : ∀ (x1 : Int32) (x2 : Int32) (x3 : Int32) (x4 : Int32) (x5 : Int32) (X : bsX), k13 x1 x2 x3 x4 x5 X = some z → bsV p l e rmX9_comes s m args below meth c 0 0 (MQ below (bsQv ρ cA dC dI Rz z s.heap.size) args s 0 0 (bsA ρ cA Rz s.heap.size)) ρ cA dC dI Rz 6 13 [(0, .ref (ρ 14 0 0)), (1, .int x1), (2, .int x2), (3, .int x3), (4, .int x4), (5, .int x5)] [] X)  (x1 : Int32) (x2 : Int32) (x3 : Int32) (x4 : Int32) (x5 : Int32) (y1 : Int32) (y2 : Int32) (y3 : Int32) (y4 : Int32) (X : bsX) (hf : fX9_comes_57 k13 x1 x2 x3 x4 x5 y1 y2 y3 y4 X = some z) : bsV p l e rmX9_comes s m args below meth c 0 0 (MQ below (bsQv ρ cA dC dI Rz z s.heap.size) args s 0 0 (bsA ρ cA Rz s.heap.size)) ρ cA dC dI Rz 6 57 [(0, .ref (ρ 14 0 0)), (1, .int x1), (2, .int x2), (3, .int x3), (4, .int x4), (5, .int x5)] [.int y4, .int y3, .int y2, .int y1, .ref (ρ 14 0 0)] X := by
  rw [fX9_comes_57] at hf
  obtain ⟨r1, hc2, hf⟩ := bs_bind hf
  refine v_callSi (y := yX9_flag) (As := [.int y4]) (rest := [.int y3, .int y2, .int y1, .ref (ρ 14 0 0)]) C (cX9_flag_ok  hc2) ml_X9_113 wzX9_flag dpX9_flag ⟨Nat.le_of_ble_eq_true rfl, Nat.le_of_ble_eq_true rfl⟩ ⟨rfl, rfl⟩ ⟨Nat.le_of_ble_eq_true rfl, Nat.le_of_ble_eq_true rfl⟩ rfl (Nat.le_of_ble_eq_true rfl) dX9_comes_57 ?_
  refine v_isub C dX9_comes_60 ?_
  obtain ⟨r3, hc4, hf⟩ := bs_bind hf
  refine v_callVv (y := yX9_puts) (As := [.int y1, .int y2, .int (y3 - r1.1)]) (rest := []) C (cX9_puts_ok  hc4) ml_X9_77 wyX9_puts (bsm_X9) (bsc_X9) rfl dpX9_puts ⟨Nat.le_of_ble_eq_true rfl, Nat.le_of_ble_eq_true rfl⟩ ⟨rfl, rfl⟩ ⟨Nat.le_of_ble_eq_true rfl, Nat.le_of_ble_eq_true rfl⟩ rfl (Nat.le_of_ble_eq_true rfl) dX9_comes_61 ?_
  refine v_iinc (k0 := 5) (v := (x5 + (1 : Int32))) (lv' := [(5, .int (x5 + (1 : Int32))), (0, .ref (ρ 14 0 0)), (1, .int x1), (2, .int x2), (3, .int x3), (4, .int x4)]) C dX9_comes_64 rfl rfl (by decide) rfl ?_
  refine v_goto (tgt := 13) C dX9_comes_67 (by decide) ?_
  refine v_sub [1, 2, 3, 4, 5, 0] rfl ?_
  exact hk13 _ _ _ _ _ _  hf
set_option maxHeartbeats 4000000 in
set_option maxRecDepth 100000 in
theorem wX9_comes_56 {p : Program} {l : Launch} {e : Env} {s : State} {m : MethodId} {args : Array Value} {below : List Frame} {meth : Method} {c : Code} {ρ : bsR} {cA : Nat → ClassId} {dC : Nat → ClassId} {dI : Nat → Nat → Nat} {Rz : va_W} {Ts : List Cond}  (k13 : Int32 → Int32 → Int32 → Int32 → Int32 → bsX → Option bsX)  {z : bsX} (C : bsCx p m c cX9_comes 6 s args Ts RX9 ρ cA dC dI Rz meth none) (hk13 : ∀ (x1 : Int32) (x2 : Int32) (x3 : Int32) (x4 : Int32) (x5 : Int32) (X : bsX), k13 x1 x2 x3 x4 x5 X = some z → bsV p l e rmX9_comes s m args below meth c 0 0 (MQ below (bsQv ρ cA dC dI Rz z s.heap.size) args s 0 0 (bsA ρ cA Rz s.heap.size)) ρ cA dC dI Rz 6 13 [(0, .ref (ρ 14 0 0)), (1, .int x1), (2, .int x2), (3, .int x3), (4, .int x4), (5, .int x5)] [] X)  (x1 : Int32) (x2 : Int32) (x3 : Int32) (x4 : Int32) (x5 : Int32) (y1 : Int32) (y2 : Int32) (y3 : Int32) (X : bsX) (hf : fX9_comes_56 k13 x1 x2 x3 x4 x5 y1 y2 y3 X = some z) : bsV p l e rmX9_comes s m args below meth c 0 0 (MQ below (bsQv ρ cA dC dI Rz z s.heap.size) args s 0 0 (bsA ρ cA Rz s.heap.size)) ρ cA dC dI Rz 6 56 [(0, .ref (ρ 14 0 0)), (1, .int x1), (2, .int x2), (3, .int x3), (4, .int x4), (5, .int x5)] [.int y3, .int y2, .int y1, .ref (ρ 14 0 0)] X := by
  rw [fX9_comes_56] at hf
  refine v_iconst (v := 0) C dX9_comes_56 (by decide) ?_
  refine v_sub [0, 1, 2, 3, 4, 5] rfl ?_
  exact wX9_comes_57  k13 C hk13 _ _ _ _ _ _ _ _ _ _  hf
set_option maxHeartbeats 4000000 in
set_option maxRecDepth 100000 in
theorem wX9_comes_70 {p : Program} {l : Launch} {e : Env} {s : State} {m : MethodId} {args : Array Value} {below : List Frame} {meth : Method} {c : Code} {ρ : bsR} {cA : Nat → ClassId} {dC : Nat → ClassId} {dI : Nat → Nat → Nat} {Rz : va_W} {Ts : List Cond}   {z : bsX} (C : bsCx p m c cX9_comes 6 s args Ts RX9 ρ cA dC dI Rz meth none) (x1 : Int32) (x2 : Int32) (x3 : Int32) (x4 : Int32) (X : bsX) (hf : fX9_comes_70 x1 x2 x3 x4 X = some z) : bsV p l e rmX9_comes s m args below meth c 0 0 (MQ below (bsQv ρ cA dC dI Rz z s.heap.size) args s 0 0 (bsA ρ cA Rz s.heap.size)) ρ cA dC dI Rz 6 70 [(0, .ref (ρ 14 0 0)), (1, .int x1), (2, .int x2), (3, .int x3), (4, .int x4)] [] X := by
  rw [fX9_comes_70] at hf
  refine v_aload_n C dX9_comes_70 rfl rfl ?_
  refine v_iload_n C dX9_comes_71 rfl rfl ?_
  refine v_iconst (v := 0) C dX9_comes_72 (by decide) ?_
  refine v_iconst (v := 1) C dX9_comes_73 (by decide) ?_
  obtain ⟨r13, hc14, hf⟩ := bs_bind hf
  refine v_callVv (y := yX9_puts) (As := [.int x1, .int (0 : Int32), .int (1 : Int32)]) (rest := []) C (cX9_puts_ok  hc14) ml_X9_77 wyX9_puts (bsm_X9) (bsc_X9) rfl dpX9_puts ⟨Nat.le_of_ble_eq_true rfl, Nat.le_of_ble_eq_true rfl⟩ ⟨rfl, rfl⟩ ⟨Nat.le_of_ble_eq_true rfl, Nat.le_of_ble_eq_true rfl⟩ rfl (Nat.le_of_ble_eq_true rfl) dX9_comes_74 ?_
  refine v_aload_n C dX9_comes_77 rfl rfl ?_
  refine v_iload_n C dX9_comes_78 rfl rfl ?_
  refine v_iconst (v := 1) C dX9_comes_79 (by decide) ?_
  refine v_aload_n C dX9_comes_80 rfl rfl ?_
  refine v_iload_n C dX9_comes_81 rfl rfl ?_
  obtain ⟨r15, hc16, hf⟩ := bs_bind hf
  refine v_callVi (y := yX9_greatestBut) (As := [.int x1]) (rest := [.int (1 : Int32), .int x1, .ref (ρ 14 0 0)]) C (cX9_greatestBut_ok  hc16) ml_X9_110 wyX9_greatestBut (bsm_X9) (bsc_X9) rfl dpX9_greatestBut ⟨Nat.le_of_ble_eq_true rfl, Nat.le_of_ble_eq_true rfl⟩ ⟨rfl, rfl⟩ ⟨Nat.le_of_ble_eq_true rfl, Nat.le_of_ble_eq_true rfl⟩ rfl (Nat.le_of_ble_eq_true rfl) dX9_comes_82 ?_
  refine v_iconst (v := 1) C dX9_comes_85 (by decide) ?_
  refine v_iadd C dX9_comes_86 ?_
  obtain ⟨r17, hc18, hf⟩ := bs_bind hf
  refine v_callVv (y := yX9_puts) (As := [.int x1, .int (1 : Int32), .int (r15.1 + (1 : Int32))]) (rest := []) C (cX9_puts_ok  hc18) ml_X9_77 wyX9_puts (bsm_X9) (bsc_X9) rfl dpX9_puts ⟨Nat.le_of_ble_eq_true rfl, Nat.le_of_ble_eq_true rfl⟩ ⟨rfl, rfl⟩ ⟨Nat.le_of_ble_eq_true rfl, Nat.le_of_ble_eq_true rfl⟩ rfl (Nat.le_of_ble_eq_true rfl) dX9_comes_87 ?_
  refine v_aload_n C dX9_comes_90 rfl rfl ?_
  refine v_iload_n C dX9_comes_91 rfl rfl ?_
  refine v_iconst (v := 2) C dX9_comes_92 (by decide) ?_
  refine v_iconst (v := 3) C dX9_comes_93 (by decide) ?_
  obtain ⟨r19, hc20, hf⟩ := bs_bind hf
  refine v_callVv (y := yX9_puts) (As := [.int x1, .int (2 : Int32), .int (3 : Int32)]) (rest := []) C (cX9_puts_ok  hc20) ml_X9_77 wyX9_puts (bsm_X9) (bsc_X9) rfl dpX9_puts ⟨Nat.le_of_ble_eq_true rfl, Nat.le_of_ble_eq_true rfl⟩ ⟨rfl, rfl⟩ ⟨Nat.le_of_ble_eq_true rfl, Nat.le_of_ble_eq_true rfl⟩ rfl (Nat.le_of_ble_eq_true rfl) dX9_comes_94 ?_
  refine v_aload_n C dX9_comes_97 rfl rfl ?_
  refine v_iload_n C dX9_comes_98 rfl rfl ?_
  refine v_bipush (v := 8) C dX9_comes_99 (by decide) ?_
  refine v_iload_n C dX9_comes_101 rfl rfl ?_
  obtain ⟨r21, hc22, hf⟩ := bs_bind hf
  refine v_callVv (y := yX9_puts) (As := [.int x1, .int (8 : Int32), .int x2]) (rest := []) C (cX9_puts_ok  hc22) ml_X9_77 wyX9_puts (bsm_X9) (bsc_X9) rfl dpX9_puts ⟨Nat.le_of_ble_eq_true rfl, Nat.le_of_ble_eq_true rfl⟩ ⟨rfl, rfl⟩ ⟨Nat.le_of_ble_eq_true rfl, Nat.le_of_ble_eq_true rfl⟩ rfl (Nat.le_of_ble_eq_true rfl) dX9_comes_102 ?_
  refine v_aload_n C dX9_comes_105 rfl rfl ?_
  refine v_iload_n C dX9_comes_106 rfl rfl ?_
  refine v_bipush (v := 9) C dX9_comes_107 (by decide) ?_
  refine v_iload_n C dX9_comes_109 rfl rfl ?_
  obtain ⟨r23, hc24, hf⟩ := bs_bind hf
  refine v_callVv (y := yX9_puts) (As := [.int x1, .int (9 : Int32), .int x3]) (rest := []) C (cX9_puts_ok  hc24) ml_X9_77 wyX9_puts (bsm_X9) (bsc_X9) rfl dpX9_puts ⟨Nat.le_of_ble_eq_true rfl, Nat.le_of_ble_eq_true rfl⟩ ⟨rfl, rfl⟩ ⟨Nat.le_of_ble_eq_true rfl, Nat.le_of_ble_eq_true rfl⟩ rfl (Nat.le_of_ble_eq_true rfl) dX9_comes_110 ?_
  refine v_aload_n C dX9_comes_113 rfl rfl ?_
  refine v_iload_n C dX9_comes_114 rfl rfl ?_
  refine v_bipush (v := 10) C dX9_comes_115 (by decide) ?_
  refine v_iload C dX9_comes_117 rfl ?_
  obtain ⟨r25, hc26, hf⟩ := bs_bind hf
  refine v_callVv (y := yX9_puts) (As := [.int x1, .int (10 : Int32), .int x4]) (rest := []) C (cX9_puts_ok  hc26) ml_X9_77 wyX9_puts (bsm_X9) (bsc_X9) rfl dpX9_puts ⟨Nat.le_of_ble_eq_true rfl, Nat.le_of_ble_eq_true rfl⟩ ⟨rfl, rfl⟩ ⟨Nat.le_of_ble_eq_true rfl, Nat.le_of_ble_eq_true rfl⟩ rfl (Nat.le_of_ble_eq_true rfl) dX9_comes_119 ?_
  exact v_vret C hf dX9_comes_122
set_option maxHeartbeats 4000000 in
set_option maxRecDepth 100000 in
theorem wX9_comes_13 {p : Program} {l : Launch} {e : Env} {s : State} {m : MethodId} {args : Array Value} {below : List Frame} {meth : Method} {c : Code} {ρ : bsR} {cA : Nat → ClassId} {dC : Nat → ClassId} {dI : Nat → Nat → Nat} {Rz : va_W} {Ts : List Cond}   {z : bsX} (C : bsCx p m c cX9_comes 6 s args Ts RX9 ρ cA dC dI Rz meth none) : ∀ (n : Nat) (x1 : Int32) (x2 : Int32) (x3 : Int32) (x4 : Int32) (x5 : Int32) (X : bsX), fX9_comes_13  n x1 x2 x3 x4 x5 X = some z → bsV p l e rmX9_comes s m args below meth c 0 0 (MQ below (bsQv ρ cA dC dI Rz z s.heap.size) args s 0 0 (bsA ρ cA Rz s.heap.size)) ρ cA dC dI Rz 6 13 [(0, .ref (ρ 14 0 0)), (1, .int x1), (2, .int x2), (3, .int x3), (4, .int x4), (5, .int x5)] [] X := by
  intro n
  induction n with
  | zero => intro x1 x2 x3 x4 x5 X hf; exact (nomatch hf)
  | succ n ih =>
    intro x1 x2 x3 x4 x5 X hf
    rw [fX9_comes_13] at hf
    refine v_iload C dX9_comes_13 rfl ?_
    refine v_aload_n C dX9_comes_15 rfl rfl ?_
    refine gf_X9_7 C dX9_comes_16 ?_
    refine v_iconst (v := 0) C dX9_comes_19 (by decide) ?_
    obtain ⟨hi5, hf⟩ := bs_if hf
    refine v_iald (n := 160) C bsm_14_1 bsc_14_1 hi5 dX9_comes_20 ?_
    refine v_icmp_ge (tgt := 70) C dX9_comes_21 (by decide) (fun h12 => ?_) (fun h12 => ?_)
    · replace hf := bs_pos h12 hf
      refine v_sub [0, 1, 2, 3, 4] rfl ?_
      exact wX9_comes_70   C  _ _ _ _ _  hf
    · replace hf := bs_neg h12 hf
      refine v_aload_n C dX9_comes_24 rfl rfl ?_
      refine v_iload C dX9_comes_25 rfl ?_
      refine v_iconst (v := 1) C dX9_comes_27 (by decide) ?_
      refine v_aload_n C dX9_comes_28 rfl rfl ?_
      refine v_iload C dX9_comes_29 rfl ?_
      refine v_iconst (v := 1) C dX9_comes_31 (by decide) ?_
      obtain ⟨r6, hc7, hf⟩ := bs_bind hf
      refine v_callVi (y := yX9_of) (As := [.int x5, .int (1 : Int32)]) (rest := [.int (1 : Int32), .int x5, .ref (ρ 14 0 0)]) C (cX9_of_ok  hc7) ml_X9_56 wyX9_of (bsm_X9) (bsc_X9) rfl dpX9_of ⟨Nat.le_of_ble_eq_true rfl, Nat.le_of_ble_eq_true rfl⟩ ⟨rfl, rfl⟩ ⟨Nat.le_of_ble_eq_true rfl, Nat.le_of_ble_eq_true rfl⟩ rfl (Nat.le_of_ble_eq_true rfl) dX9_comes_32 ?_
      refine v_iload C dX9_comes_35 rfl ?_
      refine v_iload_n C dX9_comes_37 rfl rfl ?_
      refine v_icmp_eq (tgt := 56) C dX9_comes_38 (by decide) (fun h11 => ?_) (fun h11 => ?_)
      · replace hf := bs_pos h11 hf
        refine v_sub [0, 1, 2, 3, 4, 5] rfl ?_
        exact wX9_comes_56  (fX9_comes_13  n) C (fun b0 b1 b2 b3 b4 X  h => ih b0 b1 b2 b3 b4 X  h) _ _ _ _ _ _ _ _ _  hf
      · replace hf := bs_neg h11 hf
        refine v_aload_n C dX9_comes_41 rfl rfl ?_
        refine v_iload C dX9_comes_42 rfl ?_
        refine v_iconst (v := 1) C dX9_comes_44 (by decide) ?_
        obtain ⟨r8, hc9, hf⟩ := bs_bind hf
        refine v_callVi (y := yX9_of) (As := [.int x5, .int (1 : Int32)]) (rest := [.int r6.1, .int (1 : Int32), .int x5, .ref (ρ 14 0 0)]) C (cX9_of_ok  hc9) ml_X9_56 wyX9_of (bsm_X9) (bsc_X9) rfl dpX9_of ⟨Nat.le_of_ble_eq_true rfl, Nat.le_of_ble_eq_true rfl⟩ ⟨rfl, rfl⟩ ⟨Nat.le_of_ble_eq_true rfl, Nat.le_of_ble_eq_true rfl⟩ rfl (Nat.le_of_ble_eq_true rfl) dX9_comes_45 ?_
        refine v_iconst (v := 1) C dX9_comes_48 (by decide) ?_
        refine v_icmp_le (tgt := 56) C dX9_comes_49 (by decide) (fun h10 => ?_) (fun h10 => ?_)
        · replace hf := bs_pos h10 hf
          refine v_sub [0, 1, 2, 3, 4, 5] rfl ?_
          exact wX9_comes_56  (fX9_comes_13  n) C (fun b0 b1 b2 b3 b4 X  h => ih b0 b1 b2 b3 b4 X  h) _ _ _ _ _ _ _ _ _  hf
        · replace hf := bs_neg h10 hf
          refine v_iconst (v := 1) C dX9_comes_52 (by decide) ?_
          refine v_goto (tgt := 57) C dX9_comes_53 (by decide) ?_
          refine v_sub [0, 1, 2, 3, 4, 5] rfl ?_
          exact wX9_comes_57  (fX9_comes_13  n) C (fun b0 b1 b2 b3 b4 X  h => ih b0 b1 b2 b3 b4 X  h) _ _ _ _ _ _ _ _ _ _  hf
set_option maxHeartbeats 4000000 in
set_option maxRecDepth 100000 in
theorem cX9_comes_ok {l : Launch} {ρ : bsR} {cA : Nat → ClassId} {dC : Nat → ClassId} {dI : Nat → Nat → Nat} {Rz : va_W}  {a1 : Int32} {a2 : Int32} {a3 : Int32} {a4 : Int32} {X : bsX} {z : bsX} (hf : fX9_comes a1 a2 a3 a4 X = some z) : bsMv l yX9_comes cX9_comes 6 none rmX9_comes ρ cA dC dI Rz [.ref (ρ 14 0 0), .int a1, .int a2, .int a3, .int a4] X z := by
  refine bsMv_of (by decide) (Nat.le_of_ble_eq_true rfl) (fun p e s m args below meth c C => ?_)
  have C : bsCx p m c cX9_comes 6 s args (Cond.code yX9_comes cX9_comes 6 none :: bsG) RX9 ρ cA dC dI Rz meth none := C
  rw [fX9_comes] at hf
  refine v_sub [0, 1, 2, 3, 4] rfl ?_
  refine v_aload_n C dX9_comes_0 rfl rfl ?_
  refine v_iload_n C dX9_comes_1 rfl rfl ?_
  obtain ⟨r27, hc28, hf⟩ := bs_bind hf
  refine v_callVi (y := yX9_greatestBut) (As := [.int a1]) (rest := []) C (cX9_greatestBut_ok  hc28) ml_X9_110 wyX9_greatestBut (bsm_X9) (bsc_X9) rfl dpX9_greatestBut ⟨Nat.le_of_ble_eq_true rfl, Nat.le_of_ble_eq_true rfl⟩ ⟨rfl, rfl⟩ ⟨Nat.le_of_ble_eq_true rfl, Nat.le_of_ble_eq_true rfl⟩ rfl (Nat.le_of_ble_eq_true rfl) dX9_comes_2 ?_
  refine v_bipush (v := 15) C dX9_comes_5 (by decide) ?_
  refine v_icmp_ne (tgt := 70) C dX9_comes_7 (by decide) (fun h29 => ?_) (fun h29 => ?_)
  · replace hf := bs_neg h29 hf
    refine v_sub [0, 1, 2, 3, 4] rfl ?_
    exact wX9_comes_70   C  _ _ _ _ _  hf
  · replace hf := bs_pos h29 hf
    refine v_iconst (v := 0) C dX9_comes_10 (by decide) ?_
    refine v_istore (lv' := [(5, .int (0 : Int32)), (0, .ref (ρ 14 0 0)), (1, .int a1), (2, .int a2), (3, .int a3), (4, .int a4)]) C dX9_comes_11 (by decide) rfl ?_
    refine v_sub [1, 2, 3, 4, 5, 0] rfl ?_
    exact wX9_comes_13   C  bsF _ _ _ _ _ _  hf
/-! BootSlotsModel.installs()V -/
def fX9_installs (X : bsX) : Option bsX := if bsIn (20 : Int32) 160 then (if bsIn (22 : Int32) 160 then (if bsIn (23 : Int32) 160 then (if bsIn (24 : Int32) 160 then ((fX9_comes  (X 14 1 0 (bsIx (20 : Int32))) (X 14 1 0 (bsIx (22 : Int32))) (X 14 1 0 (bsIx (23 : Int32))) (X 14 1 0 (bsIx (24 : Int32))) X).bind fun r5 => if bsIn (27 : Int32) 160 then ((fX9_puts  (X 14 1 0 (bsIx (20 : Int32))) (2 : Int32) (r5 14 1 0 (bsIx (27 : Int32))) r5).bind fun r8 => if bsIn (25 : Int32) 160 then ((fX9_puts  (X 14 1 0 (bsIx (20 : Int32))) (11 : Int32) (r8 14 1 0 (bsIx (25 : Int32))) r8).bind fun r11 => if bsIn (26 : Int32) 160 then ((fX9_puts  (X 14 1 0 (bsIx (20 : Int32))) (12 : Int32) (r11 14 1 0 (bsIx (26 : Int32))) r11).bind fun r14 => (fX9_noInstall   r14).bind fun r16 => if bsIn (19 : Int32) 160 then (if bsIn (6 : Int32) 160 then (if ((bsWr r16 14 1 0 (bsIx (19 : Int32)) ((r16 14 1 0 (bsIx (19 : Int32))) + (1 : Int32))) 14 1 0 (bsIx (6 : Int32))) = (2 : Int32) then ((fX9_boots  (4 : Int32) (bsWr r16 14 1 0 (bsIx (19 : Int32)) ((r16 14 1 0 (bsIx (19 : Int32))) + (1 : Int32)))).bind fun r21 => some r21.2) else (some (bsWr r16 14 1 0 (bsIx (19 : Int32)) ((r16 14 1 0 (bsIx (19 : Int32))) + (1 : Int32))))) else none) else none) else none) else none) else none) else none) else none) else none) else none
abbrev rmX9_installs : Room := { frames := 6, cells := 0, slots := 0, locals := 130 }
set_option maxHeartbeats 4000000 in
set_option maxRecDepth 100000 in
theorem cX9_installs_ok {l : Launch} {ρ : bsR} {cA : Nat → ClassId} {dC : Nat → ClassId} {dI : Nat → Nat → Nat} {Rz : va_W}  {X : bsX} {z : bsX} (hf : fX9_installs  X = some z) : bsMv l yX9_installs cX9_installs 3 none rmX9_installs ρ cA dC dI Rz [.ref (ρ 14 0 0)] X z := by
  refine bsMv_of (by decide) (Nat.le_of_ble_eq_true rfl) (fun p e s m args below meth c C => ?_)
  have C : bsCx p m c cX9_installs 3 s args (Cond.code yX9_installs cX9_installs 3 none :: bsG) RX9 ρ cA dC dI Rz meth none := C
  rw [fX9_installs] at hf
  refine v_sub [0] rfl ?_
  refine v_aload_n C dX9_installs_0 rfl rfl ?_
  refine gf_X9_7 C dX9_installs_1 ?_
  refine v_bipush (v := 20) C dX9_installs_4 (by decide) ?_
  obtain ⟨hi1, hf⟩ := bs_if hf
  refine v_iald (n := 160) C bsm_14_1 bsc_14_1 hi1 dX9_installs_6 ?_
  refine v_istore_n (lv' := [(1, .int (X 14 1 0 (bsIx (20 : Int32)))), (0, .ref (ρ 14 0 0))]) C dX9_installs_7 rfl (by decide) rfl ?_
  refine v_aload_n C dX9_installs_8 rfl rfl ?_
  refine v_iload_n C dX9_installs_9 rfl rfl ?_
  refine v_aload_n C dX9_installs_10 rfl rfl ?_
  refine gf_X9_7 C dX9_installs_11 ?_
  refine v_bipush (v := 22) C dX9_installs_14 (by decide) ?_
  obtain ⟨hi2, hf⟩ := bs_if hf
  refine v_iald (n := 160) C bsm_14_1 bsc_14_1 hi2 dX9_installs_16 ?_
  refine v_aload_n C dX9_installs_17 rfl rfl ?_
  refine gf_X9_7 C dX9_installs_18 ?_
  refine v_bipush (v := 23) C dX9_installs_21 (by decide) ?_
  obtain ⟨hi3, hf⟩ := bs_if hf
  refine v_iald (n := 160) C bsm_14_1 bsc_14_1 hi3 dX9_installs_23 ?_
  refine v_aload_n C dX9_installs_24 rfl rfl ?_
  refine gf_X9_7 C dX9_installs_25 ?_
  refine v_bipush (v := 24) C dX9_installs_28 (by decide) ?_
  obtain ⟨hi4, hf⟩ := bs_if hf
  refine v_iald (n := 160) C bsm_14_1 bsc_14_1 hi4 dX9_installs_30 ?_
  obtain ⟨r5, hc6, hf⟩ := bs_bind hf
  refine v_callVv (y := yX9_comes) (As := [.int (X 14 1 0 (bsIx (20 : Int32))), .int (X 14 1 0 (bsIx (22 : Int32))), .int (X 14 1 0 (bsIx (23 : Int32))), .int (X 14 1 0 (bsIx (24 : Int32)))]) (rest := []) C (cX9_comes_ok  hc6) ml_X9_117 wyX9_comes (bsm_X9) (bsc_X9) rfl dpX9_comes ⟨Nat.le_of_ble_eq_true rfl, Nat.le_of_ble_eq_true rfl⟩ ⟨rfl, rfl⟩ ⟨Nat.le_of_ble_eq_true rfl, Nat.le_of_ble_eq_true rfl⟩ rfl (Nat.le_of_ble_eq_true rfl) dX9_installs_31 ?_
  refine v_aload_n C dX9_installs_34 rfl rfl ?_
  refine v_iload_n C dX9_installs_35 rfl rfl ?_
  refine v_iconst (v := 2) C dX9_installs_36 (by decide) ?_
  refine v_aload_n C dX9_installs_37 rfl rfl ?_
  refine gf_X9_7 C dX9_installs_38 ?_
  refine v_bipush (v := 27) C dX9_installs_41 (by decide) ?_
  obtain ⟨hi7, hf⟩ := bs_if hf
  refine v_iald (n := 160) C bsm_14_1 bsc_14_1 hi7 dX9_installs_43 ?_
  obtain ⟨r8, hc9, hf⟩ := bs_bind hf
  refine v_callVv (y := yX9_puts) (As := [.int (X 14 1 0 (bsIx (20 : Int32))), .int (2 : Int32), .int (r5 14 1 0 (bsIx (27 : Int32)))]) (rest := []) C (cX9_puts_ok  hc9) ml_X9_77 wyX9_puts (bsm_X9) (bsc_X9) rfl dpX9_puts ⟨Nat.le_of_ble_eq_true rfl, Nat.le_of_ble_eq_true rfl⟩ ⟨rfl, rfl⟩ ⟨Nat.le_of_ble_eq_true rfl, Nat.le_of_ble_eq_true rfl⟩ rfl (Nat.le_of_ble_eq_true rfl) dX9_installs_44 ?_
  refine v_aload_n C dX9_installs_47 rfl rfl ?_
  refine v_iload_n C dX9_installs_48 rfl rfl ?_
  refine v_bipush (v := 11) C dX9_installs_49 (by decide) ?_
  refine v_aload_n C dX9_installs_51 rfl rfl ?_
  refine gf_X9_7 C dX9_installs_52 ?_
  refine v_bipush (v := 25) C dX9_installs_55 (by decide) ?_
  obtain ⟨hi10, hf⟩ := bs_if hf
  refine v_iald (n := 160) C bsm_14_1 bsc_14_1 hi10 dX9_installs_57 ?_
  obtain ⟨r11, hc12, hf⟩ := bs_bind hf
  refine v_callVv (y := yX9_puts) (As := [.int (X 14 1 0 (bsIx (20 : Int32))), .int (11 : Int32), .int (r8 14 1 0 (bsIx (25 : Int32)))]) (rest := []) C (cX9_puts_ok  hc12) ml_X9_77 wyX9_puts (bsm_X9) (bsc_X9) rfl dpX9_puts ⟨Nat.le_of_ble_eq_true rfl, Nat.le_of_ble_eq_true rfl⟩ ⟨rfl, rfl⟩ ⟨Nat.le_of_ble_eq_true rfl, Nat.le_of_ble_eq_true rfl⟩ rfl (Nat.le_of_ble_eq_true rfl) dX9_installs_58 ?_
  refine v_aload_n C dX9_installs_61 rfl rfl ?_
  refine v_iload_n C dX9_installs_62 rfl rfl ?_
  refine v_bipush (v := 12) C dX9_installs_63 (by decide) ?_
  refine v_aload_n C dX9_installs_65 rfl rfl ?_
  refine gf_X9_7 C dX9_installs_66 ?_
  refine v_bipush (v := 26) C dX9_installs_69 (by decide) ?_
  obtain ⟨hi13, hf⟩ := bs_if hf
  refine v_iald (n := 160) C bsm_14_1 bsc_14_1 hi13 dX9_installs_71 ?_
  obtain ⟨r14, hc15, hf⟩ := bs_bind hf
  refine v_callVv (y := yX9_puts) (As := [.int (X 14 1 0 (bsIx (20 : Int32))), .int (12 : Int32), .int (r11 14 1 0 (bsIx (26 : Int32)))]) (rest := []) C (cX9_puts_ok  hc15) ml_X9_77 wyX9_puts (bsm_X9) (bsc_X9) rfl dpX9_puts ⟨Nat.le_of_ble_eq_true rfl, Nat.le_of_ble_eq_true rfl⟩ ⟨rfl, rfl⟩ ⟨Nat.le_of_ble_eq_true rfl, Nat.le_of_ble_eq_true rfl⟩ rfl (Nat.le_of_ble_eq_true rfl) dX9_installs_72 ?_
  refine v_aload_n C dX9_installs_75 rfl rfl ?_
  obtain ⟨r16, hc17, hf⟩ := bs_bind hf
  refine v_callVv (y := yX9_noInstall) (As := []) (rest := []) C (cX9_noInstall_ok  hc17) ml_X9_121 wyX9_noInstall (bsm_X9) (bsc_X9) rfl dpX9_noInstall ⟨Nat.le_of_ble_eq_true rfl, Nat.le_of_ble_eq_true rfl⟩ ⟨rfl, rfl⟩ ⟨Nat.le_of_ble_eq_true rfl, Nat.le_of_ble_eq_true rfl⟩ rfl (Nat.le_of_ble_eq_true rfl) dX9_installs_76 ?_
  refine v_aload_n C dX9_installs_79 rfl rfl ?_
  refine gf_X9_7 C dX9_installs_80 ?_
  refine v_bipush (v := 19) C dX9_installs_83 (by decide) ?_
  refine v_dup2 C dX9_installs_85 rfl rfl ?_
  obtain ⟨hi18, hf⟩ := bs_if hf
  refine v_iald (n := 160) C bsm_14_1 bsc_14_1 hi18 dX9_installs_86 ?_
  refine v_iconst (v := 1) C dX9_installs_87 (by decide) ?_
  refine v_iadd C dX9_installs_88 ?_
  refine v_iast (n := 160) C bsm_14_1 (fun _ => bsc_14_1) hi18 dX9_installs_89 ?_
  refine v_aload_n C dX9_installs_90 rfl rfl ?_
  refine gf_X9_7 C dX9_installs_91 ?_
  refine v_bipush (v := 6) C dX9_installs_94 (by decide) ?_
  obtain ⟨hi20, hf⟩ := bs_if hf
  refine v_iald (n := 160) C bsm_14_1 bsc_14_1 hi20 dX9_installs_96 ?_
  refine v_iconst (v := 2) C dX9_installs_97 (by decide) ?_
  refine v_icmp_ne (tgt := 107) C dX9_installs_98 (by decide) (fun h23 => ?_) (fun h23 => ?_)
  · replace hf := bs_neg h23 hf
    exact v_vret C hf dX9_installs_107
  · replace hf := bs_pos h23 hf
    refine v_aload_n C dX9_installs_101 rfl rfl ?_
    refine v_iconst (v := 4) C dX9_installs_102 (by decide) ?_
    obtain ⟨r21, hc22, hf⟩ := bs_bind hf
    refine v_callVi (y := yX9_boots) (As := [.int (4 : Int32)]) (rest := []) C (cX9_boots_ok  hc22) ml_X9_92 wyX9_boots (bsm_X9) (bsc_X9) rfl dpX9_boots ⟨Nat.le_of_ble_eq_true rfl, Nat.le_of_ble_eq_true rfl⟩ ⟨rfl, rfl⟩ ⟨Nat.le_of_ble_eq_true rfl, Nat.le_of_ble_eq_true rfl⟩ rfl (Nat.le_of_ble_eq_true rfl) dX9_installs_103 ?_
    refine v_istore_n (lv' := [(2, .int r21.1), (1, .int (X 14 1 0 (bsIx (20 : Int32)))), (0, .ref (ρ 14 0 0))]) C dX9_installs_106 rfl (by decide) rfl ?_
    exact v_vret C hf dX9_installs_107
/-! BootSlotsModel.ticks()V -/
def fX9_ticks_54 (X : bsX) : Option bsX := if bsIn (6 : Int32) 160 then (if (X 14 1 0 (bsIx (6 : Int32))) = 0 then (some X) else ((fX9_hasInstall   X).bind fun r9 => if r9.1 = 0 then (some r9.2) else (if bsIn (21 : Int32) 160 then (if ((bsWr r9.2 14 1 0 (bsIx (21 : Int32)) ((r9.2 14 1 0 (bsIx (21 : Int32))) - (1 : Int32))) 14 1 0 (bsIx (21 : Int32))) = 0 then ((fX9_installs   (bsWr r9.2 14 1 0 (bsIx (21 : Int32)) ((r9.2 14 1 0 (bsIx (21 : Int32))) - (1 : Int32)))).bind fun r14 => some r14) else (some (bsWr r9.2 14 1 0 (bsIx (21 : Int32)) ((r9.2 14 1 0 (bsIx (21 : Int32))) - (1 : Int32))))) else none))) else none
def fX9_ticks_34 (y1 : Int32) (y2 : Int32) (y3 : Int32) (X : bsX) : Option bsX := (fX9_flag  y3 X).bind fun r1 => if bsIn y1 160 then (if bsIn (6 : Int32) 160 then (if ((bsWr r1.2 14 1 0 (bsIx y1) (y2 + r1.1)) 14 1 0 (bsIx (6 : Int32))) = (1 : Int32) then ((fX9_runsOn   (bsWr r1.2 14 1 0 (bsIx y1) (y2 + r1.1))).bind fun r5 => fX9_ticks_54    r5) else (fX9_ticks_54    (bsWr r1.2 14 1 0 (bsIx y1) (y2 + r1.1)))) else none) else none
def fX9_ticks (X : bsX) : Option bsX := if bsIn (1 : Int32) 160 then (if bsIn (18 : Int32) 160 then (if bsIn (6 : Int32) 160 then (if ((bsWr X 14 1 0 (bsIx (1 : Int32)) ((X 14 1 0 (bsIx (1 : Int32))) + (1 : Int32))) 14 1 0 (bsIx (6 : Int32))) = (2 : Int32) then (fX9_ticks_34   (18 : Int32) ((bsWr X 14 1 0 (bsIx (1 : Int32)) ((X 14 1 0 (bsIx (1 : Int32))) + (1 : Int32))) 14 1 0 (bsIx (18 : Int32))) (1 : Int32) (bsWr X 14 1 0 (bsIx (1 : Int32)) ((X 14 1 0 (bsIx (1 : Int32))) + (1 : Int32)))) else (fX9_ticks_34   (18 : Int32) ((bsWr X 14 1 0 (bsIx (1 : Int32)) ((X 14 1 0 (bsIx (1 : Int32))) + (1 : Int32))) 14 1 0 (bsIx (18 : Int32))) (0 : Int32) (bsWr X 14 1 0 (bsIx (1 : Int32)) ((X 14 1 0 (bsIx (1 : Int32))) + (1 : Int32))))) else none) else none) else none
abbrev rmX9_ticks : Room := { frames := 8, cells := 0, slots := 0, locals := 174 }
set_option maxHeartbeats 4000000 in
set_option maxRecDepth 100000 in
theorem wX9_ticks_54 {p : Program} {l : Launch} {e : Env} {s : State} {m : MethodId} {args : Array Value} {below : List Frame} {meth : Method} {c : Code} {ρ : bsR} {cA : Nat → ClassId} {dC : Nat → ClassId} {dI : Nat → Nat → Nat} {Rz : va_W} {Ts : List Cond}   {z : bsX} (C : bsCx p m c cX9_ticks 1 s args Ts RX9 ρ cA dC dI Rz meth none) (X : bsX) (hf : fX9_ticks_54  X = some z) : bsV p l e rmX9_ticks s m args below meth c 0 0 (MQ below (bsQv ρ cA dC dI Rz z s.heap.size) args s 0 0 (bsA ρ cA Rz s.heap.size)) ρ cA dC dI Rz 1 54 [(0, .ref (ρ 14 0 0))] [] X := by
  rw [fX9_ticks_54] at hf
  refine v_aload_n C dX9_ticks_54 rfl rfl ?_
  refine gf_X9_7 C dX9_ticks_55 ?_
  refine v_bipush (v := 6) C dX9_ticks_58 (by decide) ?_
  obtain ⟨hi8, hf⟩ := bs_if hf
  refine v_iald (n := 160) C bsm_14_1 bsc_14_1 hi8 dX9_ticks_60 ?_
  refine v_if_eq (tgt := 71) C dX9_ticks_61 (by decide) (fun h18 => ?_) (fun h18 => ?_)
  · replace hf := bs_pos h18 hf
    exact v_vret C hf dX9_ticks_71
  · replace hf := bs_neg h18 hf
    refine v_aload_n C dX9_ticks_64 rfl rfl ?_
    obtain ⟨r9, hc10, hf⟩ := bs_bind hf
    refine v_callVi (y := yX9_hasInstall) (As := []) (rest := []) C (cX9_hasInstall_ok  hc10) ml_X9_127 wyX9_hasInstall (bsm_X9) (bsc_X9) rfl dpX9_hasInstall ⟨Nat.le_of_ble_eq_true rfl, Nat.le_of_ble_eq_true rfl⟩ ⟨rfl, rfl⟩ ⟨Nat.le_of_ble_eq_true rfl, Nat.le_of_ble_eq_true rfl⟩ rfl (Nat.le_of_ble_eq_true rfl) dX9_ticks_65 ?_
    refine v_if_ne (tgt := 72) C dX9_ticks_68 (by decide) (fun h17 => ?_) (fun h17 => ?_)
    · replace hf := bs_neg h17 hf
      refine v_aload_n C dX9_ticks_72 rfl rfl ?_
      refine gf_X9_7 C dX9_ticks_73 ?_
      refine v_bipush (v := 21) C dX9_ticks_76 (by decide) ?_
      refine v_dup2 C dX9_ticks_78 rfl rfl ?_
      obtain ⟨hi11, hf⟩ := bs_if hf
      refine v_iald (n := 160) C bsm_14_1 bsc_14_1 hi11 dX9_ticks_79 ?_
      refine v_iconst (v := 1) C dX9_ticks_80 (by decide) ?_
      refine v_isub C dX9_ticks_81 ?_
      refine v_iast (n := 160) C bsm_14_1 (fun _ => bsc_14_1) hi11 dX9_ticks_82 ?_
      refine v_aload_n C dX9_ticks_83 rfl rfl ?_
      refine gf_X9_7 C dX9_ticks_84 ?_
      refine v_bipush (v := 21) C dX9_ticks_87 (by decide) ?_
      refine v_iald (n := 160) C bsm_14_1 bsc_14_1 hi11 dX9_ticks_89 ?_
      refine v_if_ne (tgt := 97) C dX9_ticks_90 (by decide) (fun h16 => ?_) (fun h16 => ?_)
      · replace hf := bs_neg h16 hf
        exact v_vret C hf dX9_ticks_97
      · replace hf := bs_pos h16 hf
        refine v_aload_n C dX9_ticks_93 rfl rfl ?_
        obtain ⟨r14, hc15, hf⟩ := bs_bind hf
        refine v_callVv (y := yX9_installs) (As := []) (rest := []) C (cX9_installs_ok  hc15) ml_X9_130 wyX9_installs (bsm_X9) (bsc_X9) rfl dpX9_installs ⟨Nat.le_of_ble_eq_true rfl, Nat.le_of_ble_eq_true rfl⟩ ⟨rfl, rfl⟩ ⟨Nat.le_of_ble_eq_true rfl, Nat.le_of_ble_eq_true rfl⟩ rfl (Nat.le_of_ble_eq_true rfl) dX9_ticks_94 ?_
        exact v_vret C hf dX9_ticks_97
    · replace hf := bs_pos h17 hf
      exact v_vret C hf dX9_ticks_71
set_option maxHeartbeats 4000000 in
set_option maxRecDepth 100000 in
theorem wX9_ticks_34 {p : Program} {l : Launch} {e : Env} {s : State} {m : MethodId} {args : Array Value} {below : List Frame} {meth : Method} {c : Code} {ρ : bsR} {cA : Nat → ClassId} {dC : Nat → ClassId} {dI : Nat → Nat → Nat} {Rz : va_W} {Ts : List Cond}   {z : bsX} (C : bsCx p m c cX9_ticks 1 s args Ts RX9 ρ cA dC dI Rz meth none) (y1 : Int32) (y2 : Int32) (y3 : Int32) (X : bsX) (hf : fX9_ticks_34 y1 y2 y3 X = some z) : bsV p l e rmX9_ticks s m args below meth c 0 0 (MQ below (bsQv ρ cA dC dI Rz z s.heap.size) args s 0 0 (bsA ρ cA Rz s.heap.size)) ρ cA dC dI Rz 1 34 [(0, .ref (ρ 14 0 0))] [.int y3, .int y2, .int y1, .ref (ρ 14 1 0)] X := by
  rw [fX9_ticks_34] at hf
  obtain ⟨r1, hc2, hf⟩ := bs_bind hf
  refine v_callSi (y := yX9_flag) (As := [.int y3]) (rest := [.int y2, .int y1, .ref (ρ 14 1 0)]) C (cX9_flag_ok  hc2) ml_X9_113 wzX9_flag dpX9_flag ⟨Nat.le_of_ble_eq_true rfl, Nat.le_of_ble_eq_true rfl⟩ ⟨rfl, rfl⟩ ⟨Nat.le_of_ble_eq_true rfl, Nat.le_of_ble_eq_true rfl⟩ rfl (Nat.le_of_ble_eq_true rfl) dX9_ticks_34 ?_
  refine v_iadd C dX9_ticks_37 ?_
  obtain ⟨hi3, hf⟩ := bs_if hf
  refine v_iast (n := 160) C bsm_14_1 (fun _ => bsc_14_1) hi3 dX9_ticks_38 ?_
  refine v_aload_n C dX9_ticks_39 rfl rfl ?_
  refine gf_X9_7 C dX9_ticks_40 ?_
  refine v_bipush (v := 6) C dX9_ticks_43 (by decide) ?_
  obtain ⟨hi4, hf⟩ := bs_if hf
  refine v_iald (n := 160) C bsm_14_1 bsc_14_1 hi4 dX9_ticks_45 ?_
  refine v_iconst (v := 1) C dX9_ticks_46 (by decide) ?_
  refine v_icmp_ne (tgt := 54) C dX9_ticks_47 (by decide) (fun h7 => ?_) (fun h7 => ?_)
  · replace hf := bs_neg h7 hf
    refine v_sub [0] rfl ?_
    exact wX9_ticks_54   C  _  hf
  · replace hf := bs_pos h7 hf
    refine v_aload_n C dX9_ticks_50 rfl rfl ?_
    obtain ⟨r5, hc6, hf⟩ := bs_bind hf
    refine v_callVv (y := yX9_runsOn) (As := []) (rest := []) C (cX9_runsOn_ok  hc6) ml_X9_124 wyX9_runsOn (bsm_X9) (bsc_X9) rfl dpX9_runsOn ⟨Nat.le_of_ble_eq_true rfl, Nat.le_of_ble_eq_true rfl⟩ ⟨rfl, rfl⟩ ⟨Nat.le_of_ble_eq_true rfl, Nat.le_of_ble_eq_true rfl⟩ rfl (Nat.le_of_ble_eq_true rfl) dX9_ticks_51 ?_
    refine v_sub [0] rfl ?_
    exact wX9_ticks_54   C  _  hf
set_option maxHeartbeats 4000000 in
set_option maxRecDepth 100000 in
theorem cX9_ticks_ok {l : Launch} {ρ : bsR} {cA : Nat → ClassId} {dC : Nat → ClassId} {dI : Nat → Nat → Nat} {Rz : va_W}  {X : bsX} {z : bsX} (hf : fX9_ticks  X = some z) : bsMv l yX9_ticks cX9_ticks 1 none rmX9_ticks ρ cA dC dI Rz [.ref (ρ 14 0 0)] X z := by
  refine bsMv_of (by decide) (Nat.le_of_ble_eq_true rfl) (fun p e s m args below meth c C => ?_)
  have C : bsCx p m c cX9_ticks 1 s args (Cond.code yX9_ticks cX9_ticks 1 none :: bsG) RX9 ρ cA dC dI Rz meth none := C
  rw [fX9_ticks] at hf
  refine v_sub [0] rfl ?_
  refine v_aload_n C dX9_ticks_0 rfl rfl ?_
  refine gf_X9_7 C dX9_ticks_1 ?_
  refine v_iconst (v := 1) C dX9_ticks_4 (by decide) ?_
  refine v_dup2 C dX9_ticks_5 rfl rfl ?_
  obtain ⟨hi19, hf⟩ := bs_if hf
  refine v_iald (n := 160) C bsm_14_1 bsc_14_1 hi19 dX9_ticks_6 ?_
  refine v_iconst (v := 1) C dX9_ticks_7 (by decide) ?_
  refine v_iadd C dX9_ticks_8 ?_
  refine v_iast (n := 160) C bsm_14_1 (fun _ => bsc_14_1) hi19 dX9_ticks_9 ?_
  refine v_aload_n C dX9_ticks_10 rfl rfl ?_
  refine gf_X9_7 C dX9_ticks_11 ?_
  refine v_bipush (v := 18) C dX9_ticks_14 (by decide) ?_
  refine v_dup2 C dX9_ticks_16 rfl rfl ?_
  obtain ⟨hi21, hf⟩ := bs_if hf
  refine v_iald (n := 160) C bsm_14_1 bsc_14_1 hi21 dX9_ticks_17 ?_
  refine v_aload_n C dX9_ticks_18 rfl rfl ?_
  refine gf_X9_7 C dX9_ticks_19 ?_
  refine v_bipush (v := 6) C dX9_ticks_22 (by decide) ?_
  obtain ⟨hi22, hf⟩ := bs_if hf
  refine v_iald (n := 160) C bsm_14_1 bsc_14_1 hi22 dX9_ticks_24 ?_
  refine v_iconst (v := 2) C dX9_ticks_25 (by decide) ?_
  refine v_icmp_ne (tgt := 33) C dX9_ticks_26 (by decide) (fun h23 => ?_) (fun h23 => ?_)
  · replace hf := bs_neg h23 hf
    refine v_iconst (v := 0) C dX9_ticks_33 (by decide) ?_
    refine v_sub [0] rfl ?_
    exact wX9_ticks_34   C  _ _ _ _  hf
  · replace hf := bs_pos h23 hf
    refine v_iconst (v := 1) C dX9_ticks_29 (by decide) ?_
    refine v_goto (tgt := 34) C dX9_ticks_30 (by decide) ?_
    refine v_sub [0] rfl ?_
    exact wX9_ticks_34   C  _ _ _ _  hf
/-! BootSlotsModel.ticksAll(I)V -/
def fX9_ticksAll_2 : Nat → Int32 → Int32 → bsX → Option bsX
  | 0, _, _, _ => none
  | n + 1, x1, x2, X => if x1 ≤ x2 then (some X) else ((fX9_ticks   X).bind fun r1 => fX9_ticksAll_2 n x1 (x2 + (1 : Int32)) r1)
def fX9_ticksAll (a1 : Int32) (X : bsX) : Option bsX := fX9_ticksAll_2   bsF a1 (0 : Int32) X
abbrev rmX9_ticksAll : Room := { frames := 9, cells := 0, slots := 0, locals := 194 }
set_option maxHeartbeats 4000000 in
set_option maxRecDepth 100000 in
theorem wX9_ticksAll_2 {p : Program} {l : Launch} {e : Env} {s : State} {m : MethodId} {args : Array Value} {below : List Frame} {meth : Method} {c : Code} {ρ : bsR} {cA : Nat → ClassId} {dC : Nat → ClassId} {dI : Nat → Nat → Nat} {Rz : va_W} {Ts : List Cond}   {z : bsX} (C : bsCx p m c cX9_ticksAll 3 s args Ts RX9 ρ cA dC dI Rz meth none) : ∀ (n : Nat) (x1 : Int32) (x2 : Int32) (X : bsX), fX9_ticksAll_2  n x1 x2 X = some z → bsV p l e rmX9_ticksAll s m args below meth c 0 0 (MQ below (bsQv ρ cA dC dI Rz z s.heap.size) args s 0 0 (bsA ρ cA Rz s.heap.size)) ρ cA dC dI Rz 3 2 [(0, .ref (ρ 14 0 0)), (1, .int x1), (2, .int x2)] [] X := by
  intro n
  induction n with
  | zero => intro x1 x2 X hf; exact (nomatch hf)
  | succ n ih =>
    intro x1 x2 X hf
    rw [fX9_ticksAll_2] at hf
    refine v_iload_n C dX9_ticksAll_2 rfl rfl ?_
    refine v_iload_n C dX9_ticksAll_3 rfl rfl ?_
    refine v_icmp_ge (tgt := 17) C dX9_ticksAll_4 (by decide) (fun h3 => ?_) (fun h3 => ?_)
    · replace hf := bs_pos h3 hf
      exact v_vret C hf dX9_ticksAll_17
    · replace hf := bs_neg h3 hf
      refine v_aload_n C dX9_ticksAll_7 rfl rfl ?_
      obtain ⟨r1, hc2, hf⟩ := bs_bind hf
      refine v_callVv (y := yX9_ticks) (As := []) (rest := []) C (cX9_ticks_ok  hc2) ml_X9_133 wyX9_ticks (bsm_X9) (bsc_X9) rfl dpX9_ticks ⟨Nat.le_of_ble_eq_true rfl, Nat.le_of_ble_eq_true rfl⟩ ⟨rfl, rfl⟩ ⟨Nat.le_of_ble_eq_true rfl, Nat.le_of_ble_eq_true rfl⟩ rfl (Nat.le_of_ble_eq_true rfl) dX9_ticksAll_8 ?_
      refine v_iinc (k0 := 2) (v := (x2 + (1 : Int32))) (lv' := [(2, .int (x2 + (1 : Int32))), (0, .ref (ρ 14 0 0)), (1, .int x1)]) C dX9_ticksAll_11 rfl rfl (by decide) rfl ?_
      refine v_goto (tgt := 2) C dX9_ticksAll_14 (by decide) ?_
      refine v_sub [1, 2, 0] rfl ?_
      exact ih _ _ _  hf
set_option maxHeartbeats 4000000 in
set_option maxRecDepth 100000 in
theorem cX9_ticksAll_ok {l : Launch} {ρ : bsR} {cA : Nat → ClassId} {dC : Nat → ClassId} {dI : Nat → Nat → Nat} {Rz : va_W}  {a1 : Int32} {X : bsX} {z : bsX} (hf : fX9_ticksAll a1 X = some z) : bsMv l yX9_ticksAll cX9_ticksAll 3 none rmX9_ticksAll ρ cA dC dI Rz [.ref (ρ 14 0 0), .int a1] X z := by
  refine bsMv_of (by decide) (Nat.le_of_ble_eq_true rfl) (fun p e s m args below meth c C => ?_)
  have C : bsCx p m c cX9_ticksAll 3 s args (Cond.code yX9_ticksAll cX9_ticksAll 3 none :: bsG) RX9 ρ cA dC dI Rz meth none := C
  rw [fX9_ticksAll] at hf
  refine v_sub [0, 1] rfl ?_
  refine v_iconst (v := 0) C dX9_ticksAll_0 (by decide) ?_
  refine v_istore_n (lv' := [(2, .int (0 : Int32)), (0, .ref (ρ 14 0 0)), (1, .int a1)]) C dX9_ticksAll_1 rfl (by decide) rfl ?_
  refine v_sub [1, 2, 0] rfl ?_
  exact wX9_ticksAll_2   C  bsF _ _ _  hf
/-! BootSlotsModel.append(IIIII)I -/
def fX9_append_76 (k23 : Int32 → Int32 → Int32 → Int32 → Int32 → Int32 → bsX → Option (Int32 × bsX)) (x1 : Int32) (x2 : Int32) (x3 : Int32) (x4 : Int32) (x5 : Int32) (x6 : Int32) (y0 : Int32) (X : bsX) : Option (Int32 × bsX) := if bsIn ((X 14 0 0 7) + x6) 600 then (k23 x1 x2 x3 x4 x5 (x6 + (1 : Int32)) (bsWr X 14 4 0 (bsIx ((X 14 0 0 7) + x6)) ((y0 >>> (((24 : Int32) - ((8 : Int32) * (x6 - x6 / (4 : Int32) * (4 : Int32)))) &&& 31)) &&& (255 : Int32)))) else none
def fX9_append_23 : Nat → Int32 → Int32 → Int32 → Int32 → Int32 → Int32 → bsX → Option (Int32 × bsX)
  | 0, _, _, _, _, _, _, _ => none
  | n + 1, x1, x2, x3, x4, x5, x6, X => if (20 : Int32) ≤ x6 then (some (((bsWr X 14 0 0 7 ((X 14 0 0 7) + (20 : Int32))) 14 0 0 7), (bsWr X 14 0 0 7 ((X 14 0 0 7) + (20 : Int32))))) else (if (4 : Int32) ≤ x6 then (if (8 : Int32) ≤ x6 then (if (12 : Int32) ≤ x6 then (if (16 : Int32) ≤ x6 then (fX9_append_76  (fX9_append_23  n) x1 x2 x3 x4 x5 x6 x5 X) else (fX9_append_76  (fX9_append_23  n) x1 x2 x3 x4 x5 x6 x4 X)) else (fX9_append_76  (fX9_append_23  n) x1 x2 x3 x4 x5 x6 x3 X)) else (fX9_append_76  (fX9_append_23  n) x1 x2 x3 x4 x5 x6 x2 X)) else (fX9_append_76  (fX9_append_23  n) x1 x2 x3 x4 x5 x6 x1 X))
def fX9_append (a1 : Int32) (a2 : Int32) (a3 : Int32) (a4 : Int32) (a5 : Int32) (X : bsX) : Option (Int32 × bsX) := if (((bsWr X 14 0 0 0 (0 : Int32)) 14 0 0 7) + (20 : Int32)) ≤ (600 : Int32) then (fX9_append_23   bsF a1 a2 a3 a4 a5 (0 : Int32) (bsWr X 14 0 0 0 (0 : Int32))) else (some ((-1 : Int32), (bsWr X 14 0 0 0 (0 : Int32))))
abbrev rmX9_append : Room := { frames := 0, cells := 0, slots := 0, locals := 0 }
set_option maxHeartbeats 4000000 in
set_option maxRecDepth 100000 in
theorem wX9_append_76 {p : Program} {l : Launch} {e : Env} {s : State} {m : MethodId} {args : Array Value} {below : List Frame} {meth : Method} {c : Code} {ρ : bsR} {cA : Nat → ClassId} {dC : Nat → ClassId} {dI : Nat → Nat → Nat} {Rz : va_W} {Ts : List Cond}  (k23 : Int32 → Int32 → Int32 → Int32 → Int32 → Int32 → bsX → Option (Int32 × bsX))  {z : (Int32 × bsX)} (C : bsCx p m c cX9_append 8 s args Ts RX9 ρ cA dC dI Rz meth (some .int)) (hk23 : ∀ (x1 : Int32) (x2 : Int32) (x3 : Int32) (x4 : Int32) (x5 : Int32) (x6 : Int32) (X : bsX), k23 x1 x2 x3 x4 x5 x6 X = some z → bsV p l e rmX9_append s m args below meth c 0 0 (MQ below (bsQi ρ cA dC dI Rz z s.heap.size) args s 0 0 (bsA ρ cA Rz s.heap.size)) ρ cA dC dI Rz 8 23 [(0, .ref (ρ 14 0 0)), (1, .int x1), (2, .int x2), (3, .int x3), (4, .int x4), (5, .int x5), (6, .int x6)] [] X)  (x1 : Int32) (x2 : Int32) (x3 : Int32) (x4 : Int32) (x5 : Int32) (x6 : Int32) (y0 : Int32) (X : bsX) (hf : fX9_append_76 k23 x1 x2 x3 x4 x5 x6 y0 X = some z) : bsV p l e rmX9_append s m args below meth c 0 0 (MQ below (bsQi ρ cA dC dI Rz z s.heap.size) args s 0 0 (bsA ρ cA Rz s.heap.size)) ρ cA dC dI Rz 8 76 [(0, .ref (ρ 14 0 0)), (1, .int x1), (2, .int x2), (3, .int x3), (4, .int x4), (5, .int x5), (6, .int x6)] [.int y0] X := by
  rw [fX9_append_76] at hf
  refine v_istore (lv' := [(7, .int y0), (0, .ref (ρ 14 0 0)), (1, .int x1), (2, .int x2), (3, .int x3), (4, .int x4), (5, .int x5), (6, .int x6)]) C dX9_append_76 (by decide) rfl ?_
  refine v_aload_n C dX9_append_78 rfl rfl ?_
  refine gf_X9_20 C dX9_append_79 ?_
  refine v_aload_n C dX9_append_82 rfl rfl ?_
  refine gf_X9_136 C dX9_append_83 ?_
  refine v_iload C dX9_append_86 rfl ?_
  refine v_iadd C dX9_append_88 ?_
  refine v_iload C dX9_append_89 rfl ?_
  refine v_bipush (v := 24) C dX9_append_91 (by decide) ?_
  refine v_bipush (v := 8) C dX9_append_93 (by decide) ?_
  refine v_iload C dX9_append_95 rfl ?_
  refine v_iconst (v := 4) C dX9_append_97 (by decide) ?_
  refine v_irem C dX9_append_98 (by decide) ?_
  refine v_imul C dX9_append_99 ?_
  refine v_isub C dX9_append_100 ?_
  refine v_ishr C dX9_append_101 ?_
  refine v_sipush (v := 255) C dX9_append_102 (by decide) ?_
  refine v_iand C dX9_append_105 ?_
  obtain ⟨hi1, hf⟩ := bs_if hf
  refine v_iast (n := 600) C bsm_14_4 (fun _ => bsc_14_4) hi1 dX9_append_106 ?_
  refine v_iinc (k0 := 7) (v := (x6 + (1 : Int32))) (lv' := [(6, .int (x6 + (1 : Int32))), (7, .int y0), (0, .ref (ρ 14 0 0)), (1, .int x1), (2, .int x2), (3, .int x3), (4, .int x4), (5, .int x5)]) C dX9_append_107 rfl rfl (by decide) rfl ?_
  refine v_goto (tgt := 23) C dX9_append_110 (by decide) ?_
  refine v_sub [2, 3, 4, 5, 6, 7, 0] rfl ?_
  exact hk23 _ _ _ _ _ _ _  hf
set_option maxHeartbeats 4000000 in
set_option maxRecDepth 100000 in
theorem wX9_append_23 {p : Program} {l : Launch} {e : Env} {s : State} {m : MethodId} {args : Array Value} {below : List Frame} {meth : Method} {c : Code} {ρ : bsR} {cA : Nat → ClassId} {dC : Nat → ClassId} {dI : Nat → Nat → Nat} {Rz : va_W} {Ts : List Cond}   {z : (Int32 × bsX)} (C : bsCx p m c cX9_append 8 s args Ts RX9 ρ cA dC dI Rz meth (some .int)) : ∀ (n : Nat) (x1 : Int32) (x2 : Int32) (x3 : Int32) (x4 : Int32) (x5 : Int32) (x6 : Int32) (X : bsX), fX9_append_23  n x1 x2 x3 x4 x5 x6 X = some z → bsV p l e rmX9_append s m args below meth c 0 0 (MQ below (bsQi ρ cA dC dI Rz z s.heap.size) args s 0 0 (bsA ρ cA Rz s.heap.size)) ρ cA dC dI Rz 8 23 [(0, .ref (ρ 14 0 0)), (1, .int x1), (2, .int x2), (3, .int x3), (4, .int x4), (5, .int x5), (6, .int x6)] [] X := by
  intro n
  induction n with
  | zero => intro x1 x2 x3 x4 x5 x6 X hf; exact (nomatch hf)
  | succ n ih =>
    intro x1 x2 x3 x4 x5 x6 X hf
    rw [fX9_append_23] at hf
    refine v_iload C dX9_append_23 rfl ?_
    refine v_bipush (v := 20) C dX9_append_25 (by decide) ?_
    refine v_icmp_ge (tgt := 113) C dX9_append_27 (by decide) (fun h6 => ?_) (fun h6 => ?_)
    · replace hf := bs_pos h6 hf
      refine v_aload_n C dX9_append_113 rfl rfl ?_
      refine v_dup C dX9_append_114 rfl ?_
      refine gf_X9_136 C dX9_append_115 ?_
      refine v_bipush (v := 20) C dX9_append_118 (by decide) ?_
      refine v_iadd C dX9_append_120 ?_
      refine pf_X9_136 C dX9_append_121 ?_
      refine v_aload_n C dX9_append_124 rfl rfl ?_
      refine gf_X9_136 C dX9_append_125 ?_
      exact v_iret C hf dX9_append_128
    · replace hf := bs_neg h6 hf
      refine v_iload C dX9_append_30 rfl ?_
      refine v_iconst (v := 4) C dX9_append_32 (by decide) ?_
      refine v_icmp_ge (tgt := 40) C dX9_append_33 (by decide) (fun h5 => ?_) (fun h5 => ?_)
      · replace hf := bs_pos h5 hf
        refine v_iload C dX9_append_40 rfl ?_
        refine v_bipush (v := 8) C dX9_append_42 (by decide) ?_
        refine v_icmp_ge (tgt := 51) C dX9_append_44 (by decide) (fun h4 => ?_) (fun h4 => ?_)
        · replace hf := bs_pos h4 hf
          refine v_iload C dX9_append_51 rfl ?_
          refine v_bipush (v := 12) C dX9_append_53 (by decide) ?_
          refine v_icmp_ge (tgt := 62) C dX9_append_55 (by decide) (fun h3 => ?_) (fun h3 => ?_)
          · replace hf := bs_pos h3 hf
            refine v_iload C dX9_append_62 rfl ?_
            refine v_bipush (v := 16) C dX9_append_64 (by decide) ?_
            refine v_icmp_ge (tgt := 74) C dX9_append_66 (by decide) (fun h2 => ?_) (fun h2 => ?_)
            · replace hf := bs_pos h2 hf
              refine v_iload C dX9_append_74 rfl ?_
              refine v_sub [0, 1, 2, 3, 4, 5, 6] rfl ?_
              exact wX9_append_76  (fX9_append_23  n) C (fun b0 b1 b2 b3 b4 b5 X  h => ih b0 b1 b2 b3 b4 b5 X  h) _ _ _ _ _ _ _ _  hf
            · replace hf := bs_neg h2 hf
              refine v_iload C dX9_append_69 rfl ?_
              refine v_goto (tgt := 76) C dX9_append_71 (by decide) ?_
              refine v_sub [0, 1, 2, 3, 4, 5, 6] rfl ?_
              exact wX9_append_76  (fX9_append_23  n) C (fun b0 b1 b2 b3 b4 b5 X  h => ih b0 b1 b2 b3 b4 b5 X  h) _ _ _ _ _ _ _ _  hf
          · replace hf := bs_neg h3 hf
            refine v_iload_n C dX9_append_58 rfl rfl ?_
            refine v_goto (tgt := 76) C dX9_append_59 (by decide) ?_
            refine v_sub [0, 1, 2, 3, 4, 5, 6] rfl ?_
            exact wX9_append_76  (fX9_append_23  n) C (fun b0 b1 b2 b3 b4 b5 X  h => ih b0 b1 b2 b3 b4 b5 X  h) _ _ _ _ _ _ _ _  hf
        · replace hf := bs_neg h4 hf
          refine v_iload_n C dX9_append_47 rfl rfl ?_
          refine v_goto (tgt := 76) C dX9_append_48 (by decide) ?_
          refine v_sub [0, 1, 2, 3, 4, 5, 6] rfl ?_
          exact wX9_append_76  (fX9_append_23  n) C (fun b0 b1 b2 b3 b4 b5 X  h => ih b0 b1 b2 b3 b4 b5 X  h) _ _ _ _ _ _ _ _  hf
      · replace hf := bs_neg h5 hf
        refine v_iload_n C dX9_append_36 rfl rfl ?_
        refine v_goto (tgt := 76) C dX9_append_37 (by decide) ?_
        refine v_sub [0, 1, 2, 3, 4, 5, 6] rfl ?_
        exact wX9_append_76  (fX9_append_23  n) C (fun b0 b1 b2 b3 b4 b5 X  h => ih b0 b1 b2 b3 b4 b5 X  h) _ _ _ _ _ _ _ _  hf
set_option maxHeartbeats 4000000 in
set_option maxRecDepth 100000 in
theorem cX9_append_ok {l : Launch} {ρ : bsR} {cA : Nat → ClassId} {dC : Nat → ClassId} {dI : Nat → Nat → Nat} {Rz : va_W}  {a1 : Int32} {a2 : Int32} {a3 : Int32} {a4 : Int32} {a5 : Int32} {X : bsX} {z : (Int32 × bsX)} (hf : fX9_append a1 a2 a3 a4 a5 X = some z) : bsMi l yX9_append cX9_append 8 (some .int) rmX9_append ρ cA dC dI Rz [.ref (ρ 14 0 0), .int a1, .int a2, .int a3, .int a4, .int a5] X z := by
  refine bsMi_of (by decide) (Nat.le_of_ble_eq_true rfl) (fun p e s m args below meth c C => ?_)
  have C : bsCx p m c cX9_append 8 s args (Cond.code yX9_append cX9_append 8 (some .int) :: bsG) RX9 ρ cA dC dI Rz meth (some .int) := C
  rw [fX9_append] at hf
  refine v_sub [0, 1, 2, 3, 4, 5] rfl ?_
  refine v_aload_n C dX9_append_0 rfl rfl ?_
  refine v_iconst (v := 0) C dX9_append_1 (by decide) ?_
  refine pf_X9_33 C dX9_append_2 ?_
  refine v_aload_n C dX9_append_5 rfl rfl ?_
  refine gf_X9_136 C dX9_append_6 ?_
  refine v_bipush (v := 20) C dX9_append_9 (by decide) ?_
  refine v_iadd C dX9_append_11 ?_
  refine v_sipush (v := 600) C dX9_append_12 (by decide) ?_
  refine v_icmp_le (tgt := 20) C dX9_append_15 (by decide) (fun h7 => ?_) (fun h7 => ?_)
  · replace hf := bs_pos h7 hf
    refine v_iconst (v := 0) C dX9_append_20 (by decide) ?_
    refine v_istore (lv' := [(6, .int (0 : Int32)), (0, .ref (ρ 14 0 0)), (1, .int a1), (2, .int a2), (3, .int a3), (4, .int a4), (5, .int a5)]) C dX9_append_21 (by decide) rfl ?_
    refine v_sub [1, 2, 3, 4, 5, 6, 0] rfl ?_
    exact wX9_append_23   C  bsF _ _ _ _ _ _ _  hf
  · replace hf := bs_neg h7 hf
    refine v_iconst (v := -1) C dX9_append_18 (by decide) ?_
    exact v_iret C hf dX9_append_19
