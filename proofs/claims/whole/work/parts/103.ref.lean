theorem ml_X9_315 : Cond.methodLink RX9 315 yX9_becomesGood ∈ bsG := bsG_in 1916 (by decide +kernel) rfl
theorem ml_X9_318 : Cond.methodLink RX9 318 yX9_rescueWithout ∈ bsG := bsG_in 1932 (by decide +kernel) rfl
theorem ml_X9_324 : Cond.methodLink RX9 324 yX9_says ∈ bsG := bsG_in 1948 (by decide +kernel) rfl
theorem ml_X9_327 : Cond.methodLink RX9 327 yX9_saysNumber ∈ bsG := bsG_in 1956 (by decide +kernel) rfl
theorem ml_X9_330 : Cond.methodLink RX9 330 yX9_saysSlot ∈ bsG := bsG_in 1952 (by decide +kernel) rfl
theorem ml_X9_337 : Cond.methodLink RX9 337 yX9_saysWord ∈ bsG := bsG_in 1969 (by decide +kernel) rfl
theorem ml_X9_341 : Cond.methodLink RX9 341 yX9_saysField ∈ bsG := bsG_in 1973 (by decide +kernel) rfl
theorem ml_X9_354 : Cond.methodLink RX9 354 yX9_saysImage ∈ bsG := bsG_in 1978 (by decide +kernel) rfl
theorem ml_X9_357 : Cond.methodLink RX9 357 yX9_keepsAll ∈ bsG := bsG_in 1995 (by decide +kernel) rfl
theorem ml_X9_360 : Cond.methodLink RX9 360 yX9_areNumbers ∈ bsG := bsG_in 2015 (by decide +kernel) rfl
theorem dpX9_areNumbers : (parseMethodDescriptor yX9_areNumbers.desc).map (fun d => d.parameters.length) = some 4 := by decide +kernel
theorem wzX9_areNumbers : bsWz yX9_areNumbers cX9_areNumbers 4 (some .boolean) := ⟨bsG_in 2016 (by decide +kernel) rfl, bsG_in 111 (by decide +kernel) rfl, bsG_in 2017 (by decide +kernel) rfl, by decide +kernel, by decide +kernel⟩
theorem dpX9_becomesGood : (parseMethodDescriptor yX9_becomesGood.desc).map (fun d => d.parameters.length) = some 1 := by decide +kernel
theorem wyX9_becomesGood : bsWy yX9_becomesGood cX9_becomesGood 3 (some .boolean) := ⟨bsG_in 1918 (by decide +kernel) rfl, bsG_in 92 (by decide +kernel) rfl, bsG_in 111 (by decide +kernel) rfl, bsG_in 1919 (by decide +kernel) rfl, by decide +kernel, by decide +kernel⟩
theorem dpX9_keepsAll : (parseMethodDescriptor yX9_keepsAll.desc).map (fun d => d.parameters.length) = some 0 := by decide +kernel
theorem wyX9_keepsAll : bsWy yX9_keepsAll cX9_keepsAll 2 none := ⟨bsG_in 1997 (by decide +kernel) rfl, bsG_in 100 (by decide +kernel) rfl, bsG_in 111 (by decide +kernel) rfl, bsG_in 1998 (by decide +kernel) rfl, by decide +kernel, by decide +kernel⟩
theorem dpX9_rescueWithout : (parseMethodDescriptor yX9_rescueWithout.desc).map (fun d => d.parameters.length) = some 1 := by decide +kernel
theorem wyX9_rescueWithout : bsWy yX9_rescueWithout cX9_rescueWithout 3 (some .int) := ⟨bsG_in 1934 (by decide +kernel) rfl, bsG_in 93 (by decide +kernel) rfl, bsG_in 111 (by decide +kernel) rfl, bsG_in 1935 (by decide +kernel) rfl, by decide +kernel, by decide +kernel⟩
theorem dpX9_says : (parseMethodDescriptor yX9_says.desc).map (fun d => d.parameters.length) = some 1 := by decide +kernel
theorem wyX9_says : bsWy yX9_says cX9_says 2 none := ⟨bsG_in 1950 (by decide +kernel) rfl, bsG_in 94 (by decide +kernel) rfl, bsG_in 111 (by decide +kernel) rfl, bsG_in 1951 (by decide +kernel) rfl, by decide +kernel, by decide +kernel⟩
theorem dpX9_saysField : (parseMethodDescriptor yX9_saysField.desc).map (fun d => d.parameters.length) = some 1 := by decide +kernel
theorem wyX9_saysField : bsWy yX9_saysField cX9_saysField 2 none := ⟨bsG_in 1975 (by decide +kernel) rfl, bsG_in 98 (by decide +kernel) rfl, bsG_in 111 (by decide +kernel) rfl, bsG_in 1976 (by decide +kernel) rfl, by decide +kernel, by decide +kernel⟩
theorem dpX9_saysImage : (parseMethodDescriptor yX9_saysImage.desc).map (fun d => d.parameters.length) = some 1 := by decide +kernel
theorem wyX9_saysImage : bsWy yX9_saysImage cX9_saysImage 2 none := ⟨bsG_in 1980 (by decide +kernel) rfl, bsG_in 99 (by decide +kernel) rfl, bsG_in 111 (by decide +kernel) rfl, bsG_in 1981 (by decide +kernel) rfl, by decide +kernel, by decide +kernel⟩
theorem dpX9_saysNumber : (parseMethodDescriptor yX9_saysNumber.desc).map (fun d => d.parameters.length) = some 1 := by decide +kernel
theorem wyX9_saysNumber : bsWy yX9_saysNumber cX9_saysNumber 3 none := ⟨bsG_in 1958 (by decide +kernel) rfl, bsG_in 96 (by decide +kernel) rfl, bsG_in 111 (by decide +kernel) rfl, bsG_in 1959 (by decide +kernel) rfl, by decide +kernel, by decide +kernel⟩
theorem dpX9_saysSlot : (parseMethodDescriptor yX9_saysSlot.desc).map (fun d => d.parameters.length) = some 1 := by decide +kernel
theorem wyX9_saysSlot : bsWy yX9_saysSlot cX9_saysSlot 2 none := ⟨bsG_in 1954 (by decide +kernel) rfl, bsG_in 95 (by decide +kernel) rfl, bsG_in 111 (by decide +kernel) rfl, bsG_in 1955 (by decide +kernel) rfl, by decide +kernel, by decide +kernel⟩
theorem dpX9_saysWord : (parseMethodDescriptor yX9_saysWord.desc).map (fun d => d.parameters.length) = some 1 := by decide +kernel
theorem wyX9_saysWord : bsWy yX9_saysWord cX9_saysWord 3 none := ⟨bsG_in 1971 (by decide +kernel) rfl, bsG_in 97 (by decide +kernel) rfl, bsG_in 111 (by decide +kernel) rfl, bsG_in 1972 (by decide +kernel) rfl, by decide +kernel, by decide +kernel⟩
/-! BootSlotsModel.settlesOn()I -/
def fX9_settlesOn (X : bsX) : Option (Int32 × bsX) := (fX9_notLoaded   X).bind fun r1 => if r1.1 = 0 then ((fX9_laysAside   r1.2).bind fun r3 => (fX9_settles   r3).bind fun r5 => (fX9_back  r5.1 r5.2).bind fun r7 => some (r7.1, r7.2)) else (some ((0 : Int32), r1.2))
abbrev rmX9_settlesOn : Room := { frames := 11, cells := 0, slots := 0, locals := 237 }
set_option maxHeartbeats 4000000 in
set_option maxRecDepth 100000 in
theorem cX9_settlesOn_ok {l : Launch} {ρ : bsR} {cA : Nat → ClassId} {dC : Nat → ClassId} {dI : Nat → Nat → Nat} {Rz : va_W}  {X : bsX} {z : (Int32 × bsX)} (hf : fX9_settlesOn  X = some z) : bsMi l yX9_settlesOn cX9_settlesOn 1 (some .int) rmX9_settlesOn ρ cA dC dI Rz [.ref (ρ 14 0 0)] X z := by
  refine bsMi_of (by decide) (Nat.le_of_ble_eq_true rfl) (fun p e s m args below meth c C => ?_)
  have C : bsCx p m c cX9_settlesOn 1 s args (Cond.code yX9_settlesOn cX9_settlesOn 1 (some .int) :: bsG) RX9 ρ cA dC dI Rz meth (some .int) := C
  rw [fX9_settlesOn] at hf
  refine v_sub [0] rfl ?_
  refine v_aload_n C dX9_settlesOn_0 rfl rfl ?_
  obtain ⟨r1, hc2, hf⟩ := bs_bind hf
  refine v_callVi (y := yX9_notLoaded) (As := []) (rest := []) C (cX9_notLoaded_ok  hc2) ml_X9_48 wyX9_notLoaded (bsm_X9) (bsc_X9) rfl dpX9_notLoaded ⟨Nat.le_of_ble_eq_true rfl, Nat.le_of_ble_eq_true rfl⟩ ⟨rfl, rfl⟩ ⟨Nat.le_of_ble_eq_true rfl, Nat.le_of_ble_eq_true rfl⟩ rfl (Nat.le_of_ble_eq_true rfl) dX9_settlesOn_1 ?_
  refine v_if_eq (tgt := 9) C dX9_settlesOn_4 (by decide) (fun h9 => ?_) (fun h9 => ?_)
  · replace hf := bs_pos h9 hf
    refine v_aload_n C dX9_settlesOn_9 rfl rfl ?_
    obtain ⟨r3, hc4, hf⟩ := bs_bind hf
    refine v_callVv (y := yX9_laysAside) (As := []) (rest := []) C (cX9_laysAside_ok  hc4) ml_X9_280 wyX9_laysAside (bsm_X9) (bsc_X9) rfl dpX9_laysAside ⟨Nat.le_of_ble_eq_true rfl, Nat.le_of_ble_eq_true rfl⟩ ⟨rfl, rfl⟩ ⟨Nat.le_of_ble_eq_true rfl, Nat.le_of_ble_eq_true rfl⟩ rfl (Nat.le_of_ble_eq_true rfl) dX9_settlesOn_10 ?_
    refine v_aload_n C dX9_settlesOn_13 rfl rfl ?_
    refine v_aload_n C dX9_settlesOn_14 rfl rfl ?_
    obtain ⟨r5, hc6, hf⟩ := bs_bind hf
    refine v_callVi (y := yX9_settles) (As := []) (rest := [.ref (ρ 14 0 0)]) C (cX9_settles_ok  hc6) ml_X9_312 wyX9_settles (bsm_X9) (bsc_X9) rfl dpX9_settles ⟨Nat.le_of_ble_eq_true rfl, Nat.le_of_ble_eq_true rfl⟩ ⟨rfl, rfl⟩ ⟨Nat.le_of_ble_eq_true rfl, Nat.le_of_ble_eq_true rfl⟩ rfl (Nat.le_of_ble_eq_true rfl) dX9_settlesOn_15 ?_
    obtain ⟨r7, hc8, hf⟩ := bs_bind hf
    refine v_callVi (y := yX9_back) (As := [.int r5.1]) (rest := []) C (cX9_back_ok  hc8) ml_X9_286 wyX9_back (bsm_X9) (bsc_X9) rfl dpX9_back ⟨Nat.le_of_ble_eq_true rfl, Nat.le_of_ble_eq_true rfl⟩ ⟨rfl, rfl⟩ ⟨Nat.le_of_ble_eq_true rfl, Nat.le_of_ble_eq_true rfl⟩ rfl (Nat.le_of_ble_eq_true rfl) dX9_settlesOn_18 ?_
    exact v_iret C hf dX9_settlesOn_21
  · replace hf := bs_neg h9 hf
    refine v_iconst (v := 0) C dX9_settlesOn_7 (by decide) ?_
    exact v_iret C hf dX9_settlesOn_8
/-! BootSlotsModel.settlesWithout(I)I -/
def fX9_settlesWithout (a1 : Int32) (X : bsX) : Option (Int32 × bsX) := (fX9_noSlot  a1 X).bind fun r1 => if r1.1 = 0 then ((fX9_laysAside   r1.2).bind fun r3 => (fX9_empties  a1 r3).bind fun r5 => (fX9_noInstall   r5).bind fun r7 => (fX9_settles   r7).bind fun r9 => (fX9_back  r9.1 r9.2).bind fun r11 => some (r11.1, r11.2)) else (some ((0 : Int32), r1.2))
abbrev rmX9_settlesWithout : Room := { frames := 11, cells := 0, slots := 0, locals := 237 }
set_option maxHeartbeats 4000000 in
set_option maxRecDepth 100000 in
theorem cX9_settlesWithout_ok {l : Launch} {ρ : bsR} {cA : Nat → ClassId} {dC : Nat → ClassId} {dI : Nat → Nat → Nat} {Rz : va_W}  {a1 : Int32} {X : bsX} {z : (Int32 × bsX)} (hf : fX9_settlesWithout a1 X = some z) : bsMi l yX9_settlesWithout cX9_settlesWithout 2 (some .int) rmX9_settlesWithout ρ cA dC dI Rz [.ref (ρ 14 0 0), .int a1] X z := by
  refine bsMi_of (by decide) (Nat.le_of_ble_eq_true rfl) (fun p e s m args below meth c C => ?_)
  have C : bsCx p m c cX9_settlesWithout 2 s args (Cond.code yX9_settlesWithout cX9_settlesWithout 2 (some .int) :: bsG) RX9 ρ cA dC dI Rz meth (some .int) := C
  rw [fX9_settlesWithout] at hf
  refine v_sub [0, 1] rfl ?_
  refine v_aload_n C dX9_settlesWithout_0 rfl rfl ?_
  refine v_iload_n C dX9_settlesWithout_1 rfl rfl ?_
  obtain ⟨r1, hc2, hf⟩ := bs_bind hf
  refine v_callVi (y := yX9_noSlot) (As := [.int a1]) (rest := []) C (cX9_noSlot_ok  hc2) ml_X9_260 wyX9_noSlot (bsm_X9) (bsc_X9) rfl dpX9_noSlot ⟨Nat.le_of_ble_eq_true rfl, Nat.le_of_ble_eq_true rfl⟩ ⟨rfl, rfl⟩ ⟨Nat.le_of_ble_eq_true rfl, Nat.le_of_ble_eq_true rfl⟩ rfl (Nat.le_of_ble_eq_true rfl) dX9_settlesWithout_2 ?_
  refine v_if_eq (tgt := 10) C dX9_settlesWithout_5 (by decide) (fun h13 => ?_) (fun h13 => ?_)
  · replace hf := bs_pos h13 hf
    refine v_aload_n C dX9_settlesWithout_10 rfl rfl ?_
    obtain ⟨r3, hc4, hf⟩ := bs_bind hf
    refine v_callVv (y := yX9_laysAside) (As := []) (rest := []) C (cX9_laysAside_ok  hc4) ml_X9_280 wyX9_laysAside (bsm_X9) (bsc_X9) rfl dpX9_laysAside ⟨Nat.le_of_ble_eq_true rfl, Nat.le_of_ble_eq_true rfl⟩ ⟨rfl, rfl⟩ ⟨Nat.le_of_ble_eq_true rfl, Nat.le_of_ble_eq_true rfl⟩ rfl (Nat.le_of_ble_eq_true rfl) dX9_settlesWithout_11 ?_
    refine v_aload_n C dX9_settlesWithout_14 rfl rfl ?_
    refine v_iload_n C dX9_settlesWithout_15 rfl rfl ?_
    obtain ⟨r5, hc6, hf⟩ := bs_bind hf
    refine v_callVv (y := yX9_empties) (As := [.int a1]) (rest := []) C (cX9_empties_ok  hc6) ml_X9_309 wyX9_empties (bsm_X9) (bsc_X9) rfl dpX9_empties ⟨Nat.le_of_ble_eq_true rfl, Nat.le_of_ble_eq_true rfl⟩ ⟨rfl, rfl⟩ ⟨Nat.le_of_ble_eq_true rfl, Nat.le_of_ble_eq_true rfl⟩ rfl (Nat.le_of_ble_eq_true rfl) dX9_settlesWithout_16 ?_
    refine v_aload_n C dX9_settlesWithout_19 rfl rfl ?_
    obtain ⟨r7, hc8, hf⟩ := bs_bind hf
    refine v_callVv (y := yX9_noInstall) (As := []) (rest := []) C (cX9_noInstall_ok  hc8) ml_X9_121 wyX9_noInstall (bsm_X9) (bsc_X9) rfl dpX9_noInstall ⟨Nat.le_of_ble_eq_true rfl, Nat.le_of_ble_eq_true rfl⟩ ⟨rfl, rfl⟩ ⟨Nat.le_of_ble_eq_true rfl, Nat.le_of_ble_eq_true rfl⟩ rfl (Nat.le_of_ble_eq_true rfl) dX9_settlesWithout_20 ?_
    refine v_aload_n C dX9_settlesWithout_23 rfl rfl ?_
    refine v_aload_n C dX9_settlesWithout_24 rfl rfl ?_
    obtain ⟨r9, hc10, hf⟩ := bs_bind hf
    refine v_callVi (y := yX9_settles) (As := []) (rest := [.ref (ρ 14 0 0)]) C (cX9_settles_ok  hc10) ml_X9_312 wyX9_settles (bsm_X9) (bsc_X9) rfl dpX9_settles ⟨Nat.le_of_ble_eq_true rfl, Nat.le_of_ble_eq_true rfl⟩ ⟨rfl, rfl⟩ ⟨Nat.le_of_ble_eq_true rfl, Nat.le_of_ble_eq_true rfl⟩ rfl (Nat.le_of_ble_eq_true rfl) dX9_settlesWithout_25 ?_
    obtain ⟨r11, hc12, hf⟩ := bs_bind hf
    refine v_callVi (y := yX9_back) (As := [.int r9.1]) (rest := []) C (cX9_back_ok  hc12) ml_X9_286 wyX9_back (bsm_X9) (bsc_X9) rfl dpX9_back ⟨Nat.le_of_ble_eq_true rfl, Nat.le_of_ble_eq_true rfl⟩ ⟨rfl, rfl⟩ ⟨Nat.le_of_ble_eq_true rfl, Nat.le_of_ble_eq_true rfl⟩ rfl (Nat.le_of_ble_eq_true rfl) dX9_settlesWithout_28 ?_
    exact v_iret C hf dX9_settlesWithout_31
  · replace hf := bs_neg h13 hf
    refine v_iconst (v := 0) C dX9_settlesWithout_8 (by decide) ?_
    exact v_iret C hf dX9_settlesWithout_9
/-! BootSlotsModel.becomesGood(I)Z -/
def fX9_becomesGood (a1 : Int32) (X : bsX) : Option (Int32 × bsX) := (fX9_boots  (1 : Int32) X).bind fun r1 => (fX9_goodNow  a1 r1.2).bind fun r3 => if r3.1 = (-1 : Int32) then (some ((0 : Int32), r3.2)) else (some ((1 : Int32), r3.2))
abbrev rmX9_becomesGood : Room := { frames := 10, cells := 0, slots := 0, locals := 216 }
set_option maxHeartbeats 4000000 in
set_option maxRecDepth 100000 in
theorem cX9_becomesGood_ok {l : Launch} {ρ : bsR} {cA : Nat → ClassId} {dC : Nat → ClassId} {dI : Nat → Nat → Nat} {Rz : va_W}  {a1 : Int32} {X : bsX} {z : (Int32 × bsX)} (hf : fX9_becomesGood a1 X = some z) : bsMi l yX9_becomesGood cX9_becomesGood 3 (some .boolean) rmX9_becomesGood ρ cA dC dI Rz [.ref (ρ 14 0 0), .int a1] X z := by
  refine bsMi_of (by decide) (Nat.le_of_ble_eq_true rfl) (fun p e s m args below meth c C => ?_)
  have C : bsCx p m c cX9_becomesGood 3 s args (Cond.code yX9_becomesGood cX9_becomesGood 3 (some .boolean) :: bsG) RX9 ρ cA dC dI Rz meth (some .boolean) := C
  rw [fX9_becomesGood] at hf
  refine v_sub [0, 1] rfl ?_
  refine v_aload_n C dX9_becomesGood_0 rfl rfl ?_
  refine v_iconst (v := 1) C dX9_becomesGood_1 (by decide) ?_
  obtain ⟨r1, hc2, hf⟩ := bs_bind hf
  refine v_callVi (y := yX9_boots) (As := [.int (1 : Int32)]) (rest := []) C (cX9_boots_ok  hc2) ml_X9_92 wyX9_boots (bsm_X9) (bsc_X9) rfl dpX9_boots ⟨Nat.le_of_ble_eq_true rfl, Nat.le_of_ble_eq_true rfl⟩ ⟨rfl, rfl⟩ ⟨Nat.le_of_ble_eq_true rfl, Nat.le_of_ble_eq_true rfl⟩ rfl (Nat.le_of_ble_eq_true rfl) dX9_becomesGood_2 ?_
  refine v_istore_n (lv' := [(2, .int r1.1), (0, .ref (ρ 14 0 0)), (1, .int a1)]) C dX9_becomesGood_5 rfl (by decide) rfl ?_
  refine v_aload_n C dX9_becomesGood_6 rfl rfl ?_
  refine v_iload_n C dX9_becomesGood_7 rfl rfl ?_
  obtain ⟨r3, hc4, hf⟩ := bs_bind hf
  refine v_callVi (y := yX9_goodNow) (As := [.int a1]) (rest := []) C (cX9_goodNow_ok  hc4) ml_X9_298 wyX9_goodNow (bsm_X9) (bsc_X9) rfl dpX9_goodNow ⟨Nat.le_of_ble_eq_true rfl, Nat.le_of_ble_eq_true rfl⟩ ⟨rfl, rfl⟩ ⟨Nat.le_of_ble_eq_true rfl, Nat.le_of_ble_eq_true rfl⟩ rfl (Nat.le_of_ble_eq_true rfl) dX9_becomesGood_8 ?_
  refine v_iconst (v := -1) C dX9_becomesGood_11 (by decide) ?_
  refine v_icmp_eq (tgt := 19) C dX9_becomesGood_12 (by decide) (fun h5 => ?_) (fun h5 => ?_)
  · replace hf := bs_pos h5 hf
    refine v_iconst (v := 0) C dX9_becomesGood_19 (by decide) ?_
    exact v_zret C (bsZ01 (by decide)).1 hf dX9_becomesGood_20
  · replace hf := bs_neg h5 hf
    refine v_iconst (v := 1) C dX9_becomesGood_15 (by decide) ?_
    refine v_goto (tgt := 20) C dX9_becomesGood_16 (by decide) ?_
    exact v_zret C (bsZ01 (by decide)).1 hf dX9_becomesGood_20
/-! BootSlotsModel.triesFor(I)I -/
def fX9_triesFor_22 : Nat → Int32 → Int32 → bsX → Option (Int32 × bsX)
  | 0, _, _, _ => none
  | n + 1, x1, x2, X => if (7 : Int32) < x2 then (some ((-1 : Int32), X)) else ((fX9_laysAside   X).bind fun r1 => (fX9_puts  x1 (2 : Int32) x2 r1).bind fun r3 => (fX9_becomesGood  x1 r3).bind fun r5 => (fX9_flag  r5.1 r5.2).bind fun r7 => (fX9_back  r7.1 r7.2).bind fun r9 => if r9.1 = (1 : Int32) then (some (x2, r9.2)) else (fX9_triesFor_22 n x1 (x2 + (1 : Int32)) r9.2))
def fX9_triesFor (a1 : Int32) (X : bsX) : Option (Int32 × bsX) := (fX9_noSlot  a1 X).bind fun r13 => if r13.1 = 0 then ((fX9_has  a1 r13.2).bind fun r15 => if r15.1 = 0 then (some ((-1 : Int32), r15.2)) else (fX9_triesFor_22   bsF a1 (0 : Int32) r15.2)) else (some ((0 : Int32), r13.2))
abbrev rmX9_triesFor : Room := { frames := 11, cells := 0, slots := 0, locals := 238 }
set_option maxHeartbeats 4000000 in
set_option maxRecDepth 100000 in
theorem wX9_triesFor_22 {p : Program} {l : Launch} {e : Env} {s : State} {m : MethodId} {args : Array Value} {below : List Frame} {meth : Method} {c : Code} {ρ : bsR} {cA : Nat → ClassId} {dC : Nat → ClassId} {dI : Nat → Nat → Nat} {Rz : va_W} {Ts : List Cond}   {z : (Int32 × bsX)} (C : bsCx p m c cX9_triesFor 3 s args Ts RX9 ρ cA dC dI Rz meth (some .int)) : ∀ (n : Nat) (x1 : Int32) (x2 : Int32) (X : bsX), fX9_triesFor_22  n x1 x2 X = some z → bsV p l e rmX9_triesFor s m args below meth c 0 0 (MQ below (bsQi ρ cA dC dI Rz z s.heap.size) args s 0 0 (bsA ρ cA Rz s.heap.size)) ρ cA dC dI Rz 3 22 [(0, .ref (ρ 14 0 0)), (1, .int x1), (2, .int x2)] [] X := by
  intro n
  induction n with
  | zero => intro x1 x2 X hf; exact (nomatch hf)
  | succ n ih =>
    intro x1 x2 X hf
    rw [fX9_triesFor_22] at hf
    refine v_iload_n C dX9_triesFor_22 rfl rfl ?_
    refine v_bipush (v := 7) C dX9_triesFor_23 (by decide) ?_
    refine v_icmp_gt (tgt := 63) C dX9_triesFor_25 (by decide) (fun h12 => ?_) (fun h12 => ?_)
    · replace hf := bs_pos h12 hf
      refine v_iconst (v := -1) C dX9_triesFor_63 (by decide) ?_
      exact v_iret C hf dX9_triesFor_64
    · replace hf := bs_neg h12 hf
      refine v_aload_n C dX9_triesFor_28 rfl rfl ?_
      obtain ⟨r1, hc2, hf⟩ := bs_bind hf
      refine v_callVv (y := yX9_laysAside) (As := []) (rest := []) C (cX9_laysAside_ok  hc2) ml_X9_280 wyX9_laysAside (bsm_X9) (bsc_X9) rfl dpX9_laysAside ⟨Nat.le_of_ble_eq_true rfl, Nat.le_of_ble_eq_true rfl⟩ ⟨rfl, rfl⟩ ⟨Nat.le_of_ble_eq_true rfl, Nat.le_of_ble_eq_true rfl⟩ rfl (Nat.le_of_ble_eq_true rfl) dX9_triesFor_29 ?_
      refine v_aload_n C dX9_triesFor_32 rfl rfl ?_
      refine v_iload_n C dX9_triesFor_33 rfl rfl ?_
      refine v_iconst (v := 2) C dX9_triesFor_34 (by decide) ?_
      refine v_iload_n C dX9_triesFor_35 rfl rfl ?_
      obtain ⟨r3, hc4, hf⟩ := bs_bind hf
      refine v_callVv (y := yX9_puts) (As := [.int x1, .int (2 : Int32), .int x2]) (rest := []) C (cX9_puts_ok  hc4) ml_X9_77 wyX9_puts (bsm_X9) (bsc_X9) rfl dpX9_puts ⟨Nat.le_of_ble_eq_true rfl, Nat.le_of_ble_eq_true rfl⟩ ⟨rfl, rfl⟩ ⟨Nat.le_of_ble_eq_true rfl, Nat.le_of_ble_eq_true rfl⟩ rfl (Nat.le_of_ble_eq_true rfl) dX9_triesFor_36 ?_
      refine v_aload_n C dX9_triesFor_39 rfl rfl ?_
      refine v_aload_n C dX9_triesFor_40 rfl rfl ?_
      refine v_iload_n C dX9_triesFor_41 rfl rfl ?_
      obtain ⟨r5, hc6, hf⟩ := bs_bind hf
      refine v_callVi (y := yX9_becomesGood) (As := [.int x1]) (rest := [.ref (ρ 14 0 0)]) C (cX9_becomesGood_ok  hc6) ml_X9_315 wyX9_becomesGood (bsm_X9) (bsc_X9) rfl dpX9_becomesGood ⟨Nat.le_of_ble_eq_true rfl, Nat.le_of_ble_eq_true rfl⟩ ⟨rfl, rfl⟩ ⟨Nat.le_of_ble_eq_true rfl, Nat.le_of_ble_eq_true rfl⟩ rfl (Nat.le_of_ble_eq_true rfl) dX9_triesFor_42 ?_
      obtain ⟨r7, hc8, hf⟩ := bs_bind hf
      refine v_callSi (y := yX9_flag) (As := [.int r5.1]) (rest := [.ref (ρ 14 0 0)]) C (cX9_flag_ok  hc8) ml_X9_113 wzX9_flag dpX9_flag ⟨Nat.le_of_ble_eq_true rfl, Nat.le_of_ble_eq_true rfl⟩ ⟨rfl, rfl⟩ ⟨Nat.le_of_ble_eq_true rfl, Nat.le_of_ble_eq_true rfl⟩ rfl (Nat.le_of_ble_eq_true rfl) dX9_triesFor_45 ?_
      obtain ⟨r9, hc10, hf⟩ := bs_bind hf
      refine v_callVi (y := yX9_back) (As := [.int r7.1]) (rest := []) C (cX9_back_ok  hc10) ml_X9_286 wyX9_back (bsm_X9) (bsc_X9) rfl dpX9_back ⟨Nat.le_of_ble_eq_true rfl, Nat.le_of_ble_eq_true rfl⟩ ⟨rfl, rfl⟩ ⟨Nat.le_of_ble_eq_true rfl, Nat.le_of_ble_eq_true rfl⟩ rfl (Nat.le_of_ble_eq_true rfl) dX9_triesFor_48 ?_
      refine v_iconst (v := 1) C dX9_triesFor_51 (by decide) ?_
      refine v_icmp_ne (tgt := 57) C dX9_triesFor_52 (by decide) (fun h11 => ?_) (fun h11 => ?_)
      · replace hf := bs_neg h11 hf
        refine v_iinc (k0 := 2) (v := (x2 + (1 : Int32))) (lv' := [(2, .int (x2 + (1 : Int32))), (0, .ref (ρ 14 0 0)), (1, .int x1)]) C dX9_triesFor_57 rfl rfl (by decide) rfl ?_
        refine v_goto (tgt := 22) C dX9_triesFor_60 (by decide) ?_
        refine v_sub [1, 2, 0] rfl ?_
        exact ih _ _ _  hf
      · replace hf := bs_pos h11 hf
        refine v_iload_n C dX9_triesFor_55 rfl rfl ?_
        exact v_iret C hf dX9_triesFor_56
set_option maxHeartbeats 4000000 in
set_option maxRecDepth 100000 in
theorem cX9_triesFor_ok {l : Launch} {ρ : bsR} {cA : Nat → ClassId} {dC : Nat → ClassId} {dI : Nat → Nat → Nat} {Rz : va_W}  {a1 : Int32} {X : bsX} {z : (Int32 × bsX)} (hf : fX9_triesFor a1 X = some z) : bsMi l yX9_triesFor cX9_triesFor 3 (some .int) rmX9_triesFor ρ cA dC dI Rz [.ref (ρ 14 0 0), .int a1] X z := by
  refine bsMi_of (by decide) (Nat.le_of_ble_eq_true rfl) (fun p e s m args below meth c C => ?_)
  have C : bsCx p m c cX9_triesFor 3 s args (Cond.code yX9_triesFor cX9_triesFor 3 (some .int) :: bsG) RX9 ρ cA dC dI Rz meth (some .int) := C
  rw [fX9_triesFor] at hf
  refine v_sub [0, 1] rfl ?_
  refine v_aload_n C dX9_triesFor_0 rfl rfl ?_
  refine v_iload_n C dX9_triesFor_1 rfl rfl ?_
  obtain ⟨r13, hc14, hf⟩ := bs_bind hf
  refine v_callVi (y := yX9_noSlot) (As := [.int a1]) (rest := []) C (cX9_noSlot_ok  hc14) ml_X9_260 wyX9_noSlot (bsm_X9) (bsc_X9) rfl dpX9_noSlot ⟨Nat.le_of_ble_eq_true rfl, Nat.le_of_ble_eq_true rfl⟩ ⟨rfl, rfl⟩ ⟨Nat.le_of_ble_eq_true rfl, Nat.le_of_ble_eq_true rfl⟩ rfl (Nat.le_of_ble_eq_true rfl) dX9_triesFor_2 ?_
  refine v_if_eq (tgt := 10) C dX9_triesFor_5 (by decide) (fun h18 => ?_) (fun h18 => ?_)
  · replace hf := bs_pos h18 hf
    refine v_aload_n C dX9_triesFor_10 rfl rfl ?_
    refine v_iload_n C dX9_triesFor_11 rfl rfl ?_
    obtain ⟨r15, hc16, hf⟩ := bs_bind hf
    refine v_callVi (y := yX9_has) (As := [.int a1]) (rest := []) C (cX9_has_ok  hc16) ml_X9_60 wyX9_has (bsm_X9) (bsc_X9) rfl dpX9_has ⟨Nat.le_of_ble_eq_true rfl, Nat.le_of_ble_eq_true rfl⟩ ⟨rfl, rfl⟩ ⟨Nat.le_of_ble_eq_true rfl, Nat.le_of_ble_eq_true rfl⟩ rfl (Nat.le_of_ble_eq_true rfl) dX9_triesFor_12 ?_
    refine v_if_ne (tgt := 20) C dX9_triesFor_15 (by decide) (fun h17 => ?_) (fun h17 => ?_)
    · replace hf := bs_neg h17 hf
      refine v_iconst (v := 0) C dX9_triesFor_20 (by decide) ?_
      refine v_istore_n (lv' := [(2, .int (0 : Int32)), (0, .ref (ρ 14 0 0)), (1, .int a1)]) C dX9_triesFor_21 rfl (by decide) rfl ?_
      refine v_sub [1, 2, 0] rfl ?_
      exact wX9_triesFor_22   C  bsF _ _ _  hf
    · replace hf := bs_pos h17 hf
      refine v_iconst (v := -1) C dX9_triesFor_18 (by decide) ?_
      exact v_iret C hf dX9_triesFor_19
  · replace hf := bs_neg h18 hf
    refine v_iconst (v := 0) C dX9_triesFor_8 (by decide) ?_
    exact v_iret C hf dX9_triesFor_9
/-! BootSlotsModel.bestWatch(I)I -/
def fX9_bestWatch_22 : Nat → Int32 → Int32 → bsX → Option (Int32 × bsX)
  | 0, _, _, _ => none
  | n + 1, x1, x2, X => if (99 : Int32) < x2 then (some ((-1 : Int32), X)) else ((fX9_laysAside   X).bind fun r1 => if bsIn (2 : Int32) 160 then ((fX9_becomesGood  x1 (bsWr r1 14 1 0 (bsIx (2 : Int32)) x2)).bind fun r4 => (fX9_flag  r4.1 r4.2).bind fun r6 => (fX9_back  r6.1 r6.2).bind fun r8 => if r8.1 = (1 : Int32) then (some (x2, r8.2)) else (fX9_bestWatch_22 n x1 (x2 + (1 : Int32)) r8.2)) else none)
def fX9_bestWatch (a1 : Int32) (X : bsX) : Option (Int32 × bsX) := (fX9_noSlot  a1 X).bind fun r12 => if r12.1 = 0 then ((fX9_has  a1 r12.2).bind fun r14 => if r14.1 = 0 then (some ((-1 : Int32), r14.2)) else (fX9_bestWatch_22   bsF a1 (1 : Int32) r14.2)) else (some ((0 : Int32), r12.2))
abbrev rmX9_bestWatch : Room := { frames := 11, cells := 0, slots := 0, locals := 238 }
set_option maxHeartbeats 4000000 in
set_option maxRecDepth 100000 in
theorem wX9_bestWatch_22 {p : Program} {l : Launch} {e : Env} {s : State} {m : MethodId} {args : Array Value} {below : List Frame} {meth : Method} {c : Code} {ρ : bsR} {cA : Nat → ClassId} {dC : Nat → ClassId} {dI : Nat → Nat → Nat} {Rz : va_W} {Ts : List Cond}   {z : (Int32 × bsX)} (C : bsCx p m c cX9_bestWatch 3 s args Ts RX9 ρ cA dC dI Rz meth (some .int)) : ∀ (n : Nat) (x1 : Int32) (x2 : Int32) (X : bsX), fX9_bestWatch_22  n x1 x2 X = some z → bsV p l e rmX9_bestWatch s m args below meth c 0 0 (MQ below (bsQi ρ cA dC dI Rz z s.heap.size) args s 0 0 (bsA ρ cA Rz s.heap.size)) ρ cA dC dI Rz 3 22 [(0, .ref (ρ 14 0 0)), (1, .int x1), (2, .int x2)] [] X := by
  intro n
  induction n with
  | zero => intro x1 x2 X hf; exact (nomatch hf)
  | succ n ih =>
    intro x1 x2 X hf
    rw [fX9_bestWatch_22] at hf
    refine v_iload_n C dX9_bestWatch_22 rfl rfl ?_
    refine v_bipush (v := 99) C dX9_bestWatch_23 (by decide) ?_
    refine v_icmp_gt (tgt := 63) C dX9_bestWatch_25 (by decide) (fun h11 => ?_) (fun h11 => ?_)
    · replace hf := bs_pos h11 hf
      refine v_iconst (v := -1) C dX9_bestWatch_63 (by decide) ?_
      exact v_iret C hf dX9_bestWatch_64
    · replace hf := bs_neg h11 hf
      refine v_aload_n C dX9_bestWatch_28 rfl rfl ?_
      obtain ⟨r1, hc2, hf⟩ := bs_bind hf
      refine v_callVv (y := yX9_laysAside) (As := []) (rest := []) C (cX9_laysAside_ok  hc2) ml_X9_280 wyX9_laysAside (bsm_X9) (bsc_X9) rfl dpX9_laysAside ⟨Nat.le_of_ble_eq_true rfl, Nat.le_of_ble_eq_true rfl⟩ ⟨rfl, rfl⟩ ⟨Nat.le_of_ble_eq_true rfl, Nat.le_of_ble_eq_true rfl⟩ rfl (Nat.le_of_ble_eq_true rfl) dX9_bestWatch_29 ?_
      refine v_aload_n C dX9_bestWatch_32 rfl rfl ?_
      refine gf_X9_7 C dX9_bestWatch_33 ?_
      refine v_iconst (v := 2) C dX9_bestWatch_36 (by decide) ?_
      refine v_iload_n C dX9_bestWatch_37 rfl rfl ?_
      obtain ⟨hi3, hf⟩ := bs_if hf
      refine v_iast (n := 160) C bsm_14_1 (fun _ => bsc_14_1) hi3 dX9_bestWatch_38 ?_
      refine v_aload_n C dX9_bestWatch_39 rfl rfl ?_
      refine v_aload_n C dX9_bestWatch_40 rfl rfl ?_
      refine v_iload_n C dX9_bestWatch_41 rfl rfl ?_
      obtain ⟨r4, hc5, hf⟩ := bs_bind hf
      refine v_callVi (y := yX9_becomesGood) (As := [.int x1]) (rest := [.ref (ρ 14 0 0)]) C (cX9_becomesGood_ok  hc5) ml_X9_315 wyX9_becomesGood (bsm_X9) (bsc_X9) rfl dpX9_becomesGood ⟨Nat.le_of_ble_eq_true rfl, Nat.le_of_ble_eq_true rfl⟩ ⟨rfl, rfl⟩ ⟨Nat.le_of_ble_eq_true rfl, Nat.le_of_ble_eq_true rfl⟩ rfl (Nat.le_of_ble_eq_true rfl) dX9_bestWatch_42 ?_
      obtain ⟨r6, hc7, hf⟩ := bs_bind hf
      refine v_callSi (y := yX9_flag) (As := [.int r4.1]) (rest := [.ref (ρ 14 0 0)]) C (cX9_flag_ok  hc7) ml_X9_113 wzX9_flag dpX9_flag ⟨Nat.le_of_ble_eq_true rfl, Nat.le_of_ble_eq_true rfl⟩ ⟨rfl, rfl⟩ ⟨Nat.le_of_ble_eq_true rfl, Nat.le_of_ble_eq_true rfl⟩ rfl (Nat.le_of_ble_eq_true rfl) dX9_bestWatch_45 ?_
      obtain ⟨r8, hc9, hf⟩ := bs_bind hf
      refine v_callVi (y := yX9_back) (As := [.int r6.1]) (rest := []) C (cX9_back_ok  hc9) ml_X9_286 wyX9_back (bsm_X9) (bsc_X9) rfl dpX9_back ⟨Nat.le_of_ble_eq_true rfl, Nat.le_of_ble_eq_true rfl⟩ ⟨rfl, rfl⟩ ⟨Nat.le_of_ble_eq_true rfl, Nat.le_of_ble_eq_true rfl⟩ rfl (Nat.le_of_ble_eq_true rfl) dX9_bestWatch_48 ?_
      refine v_iconst (v := 1) C dX9_bestWatch_51 (by decide) ?_
      refine v_icmp_ne (tgt := 57) C dX9_bestWatch_52 (by decide) (fun h10 => ?_) (fun h10 => ?_)
      · replace hf := bs_neg h10 hf
        refine v_iinc (k0 := 2) (v := (x2 + (1 : Int32))) (lv' := [(2, .int (x2 + (1 : Int32))), (0, .ref (ρ 14 0 0)), (1, .int x1)]) C dX9_bestWatch_57 rfl rfl (by decide) rfl ?_
        refine v_goto (tgt := 22) C dX9_bestWatch_60 (by decide) ?_
        refine v_sub [1, 2, 0] rfl ?_
        exact ih _ _ _  hf
      · replace hf := bs_pos h10 hf
        refine v_iload_n C dX9_bestWatch_55 rfl rfl ?_
        exact v_iret C hf dX9_bestWatch_56
set_option maxHeartbeats 4000000 in
set_option maxRecDepth 100000 in
theorem cX9_bestWatch_ok {l : Launch} {ρ : bsR} {cA : Nat → ClassId} {dC : Nat → ClassId} {dI : Nat → Nat → Nat} {Rz : va_W}  {a1 : Int32} {X : bsX} {z : (Int32 × bsX)} (hf : fX9_bestWatch a1 X = some z) : bsMi l yX9_bestWatch cX9_bestWatch 3 (some .int) rmX9_bestWatch ρ cA dC dI Rz [.ref (ρ 14 0 0), .int a1] X z := by
  refine bsMi_of (by decide) (Nat.le_of_ble_eq_true rfl) (fun p e s m args below meth c C => ?_)
  have C : bsCx p m c cX9_bestWatch 3 s args (Cond.code yX9_bestWatch cX9_bestWatch 3 (some .int) :: bsG) RX9 ρ cA dC dI Rz meth (some .int) := C
  rw [fX9_bestWatch] at hf
  refine v_sub [0, 1] rfl ?_
  refine v_aload_n C dX9_bestWatch_0 rfl rfl ?_
  refine v_iload_n C dX9_bestWatch_1 rfl rfl ?_
  obtain ⟨r12, hc13, hf⟩ := bs_bind hf
  refine v_callVi (y := yX9_noSlot) (As := [.int a1]) (rest := []) C (cX9_noSlot_ok  hc13) ml_X9_260 wyX9_noSlot (bsm_X9) (bsc_X9) rfl dpX9_noSlot ⟨Nat.le_of_ble_eq_true rfl, Nat.le_of_ble_eq_true rfl⟩ ⟨rfl, rfl⟩ ⟨Nat.le_of_ble_eq_true rfl, Nat.le_of_ble_eq_true rfl⟩ rfl (Nat.le_of_ble_eq_true rfl) dX9_bestWatch_2 ?_
  refine v_if_eq (tgt := 10) C dX9_bestWatch_5 (by decide) (fun h17 => ?_) (fun h17 => ?_)
  · replace hf := bs_pos h17 hf
    refine v_aload_n C dX9_bestWatch_10 rfl rfl ?_
    refine v_iload_n C dX9_bestWatch_11 rfl rfl ?_
    obtain ⟨r14, hc15, hf⟩ := bs_bind hf
    refine v_callVi (y := yX9_has) (As := [.int a1]) (rest := []) C (cX9_has_ok  hc15) ml_X9_60 wyX9_has (bsm_X9) (bsc_X9) rfl dpX9_has ⟨Nat.le_of_ble_eq_true rfl, Nat.le_of_ble_eq_true rfl⟩ ⟨rfl, rfl⟩ ⟨Nat.le_of_ble_eq_true rfl, Nat.le_of_ble_eq_true rfl⟩ rfl (Nat.le_of_ble_eq_true rfl) dX9_bestWatch_12 ?_
    refine v_if_ne (tgt := 20) C dX9_bestWatch_15 (by decide) (fun h16 => ?_) (fun h16 => ?_)
    · replace hf := bs_neg h16 hf
      refine v_iconst (v := 1) C dX9_bestWatch_20 (by decide) ?_
      refine v_istore_n (lv' := [(2, .int (1 : Int32)), (0, .ref (ρ 14 0 0)), (1, .int a1)]) C dX9_bestWatch_21 rfl (by decide) rfl ?_
      refine v_sub [1, 2, 0] rfl ?_
      exact wX9_bestWatch_22   C  bsF _ _ _  hf
    · replace hf := bs_pos h16 hf
      refine v_iconst (v := -1) C dX9_bestWatch_18 (by decide) ?_
      exact v_iret C hf dX9_bestWatch_19
  · replace hf := bs_neg h17 hf
    refine v_iconst (v := 0) C dX9_bestWatch_8 (by decide) ?_
    exact v_iret C hf dX9_bestWatch_9
/-! BootSlotsModel.highestFloor()I -/
def fX9_highestFloor_92 (k13 : Int32 → Int32 → bsX → Option (Int32 × bsX)) (x2 : Int32) (y0 : Int32) (X : bsX) : Option (Int32 × bsX) := k13 y0 (x2 + (1 : Int32)) X
def fX9_highestFloor_72 (k13 : Int32 → Int32 → bsX → Option (Int32 × bsX)) (x1 : Int32) (x2 : Int32) (y0 : Int32) (X : bsX) : Option (Int32 × bsX) := if y0 = 0 then (fX9_highestFloor_92  k13 x2 x1 X) else ((fX9_of  x2 (8 : Int32) X).bind fun r1 => fX9_highestFloor_92  k13 x2 (bsMax x1 r1.1) r1.2)
def fX9_highestFloor_67 (k13 : Int32 → Int32 → bsX → Option (Int32 × bsX)) (x1 : Int32) (x2 : Int32) (X : bsX) : Option (Int32 × bsX) := fX9_highestFloor_72  k13 x1 x2 (1 : Int32) X
def fX9_highestFloor_71 (k13 : Int32 → Int32 → bsX → Option (Int32 × bsX)) (x1 : Int32) (x2 : Int32) (X : bsX) : Option (Int32 × bsX) := fX9_highestFloor_72  k13 x1 x2 (0 : Int32) X
def fX9_highestFloor_13 : Nat → Int32 → Int32 → bsX → Option (Int32 × bsX)
  | 0, _, _, _ => none
  | n + 1, x1, x2, X => if bsIn (0 : Int32) 160 then (if (X 14 1 0 (bsIx (0 : Int32))) ≤ x2 then (some (x1, X)) else ((fX9_has  x2 X).bind fun r5 => if r5.1 = 0 then (fX9_highestFloor_71  (fX9_highestFloor_13  n) x1 x2 r5.2) else ((fX9_of  x2 (11 : Int32) r5.2).bind fun r7 => if r7.1 = 0 then ((fX9_of  x2 (1 : Int32) r7.2).bind fun r9 => if r9.1 ≤ 0 then (fX9_highestFloor_71  (fX9_highestFloor_13  n) x1 x2 r9.2) else ((fX9_isGood  x2 r9.2).bind fun r11 => if r11.1 = 0 then ((fX9_of  x2 (2 : Int32) r11.2).bind fun r13 => if r13.1 ≤ 0 then (fX9_highestFloor_71  (fX9_highestFloor_13  n) x1 x2 r13.2) else (fX9_highestFloor_67  (fX9_highestFloor_13  n) x1 x2 r13.2)) else (fX9_highestFloor_67  (fX9_highestFloor_13  n) x1 x2 r11.2))) else (fX9_highestFloor_71  (fX9_highestFloor_13  n) x1 x2 r7.2)))) else none
def fX9_highestFloor (X : bsX) : Option (Int32 × bsX) := (fX9_notLoaded   X).bind fun r21 => if r21.1 = 0 then (fX9_highestFloor_13   bsF (-1 : Int32) (0 : Int32) r21.2) else (some ((0 : Int32), r21.2))
abbrev rmX9_highestFloor : Room := { frames := 2, cells := 0, slots := 0, locals := 43 }
set_option maxHeartbeats 4000000 in
set_option maxRecDepth 100000 in
theorem wX9_highestFloor_92 {p : Program} {l : Launch} {e : Env} {s : State} {m : MethodId} {args : Array Value} {below : List Frame} {meth : Method} {c : Code} {ρ : bsR} {cA : Nat → ClassId} {dC : Nat → ClassId} {dI : Nat → Nat → Nat} {Rz : va_W} {Ts : List Cond}  (k13 : Int32 → Int32 → bsX → Option (Int32 × bsX))  {z : (Int32 × bsX)} (C : bsCx p m c cX9_highestFloor 4 s args Ts RX9 ρ cA dC dI Rz meth (some .int)) (hk13 : ∀ (x1 : Int32) (x2 : Int32) (X : bsX), k13 x1 x2 X = some z → bsV p l e rmX9_highestFloor s m args below meth c 0 0 (MQ below (bsQi ρ cA dC dI Rz z s.heap.size) args s 0 0 (bsA ρ cA Rz s.heap.size)) ρ cA dC dI Rz 4 13 [(0, .ref (ρ 14 0 0)), (1, .int x1), (2, .int x2)] [] X)  (x2 : Int32) (y0 : Int32) (X : bsX) (hf : fX9_highestFloor_92 k13 x2 y0 X = some z) : bsV p l e rmX9_highestFloor s m args below meth c 0 0 (MQ below (bsQi ρ cA dC dI Rz z s.heap.size) args s 0 0 (bsA ρ cA Rz s.heap.size)) ρ cA dC dI Rz 4 92 [(0, .ref (ρ 14 0 0)), (2, .int x2)] [.int y0] X := by
  rw [fX9_highestFloor_92] at hf
  refine v_istore_n (lv' := [(1, .int y0), (0, .ref (ρ 14 0 0)), (2, .int x2)]) C dX9_highestFloor_92 rfl (by decide) rfl ?_
  refine v_iinc (k0 := 2) (v := (x2 + (1 : Int32))) (lv' := [(2, .int (x2 + (1 : Int32))), (1, .int y0), (0, .ref (ρ 14 0 0))]) C dX9_highestFloor_93 rfl rfl (by decide) rfl ?_
  refine v_goto (tgt := 13) C dX9_highestFloor_96 (by decide) ?_
  refine v_sub [2, 1, 0] rfl ?_
  exact hk13 _ _ _  hf
set_option maxHeartbeats 4000000 in
set_option maxRecDepth 100000 in
theorem wX9_highestFloor_72 {p : Program} {l : Launch} {e : Env} {s : State} {m : MethodId} {args : Array Value} {below : List Frame} {meth : Method} {c : Code} {ρ : bsR} {cA : Nat → ClassId} {dC : Nat → ClassId} {dI : Nat → Nat → Nat} {Rz : va_W} {Ts : List Cond}  (k13 : Int32 → Int32 → bsX → Option (Int32 × bsX))  {z : (Int32 × bsX)} (C : bsCx p m c cX9_highestFloor 4 s args Ts RX9 ρ cA dC dI Rz meth (some .int)) (hk13 : ∀ (x1 : Int32) (x2 : Int32) (X : bsX), k13 x1 x2 X = some z → bsV p l e rmX9_highestFloor s m args below meth c 0 0 (MQ below (bsQi ρ cA dC dI Rz z s.heap.size) args s 0 0 (bsA ρ cA Rz s.heap.size)) ρ cA dC dI Rz 4 13 [(0, .ref (ρ 14 0 0)), (1, .int x1), (2, .int x2)] [] X)  (x1 : Int32) (x2 : Int32) (y0 : Int32) (X : bsX) (hf : fX9_highestFloor_72 k13 x1 x2 y0 X = some z) : bsV p l e rmX9_highestFloor s m args below meth c 0 0 (MQ below (bsQi ρ cA dC dI Rz z s.heap.size) args s 0 0 (bsA ρ cA Rz s.heap.size)) ρ cA dC dI Rz 4 72 [(0, .ref (ρ 14 0 0)), (1, .int x1), (2, .int x2)] [.int y0] X := by
  rw [fX9_highestFloor_72] at hf
  refine v_istore_n (lv' := [(3, .int y0), (0, .ref (ρ 14 0 0)), (1, .int x1), (2, .int x2)]) C dX9_highestFloor_72 rfl (by decide) rfl ?_
  refine v_iload_n C dX9_highestFloor_73 rfl rfl ?_
  refine v_if_eq (tgt := 91) C dX9_highestFloor_74 (by decide) (fun h3 => ?_) (fun h3 => ?_)
  · replace hf := bs_pos h3 hf
    refine v_iload_n C dX9_highestFloor_91 rfl rfl ?_
    refine v_sub [1, 3] rfl ?_
    exact wX9_highestFloor_92  k13 C hk13 _ _ _  hf
  · replace hf := bs_neg h3 hf
    refine v_iload_n C dX9_highestFloor_77 rfl rfl ?_
    refine v_aload_n C dX9_highestFloor_78 rfl rfl ?_
    refine v_iload_n C dX9_highestFloor_79 rfl rfl ?_
    refine v_bipush (v := 8) C dX9_highestFloor_80 (by decide) ?_
    obtain ⟨r1, hc2, hf⟩ := bs_bind hf
    refine v_callVi (y := yX9_of) (As := [.int x2, .int (8 : Int32)]) (rest := [.int x1]) C (cX9_of_ok  hc2) ml_X9_56 wyX9_of (bsm_X9) (bsc_X9) rfl dpX9_of ⟨Nat.le_of_ble_eq_true rfl, Nat.le_of_ble_eq_true rfl⟩ ⟨rfl, rfl⟩ ⟨Nat.le_of_ble_eq_true rfl, Nat.le_of_ble_eq_true rfl⟩ rfl (Nat.le_of_ble_eq_true rfl) dX9_highestFloor_82 ?_
    refine v_mmax C (Nat.le_of_ble_eq_true rfl) (Nat.le_of_ble_eq_true rfl) (Nat.le_of_ble_eq_true rfl) (Nat.le_of_ble_eq_true rfl) (mm_X9_98) dX9_highestFloor_85 ?_
    refine v_goto (tgt := 92) C dX9_highestFloor_88 (by decide) ?_
    refine v_sub [1, 3] rfl ?_
    exact wX9_highestFloor_92  k13 C hk13 _ _ _  hf
set_option maxHeartbeats 4000000 in
set_option maxRecDepth 100000 in
theorem wX9_highestFloor_67 {p : Program} {l : Launch} {e : Env} {s : State} {m : MethodId} {args : Array Value} {below : List Frame} {meth : Method} {c : Code} {ρ : bsR} {cA : Nat → ClassId} {dC : Nat → ClassId} {dI : Nat → Nat → Nat} {Rz : va_W} {Ts : List Cond}  (k13 : Int32 → Int32 → bsX → Option (Int32 × bsX))  {z : (Int32 × bsX)} (C : bsCx p m c cX9_highestFloor 4 s args Ts RX9 ρ cA dC dI Rz meth (some .int)) (hk13 : ∀ (x1 : Int32) (x2 : Int32) (X : bsX), k13 x1 x2 X = some z → bsV p l e rmX9_highestFloor s m args below meth c 0 0 (MQ below (bsQi ρ cA dC dI Rz z s.heap.size) args s 0 0 (bsA ρ cA Rz s.heap.size)) ρ cA dC dI Rz 4 13 [(0, .ref (ρ 14 0 0)), (1, .int x1), (2, .int x2)] [] X)  (x1 : Int32) (x2 : Int32) (X : bsX) (hf : fX9_highestFloor_67 k13 x1 x2 X = some z) : bsV p l e rmX9_highestFloor s m args below meth c 0 0 (MQ below (bsQi ρ cA dC dI Rz z s.heap.size) args s 0 0 (bsA ρ cA Rz s.heap.size)) ρ cA dC dI Rz 4 67 [(0, .ref (ρ 14 0 0)), (1, .int x1), (2, .int x2)] [] X := by
  rw [fX9_highestFloor_67] at hf
  refine v_iconst (v := 1) C dX9_highestFloor_67 (by decide) ?_
  refine v_goto (tgt := 72) C dX9_highestFloor_68 (by decide) ?_
  refine v_sub [0, 1, 2] rfl ?_
  exact wX9_highestFloor_72  k13 C hk13 _ _ _ _  hf
set_option maxHeartbeats 4000000 in
set_option maxRecDepth 100000 in
theorem wX9_highestFloor_71 {p : Program} {l : Launch} {e : Env} {s : State} {m : MethodId} {args : Array Value} {below : List Frame} {meth : Method} {c : Code} {ρ : bsR} {cA : Nat → ClassId} {dC : Nat → ClassId} {dI : Nat → Nat → Nat} {Rz : va_W} {Ts : List Cond}  (k13 : Int32 → Int32 → bsX → Option (Int32 × bsX))  {z : (Int32 × bsX)} (C : bsCx p m c cX9_highestFloor 4 s args Ts RX9 ρ cA dC dI Rz meth (some .int)) (hk13 : ∀ (x1 : Int32) (x2 : Int32) (X : bsX), k13 x1 x2 X = some z → bsV p l e rmX9_highestFloor s m args below meth c 0 0 (MQ below (bsQi ρ cA dC dI Rz z s.heap.size) args s 0 0 (bsA ρ cA Rz s.heap.size)) ρ cA dC dI Rz 4 13 [(0, .ref (ρ 14 0 0)), (1, .int x1), (2, .int x2)] [] X)  (x1 : Int32) (x2 : Int32) (X : bsX) (hf : fX9_highestFloor_71 k13 x1 x2 X = some z) : bsV p l e rmX9_highestFloor s m args below meth c 0 0 (MQ below (bsQi ρ cA dC dI Rz z s.heap.size) args s 0 0 (bsA ρ cA Rz s.heap.size)) ρ cA dC dI Rz 4 71 [(0, .ref (ρ 14 0 0)), (1, .int x1), (2, .int x2)] [] X := by
  rw [fX9_highestFloor_71] at hf
  refine v_iconst (v := 0) C dX9_highestFloor_71 (by decide) ?_
  refine v_sub [0, 1, 2] rfl ?_
  exact wX9_highestFloor_72  k13 C hk13 _ _ _ _  hf
set_option maxHeartbeats 4000000 in
set_option maxRecDepth 100000 in
theorem wX9_highestFloor_13 {p : Program} {l : Launch} {e : Env} {s : State} {m : MethodId} {args : Array Value} {below : List Frame} {meth : Method} {c : Code} {ρ : bsR} {cA : Nat → ClassId} {dC : Nat → ClassId} {dI : Nat → Nat → Nat} {Rz : va_W} {Ts : List Cond}   {z : (Int32 × bsX)} (C : bsCx p m c cX9_highestFloor 4 s args Ts RX9 ρ cA dC dI Rz meth (some .int)) : ∀ (n : Nat) (x1 : Int32) (x2 : Int32) (X : bsX), fX9_highestFloor_13  n x1 x2 X = some z → bsV p l e rmX9_highestFloor s m args below meth c 0 0 (MQ below (bsQi ρ cA dC dI Rz z s.heap.size) args s 0 0 (bsA ρ cA Rz s.heap.size)) ρ cA dC dI Rz 4 13 [(0, .ref (ρ 14 0 0)), (1, .int x1), (2, .int x2)] [] X := by
  intro n
  induction n with
  | zero => intro x1 x2 X hf; exact (nomatch hf)
  | succ n ih =>
    intro x1 x2 X hf
    rw [fX9_highestFloor_13] at hf
    refine v_iload_n C dX9_highestFloor_13 rfl rfl ?_
    refine v_aload_n C dX9_highestFloor_14 rfl rfl ?_
    refine gf_X9_7 C dX9_highestFloor_15 ?_
    refine v_iconst (v := 0) C dX9_highestFloor_18 (by decide) ?_
    obtain ⟨hi4, hf⟩ := bs_if hf
    refine v_iald (n := 160) C bsm_14_1 bsc_14_1 hi4 dX9_highestFloor_19 ?_
    refine v_icmp_ge (tgt := 99) C dX9_highestFloor_20 (by decide) (fun h20 => ?_) (fun h20 => ?_)
    · replace hf := bs_pos h20 hf
      refine v_iload_n C dX9_highestFloor_99 rfl rfl ?_
      exact v_iret C hf dX9_highestFloor_100
    · replace hf := bs_neg h20 hf
      refine v_aload_n C dX9_highestFloor_23 rfl rfl ?_
      refine v_iload_n C dX9_highestFloor_24 rfl rfl ?_
      obtain ⟨r5, hc6, hf⟩ := bs_bind hf
      refine v_callVi (y := yX9_has) (As := [.int x2]) (rest := []) C (cX9_has_ok  hc6) ml_X9_60 wyX9_has (bsm_X9) (bsc_X9) rfl dpX9_has ⟨Nat.le_of_ble_eq_true rfl, Nat.le_of_ble_eq_true rfl⟩ ⟨rfl, rfl⟩ ⟨Nat.le_of_ble_eq_true rfl, Nat.le_of_ble_eq_true rfl⟩ rfl (Nat.le_of_ble_eq_true rfl) dX9_highestFloor_25 ?_
      refine v_if_eq (tgt := 71) C dX9_highestFloor_28 (by decide) (fun h19 => ?_) (fun h19 => ?_)
      · replace hf := bs_pos h19 hf
        refine v_sub [0, 1, 2] rfl ?_
        exact wX9_highestFloor_71  (fX9_highestFloor_13  n) C (fun b0 b1 X  h => ih b0 b1 X  h) _ _ _  hf
      · replace hf := bs_neg h19 hf
        refine v_aload_n C dX9_highestFloor_31 rfl rfl ?_
        refine v_iload_n C dX9_highestFloor_32 rfl rfl ?_
        refine v_bipush (v := 11) C dX9_highestFloor_33 (by decide) ?_
        obtain ⟨r7, hc8, hf⟩ := bs_bind hf
        refine v_callVi (y := yX9_of) (As := [.int x2, .int (11 : Int32)]) (rest := []) C (cX9_of_ok  hc8) ml_X9_56 wyX9_of (bsm_X9) (bsc_X9) rfl dpX9_of ⟨Nat.le_of_ble_eq_true rfl, Nat.le_of_ble_eq_true rfl⟩ ⟨rfl, rfl⟩ ⟨Nat.le_of_ble_eq_true rfl, Nat.le_of_ble_eq_true rfl⟩ rfl (Nat.le_of_ble_eq_true rfl) dX9_highestFloor_35 ?_
        refine v_if_ne (tgt := 71) C dX9_highestFloor_38 (by decide) (fun h18 => ?_) (fun h18 => ?_)
        · replace hf := bs_neg h18 hf
          refine v_sub [0, 1, 2] rfl ?_
          exact wX9_highestFloor_71  (fX9_highestFloor_13  n) C (fun b0 b1 X  h => ih b0 b1 X  h) _ _ _  hf
        · replace hf := bs_pos h18 hf
          refine v_aload_n C dX9_highestFloor_41 rfl rfl ?_
          refine v_iload_n C dX9_highestFloor_42 rfl rfl ?_
          refine v_iconst (v := 1) C dX9_highestFloor_43 (by decide) ?_
          obtain ⟨r9, hc10, hf⟩ := bs_bind hf
          refine v_callVi (y := yX9_of) (As := [.int x2, .int (1 : Int32)]) (rest := []) C (cX9_of_ok  hc10) ml_X9_56 wyX9_of (bsm_X9) (bsc_X9) rfl dpX9_of ⟨Nat.le_of_ble_eq_true rfl, Nat.le_of_ble_eq_true rfl⟩ ⟨rfl, rfl⟩ ⟨Nat.le_of_ble_eq_true rfl, Nat.le_of_ble_eq_true rfl⟩ rfl (Nat.le_of_ble_eq_true rfl) dX9_highestFloor_44 ?_
          refine v_if_le (tgt := 71) C dX9_highestFloor_47 (by decide) (fun h17 => ?_) (fun h17 => ?_)
          · replace hf := bs_pos h17 hf
            refine v_sub [0, 1, 2] rfl ?_
            exact wX9_highestFloor_71  (fX9_highestFloor_13  n) C (fun b0 b1 X  h => ih b0 b1 X  h) _ _ _  hf
          · replace hf := bs_neg h17 hf
            refine v_aload_n C dX9_highestFloor_50 rfl rfl ?_
            refine v_iload_n C dX9_highestFloor_51 rfl rfl ?_
            obtain ⟨r11, hc12, hf⟩ := bs_bind hf
            refine v_callVi (y := yX9_isGood) (As := [.int x2]) (rest := []) C (cX9_isGood_ok  hc12) ml_X9_63 wyX9_isGood (bsm_X9) (bsc_X9) rfl dpX9_isGood ⟨Nat.le_of_ble_eq_true rfl, Nat.le_of_ble_eq_true rfl⟩ ⟨rfl, rfl⟩ ⟨Nat.le_of_ble_eq_true rfl, Nat.le_of_ble_eq_true rfl⟩ rfl (Nat.le_of_ble_eq_true rfl) dX9_highestFloor_52 ?_
            refine v_if_ne (tgt := 67) C dX9_highestFloor_55 (by decide) (fun h16 => ?_) (fun h16 => ?_)
            · replace hf := bs_neg h16 hf
              refine v_sub [0, 1, 2] rfl ?_
              exact wX9_highestFloor_67  (fX9_highestFloor_13  n) C (fun b0 b1 X  h => ih b0 b1 X  h) _ _ _  hf
            · replace hf := bs_pos h16 hf
              refine v_aload_n C dX9_highestFloor_58 rfl rfl ?_
              refine v_iload_n C dX9_highestFloor_59 rfl rfl ?_
              refine v_iconst (v := 2) C dX9_highestFloor_60 (by decide) ?_
              obtain ⟨r13, hc14, hf⟩ := bs_bind hf
              refine v_callVi (y := yX9_of) (As := [.int x2, .int (2 : Int32)]) (rest := []) C (cX9_of_ok  hc14) ml_X9_56 wyX9_of (bsm_X9) (bsc_X9) rfl dpX9_of ⟨Nat.le_of_ble_eq_true rfl, Nat.le_of_ble_eq_true rfl⟩ ⟨rfl, rfl⟩ ⟨Nat.le_of_ble_eq_true rfl, Nat.le_of_ble_eq_true rfl⟩ rfl (Nat.le_of_ble_eq_true rfl) dX9_highestFloor_61 ?_
              refine v_if_le (tgt := 71) C dX9_highestFloor_64 (by decide) (fun h15 => ?_) (fun h15 => ?_)
              · replace hf := bs_pos h15 hf
                refine v_sub [0, 1, 2] rfl ?_
                exact wX9_highestFloor_71  (fX9_highestFloor_13  n) C (fun b0 b1 X  h => ih b0 b1 X  h) _ _ _  hf
              · replace hf := bs_neg h15 hf
                refine v_sub [0, 1, 2] rfl ?_
                exact wX9_highestFloor_67  (fX9_highestFloor_13  n) C (fun b0 b1 X  h => ih b0 b1 X  h) _ _ _  hf
set_option maxHeartbeats 4000000 in
set_option maxRecDepth 100000 in
theorem cX9_highestFloor_ok {l : Launch} {ρ : bsR} {cA : Nat → ClassId} {dC : Nat → ClassId} {dI : Nat → Nat → Nat} {Rz : va_W}  {X : bsX} {z : (Int32 × bsX)} (hf : fX9_highestFloor  X = some z) : bsMi l yX9_highestFloor cX9_highestFloor 4 (some .int) rmX9_highestFloor ρ cA dC dI Rz [.ref (ρ 14 0 0)] X z := by
  refine bsMi_of (by decide) (Nat.le_of_ble_eq_true rfl) (fun p e s m args below meth c C => ?_)
  have C : bsCx p m c cX9_highestFloor 4 s args (Cond.code yX9_highestFloor cX9_highestFloor 4 (some .int) :: bsG) RX9 ρ cA dC dI Rz meth (some .int) := C
  rw [fX9_highestFloor] at hf
  refine v_sub [0] rfl ?_
  refine v_aload_n C dX9_highestFloor_0 rfl rfl ?_
  obtain ⟨r21, hc22, hf⟩ := bs_bind hf
  refine v_callVi (y := yX9_notLoaded) (As := []) (rest := []) C (cX9_notLoaded_ok  hc22) ml_X9_48 wyX9_notLoaded (bsm_X9) (bsc_X9) rfl dpX9_notLoaded ⟨Nat.le_of_ble_eq_true rfl, Nat.le_of_ble_eq_true rfl⟩ ⟨rfl, rfl⟩ ⟨Nat.le_of_ble_eq_true rfl, Nat.le_of_ble_eq_true rfl⟩ rfl (Nat.le_of_ble_eq_true rfl) dX9_highestFloor_1 ?_
  refine v_if_eq (tgt := 9) C dX9_highestFloor_4 (by decide) (fun h23 => ?_) (fun h23 => ?_)
  · replace hf := bs_pos h23 hf
    refine v_iconst (v := -1) C dX9_highestFloor_9 (by decide) ?_
    refine v_istore_n (lv' := [(1, .int (-1 : Int32)), (0, .ref (ρ 14 0 0))]) C dX9_highestFloor_10 rfl (by decide) rfl ?_
    refine v_iconst (v := 0) C dX9_highestFloor_11 (by decide) ?_
    refine v_istore_n (lv' := [(2, .int (0 : Int32)), (1, .int (-1 : Int32)), (0, .ref (ρ 14 0 0))]) C dX9_highestFloor_12 rfl (by decide) rfl ?_
    refine v_sub [2, 1, 0] rfl ?_
    exact wX9_highestFloor_13   C  bsF _ _ _  hf
  · replace hf := bs_neg h23 hf
    refine v_iconst (v := 0) C dX9_highestFloor_7 (by decide) ?_
    exact v_iret C hf dX9_highestFloor_8
/-! BootSlotsModel.rescueWithout(I)I -/
def fX9_rescueWithout (a1 : Int32) (X : bsX) : Option (Int32 × bsX) := (fX9_laysAside   X).bind fun r1 => (fX9_empties  a1 r1).bind fun r3 => (fX9_boots  (1 : Int32) r3).bind fun r5 => (fX9_rescueNow   r5.2).bind fun r7 => (fX9_back  r7.1 r7.2).bind fun r9 => some (r9.1, r9.2)
abbrev rmX9_rescueWithout : Room := { frames := 10, cells := 0, slots := 0, locals := 215 }
set_option maxHeartbeats 4000000 in
set_option maxRecDepth 100000 in
theorem cX9_rescueWithout_ok {l : Launch} {ρ : bsR} {cA : Nat → ClassId} {dC : Nat → ClassId} {dI : Nat → Nat → Nat} {Rz : va_W}  {a1 : Int32} {X : bsX} {z : (Int32 × bsX)} (hf : fX9_rescueWithout a1 X = some z) : bsMi l yX9_rescueWithout cX9_rescueWithout 3 (some .int) rmX9_rescueWithout ρ cA dC dI Rz [.ref (ρ 14 0 0), .int a1] X z := by
  refine bsMi_of (by decide) (Nat.le_of_ble_eq_true rfl) (fun p e s m args below meth c C => ?_)
  have C : bsCx p m c cX9_rescueWithout 3 s args (Cond.code yX9_rescueWithout cX9_rescueWithout 3 (some .int) :: bsG) RX9 ρ cA dC dI Rz meth (some .int) := C
  rw [fX9_rescueWithout] at hf
  refine v_sub [0, 1] rfl ?_
  refine v_aload_n C dX9_rescueWithout_0 rfl rfl ?_
  obtain ⟨r1, hc2, hf⟩ := bs_bind hf
  refine v_callVv (y := yX9_laysAside) (As := []) (rest := []) C (cX9_laysAside_ok  hc2) ml_X9_280 wyX9_laysAside (bsm_X9) (bsc_X9) rfl dpX9_laysAside ⟨Nat.le_of_ble_eq_true rfl, Nat.le_of_ble_eq_true rfl⟩ ⟨rfl, rfl⟩ ⟨Nat.le_of_ble_eq_true rfl, Nat.le_of_ble_eq_true rfl⟩ rfl (Nat.le_of_ble_eq_true rfl) dX9_rescueWithout_1 ?_
  refine v_aload_n C dX9_rescueWithout_4 rfl rfl ?_
  refine v_iload_n C dX9_rescueWithout_5 rfl rfl ?_
  obtain ⟨r3, hc4, hf⟩ := bs_bind hf
  refine v_callVv (y := yX9_empties) (As := [.int a1]) (rest := []) C (cX9_empties_ok  hc4) ml_X9_309 wyX9_empties (bsm_X9) (bsc_X9) rfl dpX9_empties ⟨Nat.le_of_ble_eq_true rfl, Nat.le_of_ble_eq_true rfl⟩ ⟨rfl, rfl⟩ ⟨Nat.le_of_ble_eq_true rfl, Nat.le_of_ble_eq_true rfl⟩ rfl (Nat.le_of_ble_eq_true rfl) dX9_rescueWithout_6 ?_
  refine v_aload_n C dX9_rescueWithout_9 rfl rfl ?_
  refine v_iconst (v := 1) C dX9_rescueWithout_10 (by decide) ?_
  obtain ⟨r5, hc6, hf⟩ := bs_bind hf
  refine v_callVi (y := yX9_boots) (As := [.int (1 : Int32)]) (rest := []) C (cX9_boots_ok  hc6) ml_X9_92 wyX9_boots (bsm_X9) (bsc_X9) rfl dpX9_boots ⟨Nat.le_of_ble_eq_true rfl, Nat.le_of_ble_eq_true rfl⟩ ⟨rfl, rfl⟩ ⟨Nat.le_of_ble_eq_true rfl, Nat.le_of_ble_eq_true rfl⟩ rfl (Nat.le_of_ble_eq_true rfl) dX9_rescueWithout_11 ?_
  refine v_istore_n (lv' := [(2, .int r5.1), (0, .ref (ρ 14 0 0)), (1, .int a1)]) C dX9_rescueWithout_14 rfl (by decide) rfl ?_
  refine v_aload_n C dX9_rescueWithout_15 rfl rfl ?_
  refine v_aload_n C dX9_rescueWithout_16 rfl rfl ?_
  obtain ⟨r7, hc8, hf⟩ := bs_bind hf
  refine v_callVi (y := yX9_rescueNow) (As := []) (rest := [.ref (ρ 14 0 0)]) C (cX9_rescueNow_ok  hc8) ml_X9_295 wyX9_rescueNow (bsm_X9) (bsc_X9) rfl dpX9_rescueNow ⟨Nat.le_of_ble_eq_true rfl, Nat.le_of_ble_eq_true rfl⟩ ⟨rfl, rfl⟩ ⟨Nat.le_of_ble_eq_true rfl, Nat.le_of_ble_eq_true rfl⟩ rfl (Nat.le_of_ble_eq_true rfl) dX9_rescueWithout_17 ?_
  obtain ⟨r9, hc10, hf⟩ := bs_bind hf
  refine v_callVi (y := yX9_back) (As := [.int r7.1]) (rest := []) C (cX9_back_ok  hc10) ml_X9_286 wyX9_back (bsm_X9) (bsc_X9) rfl dpX9_back ⟨Nat.le_of_ble_eq_true rfl, Nat.le_of_ble_eq_true rfl⟩ ⟨rfl, rfl⟩ ⟨Nat.le_of_ble_eq_true rfl, Nat.le_of_ble_eq_true rfl⟩ rfl (Nat.le_of_ble_eq_true rfl) dX9_rescueWithout_20 ?_
  exact v_iret C hf dX9_rescueWithout_23
/-! BootSlotsModel.keySlot()I -/
def fX9_keySlot_66 (k15 : Int32 → Int32 → Int32 → bsX → Option (Int32 × bsX)) (x1 : Int32) (x2 : Int32) (x3 : Int32) (X : bsX) : Option (Int32 × bsX) := k15 x1 x2 (x3 + (1 : Int32)) X
def fX9_keySlot_61 (k15 : Int32 → Int32 → Int32 → bsX → Option (Int32 × bsX)) (x3 : Int32) (x4 : Int32) (X : bsX) : Option (Int32 × bsX) := fX9_keySlot_66  k15 x3 x4 x3 X
def fX9_keySlot_42 (k15 : Int32 → Int32 → Int32 → bsX → Option (Int32 × bsX)) (x1 : Int32) (x2 : Int32) (x3 : Int32) (y0 : Int32) (X : bsX) : Option (Int32 × bsX) := if y0 = (-1 : Int32) then (fX9_keySlot_66  k15 x1 x2 x3 X) else (if x1 = (-1 : Int32) then (fX9_keySlot_61  k15 x3 y0 X) else (if x2 ≤ y0 then (fX9_keySlot_66  k15 x1 x2 x3 X) else (fX9_keySlot_61  k15 x3 y0 X)))
def fX9_keySlot_15 : Nat → Int32 → Int32 → Int32 → bsX → Option (Int32 × bsX)
  | 0, _, _, _, _ => none
  | n + 1, x1, x2, x3, X => if bsIn (0 : Int32) 160 then (if (X 14 1 0 (bsIx (0 : Int32))) ≤ x3 then (some (x1, X)) else ((fX9_canBoot  x3 X).bind fun r5 => if r5.1 = 0 then (fX9_keySlot_42  (fX9_keySlot_15  n) x1 x2 x3 (-1 : Int32) r5.2) else ((fX9_rescueWithout  x3 r5.2).bind fun r7 => fX9_keySlot_42  (fX9_keySlot_15  n) x1 x2 x3 r7.1 r7.2))) else none
def fX9_keySlot (X : bsX) : Option (Int32 × bsX) := (fX9_notLoaded   X).bind fun r11 => if r11.1 = 0 then (fX9_keySlot_15   bsF (-1 : Int32) (0 : Int32) (0 : Int32) r11.2) else (some ((0 : Int32), r11.2))
abbrev rmX9_keySlot : Room := { frames := 11, cells := 0, slots := 0, locals := 237 }
set_option maxHeartbeats 4000000 in
set_option maxRecDepth 100000 in
theorem wX9_keySlot_66 {p : Program} {l : Launch} {e : Env} {s : State} {m : MethodId} {args : Array Value} {below : List Frame} {meth : Method} {c : Code} {ρ : bsR} {cA : Nat → ClassId} {dC : Nat → ClassId} {dI : Nat → Nat → Nat} {Rz : va_W} {Ts : List Cond}  (k15 : Int32 → Int32 → Int32 → bsX → Option (Int32 × bsX))  {z : (Int32 × bsX)} (C : bsCx p m c cX9_keySlot 5 s args Ts RX9 ρ cA dC dI Rz meth (some .int)) (hk15 : ∀ (x1 : Int32) (x2 : Int32) (x3 : Int32) (X : bsX), k15 x1 x2 x3 X = some z → bsV p l e rmX9_keySlot s m args below meth c 0 0 (MQ below (bsQi ρ cA dC dI Rz z s.heap.size) args s 0 0 (bsA ρ cA Rz s.heap.size)) ρ cA dC dI Rz 5 15 [(0, .ref (ρ 14 0 0)), (1, .int x1), (2, .int x2), (3, .int x3)] [] X)  (x1 : Int32) (x2 : Int32) (x3 : Int32) (X : bsX) (hf : fX9_keySlot_66 k15 x1 x2 x3 X = some z) : bsV p l e rmX9_keySlot s m args below meth c 0 0 (MQ below (bsQi ρ cA dC dI Rz z s.heap.size) args s 0 0 (bsA ρ cA Rz s.heap.size)) ρ cA dC dI Rz 5 66 [(0, .ref (ρ 14 0 0)), (1, .int x1), (2, .int x2), (3, .int x3)] [] X := by
  rw [fX9_keySlot_66] at hf
  refine v_iinc (k0 := 3) (v := (x3 + (1 : Int32))) (lv' := [(3, .int (x3 + (1 : Int32))), (0, .ref (ρ 14 0 0)), (1, .int x1), (2, .int x2)]) C dX9_keySlot_66 rfl rfl (by decide) rfl ?_
  refine v_goto (tgt := 15) C dX9_keySlot_69 (by decide) ?_
  refine v_sub [1, 2, 3, 0] rfl ?_
  exact hk15 _ _ _ _  hf
set_option maxHeartbeats 4000000 in
set_option maxRecDepth 100000 in
theorem wX9_keySlot_61 {p : Program} {l : Launch} {e : Env} {s : State} {m : MethodId} {args : Array Value} {below : List Frame} {meth : Method} {c : Code} {ρ : bsR} {cA : Nat → ClassId} {dC : Nat → ClassId} {dI : Nat → Nat → Nat} {Rz : va_W} {Ts : List Cond}  (k15 : Int32 → Int32 → Int32 → bsX → Option (Int32 × bsX))  {z : (Int32 × bsX)} (C : bsCx p m c cX9_keySlot 5 s args Ts RX9 ρ cA dC dI Rz meth (some .int)) (hk15 : ∀ (x1 : Int32) (x2 : Int32) (x3 : Int32) (X : bsX), k15 x1 x2 x3 X = some z → bsV p l e rmX9_keySlot s m args below meth c 0 0 (MQ below (bsQi ρ cA dC dI Rz z s.heap.size) args s 0 0 (bsA ρ cA Rz s.heap.size)) ρ cA dC dI Rz 5 15 [(0, .ref (ρ 14 0 0)), (1, .int x1), (2, .int x2), (3, .int x3)] [] X)  (x3 : Int32) (x4 : Int32) (X : bsX) (hf : fX9_keySlot_61 k15 x3 x4 X = some z) : bsV p l e rmX9_keySlot s m args below meth c 0 0 (MQ below (bsQi ρ cA dC dI Rz z s.heap.size) args s 0 0 (bsA ρ cA Rz s.heap.size)) ρ cA dC dI Rz 5 61 [(0, .ref (ρ 14 0 0)), (3, .int x3), (4, .int x4)] [] X := by
  rw [fX9_keySlot_61] at hf
  refine v_iload_n C dX9_keySlot_61 rfl rfl ?_
  refine v_istore_n (lv' := [(1, .int x3), (0, .ref (ρ 14 0 0)), (3, .int x3), (4, .int x4)]) C dX9_keySlot_62 rfl (by decide) rfl ?_
  refine v_iload C dX9_keySlot_63 rfl ?_
  refine v_istore_n (lv' := [(2, .int x4), (1, .int x3), (0, .ref (ρ 14 0 0)), (3, .int x3), (4, .int x4)]) C dX9_keySlot_65 rfl (by decide) rfl ?_
  refine v_sub [2, 1, 0, 3] rfl ?_
  exact wX9_keySlot_66  k15 C hk15 _ _ _ _  hf
set_option maxHeartbeats 4000000 in
set_option maxRecDepth 100000 in
theorem wX9_keySlot_42 {p : Program} {l : Launch} {e : Env} {s : State} {m : MethodId} {args : Array Value} {below : List Frame} {meth : Method} {c : Code} {ρ : bsR} {cA : Nat → ClassId} {dC : Nat → ClassId} {dI : Nat → Nat → Nat} {Rz : va_W} {Ts : List Cond}  (k15 : Int32 → Int32 → Int32 → bsX → Option (Int32 × bsX))  {z : (Int32 × bsX)} (C : bsCx p m c cX9_keySlot 5 s args Ts RX9 ρ cA dC dI Rz meth (some .int)) (hk15 : ∀ (x1 : Int32) (x2 : Int32) (x3 : Int32) (X : bsX), k15 x1 x2 x3 X = some z → bsV p l e rmX9_keySlot s m args below meth c 0 0 (MQ below (bsQi ρ cA dC dI Rz z s.heap.size) args s 0 0 (bsA ρ cA Rz s.heap.size)) ρ cA dC dI Rz 5 15 [(0, .ref (ρ 14 0 0)), (1, .int x1), (2, .int x2), (3, .int x3)] [] X)  (x1 : Int32) (x2 : Int32) (x3 : Int32) (y0 : Int32) (X : bsX) (hf : fX9_keySlot_42 k15 x1 x2 x3 y0 X = some z) : bsV p l e rmX9_keySlot s m args below meth c 0 0 (MQ below (bsQi ρ cA dC dI Rz z s.heap.size) args s 0 0 (bsA ρ cA Rz s.heap.size)) ρ cA dC dI Rz 5 42 [(0, .ref (ρ 14 0 0)), (1, .int x1), (2, .int x2), (3, .int x3)] [.int y0] X := by
  rw [fX9_keySlot_42] at hf
  refine v_istore (lv' := [(4, .int y0), (0, .ref (ρ 14 0 0)), (1, .int x1), (2, .int x2), (3, .int x3)]) C dX9_keySlot_42 (by decide) rfl ?_
  refine v_iload C dX9_keySlot_44 rfl ?_
  refine v_iconst (v := -1) C dX9_keySlot_46 (by decide) ?_
  refine v_icmp_eq (tgt := 66) C dX9_keySlot_47 (by decide) (fun h3 => ?_) (fun h3 => ?_)
  · replace hf := bs_pos h3 hf
    refine v_sub [1, 2, 3, 4] rfl ?_
    exact wX9_keySlot_66  k15 C hk15 _ _ _ _  hf
  · replace hf := bs_neg h3 hf
    refine v_iload_n C dX9_keySlot_50 rfl rfl ?_
    refine v_iconst (v := -1) C dX9_keySlot_51 (by decide) ?_
    refine v_icmp_eq (tgt := 61) C dX9_keySlot_52 (by decide) (fun h2 => ?_) (fun h2 => ?_)
    · replace hf := bs_pos h2 hf
      refine v_sub [1, 4, 0] rfl ?_
      exact wX9_keySlot_61  k15 C hk15 _ _ _  hf
    · replace hf := bs_neg h2 hf
      refine v_iload C dX9_keySlot_55 rfl ?_
      refine v_iload_n C dX9_keySlot_57 rfl rfl ?_
      refine v_icmp_ge (tgt := 66) C dX9_keySlot_58 (by decide) (fun h1 => ?_) (fun h1 => ?_)
      · replace hf := bs_pos h1 hf
        refine v_sub [1, 2, 3, 4] rfl ?_
        exact wX9_keySlot_66  k15 C hk15 _ _ _ _  hf
      · replace hf := bs_neg h1 hf
        refine v_sub [1, 4, 0] rfl ?_
        exact wX9_keySlot_61  k15 C hk15 _ _ _  hf
set_option maxHeartbeats 4000000 in
set_option maxRecDepth 100000 in
theorem wX9_keySlot_15 {p : Program} {l : Launch} {e : Env} {s : State} {m : MethodId} {args : Array Value} {below : List Frame} {meth : Method} {c : Code} {ρ : bsR} {cA : Nat → ClassId} {dC : Nat → ClassId} {dI : Nat → Nat → Nat} {Rz : va_W} {Ts : List Cond}   {z : (Int32 × bsX)} (C : bsCx p m c cX9_keySlot 5 s args Ts RX9 ρ cA dC dI Rz meth (some .int)) : ∀ (n : Nat) (x1 : Int32) (x2 : Int32) (x3 : Int32) (X : bsX), fX9_keySlot_15  n x1 x2 x3 X = some z → bsV p l e rmX9_keySlot s m args below meth c 0 0 (MQ below (bsQi ρ cA dC dI Rz z s.heap.size) args s 0 0 (bsA ρ cA Rz s.heap.size)) ρ cA dC dI Rz 5 15 [(0, .ref (ρ 14 0 0)), (1, .int x1), (2, .int x2), (3, .int x3)] [] X := by
  intro n
  induction n with
  | zero => intro x1 x2 x3 X hf; exact (nomatch hf)
  | succ n ih =>
    intro x1 x2 x3 X hf
    rw [fX9_keySlot_15] at hf
    refine v_iload_n C dX9_keySlot_15 rfl rfl ?_
    refine v_aload_n C dX9_keySlot_16 rfl rfl ?_
    refine gf_X9_7 C dX9_keySlot_17 ?_
    refine v_iconst (v := 0) C dX9_keySlot_20 (by decide) ?_
    obtain ⟨hi4, hf⟩ := bs_if hf
    refine v_iald (n := 160) C bsm_14_1 bsc_14_1 hi4 dX9_keySlot_21 ?_
    refine v_icmp_ge (tgt := 72) C dX9_keySlot_22 (by decide) (fun h10 => ?_) (fun h10 => ?_)
    · replace hf := bs_pos h10 hf
      refine v_iload_n C dX9_keySlot_72 rfl rfl ?_
      exact v_iret C hf dX9_keySlot_73
    · replace hf := bs_neg h10 hf
      refine v_aload_n C dX9_keySlot_25 rfl rfl ?_
      refine v_iload_n C dX9_keySlot_26 rfl rfl ?_
      obtain ⟨r5, hc6, hf⟩ := bs_bind hf
      refine v_callVi (y := yX9_canBoot) (As := [.int x3]) (rest := []) C (cX9_canBoot_ok  hc6) ml_X9_70 wyX9_canBoot (bsm_X9) (bsc_X9) rfl dpX9_canBoot ⟨Nat.le_of_ble_eq_true rfl, Nat.le_of_ble_eq_true rfl⟩ ⟨rfl, rfl⟩ ⟨Nat.le_of_ble_eq_true rfl, Nat.le_of_ble_eq_true rfl⟩ rfl (Nat.le_of_ble_eq_true rfl) dX9_keySlot_27 ?_
      refine v_if_eq (tgt := 41) C dX9_keySlot_30 (by decide) (fun h9 => ?_) (fun h9 => ?_)
      · replace hf := bs_pos h9 hf
        refine v_iconst (v := -1) C dX9_keySlot_41 (by decide) ?_
        refine v_sub [0, 1, 2, 3] rfl ?_
        exact wX9_keySlot_42  (fX9_keySlot_15  n) C (fun b0 b1 b2 X  h => ih b0 b1 b2 X  h) _ _ _ _ _  hf
      · replace hf := bs_neg h9 hf
        refine v_aload_n C dX9_keySlot_33 rfl rfl ?_
        refine v_iload_n C dX9_keySlot_34 rfl rfl ?_
        obtain ⟨r7, hc8, hf⟩ := bs_bind hf
        refine v_callVi (y := yX9_rescueWithout) (As := [.int x3]) (rest := []) C (cX9_rescueWithout_ok  hc8) ml_X9_318 wyX9_rescueWithout (bsm_X9) (bsc_X9) rfl dpX9_rescueWithout ⟨Nat.le_of_ble_eq_true rfl, Nat.le_of_ble_eq_true rfl⟩ ⟨rfl, rfl⟩ ⟨Nat.le_of_ble_eq_true rfl, Nat.le_of_ble_eq_true rfl⟩ rfl (Nat.le_of_ble_eq_true rfl) dX9_keySlot_35 ?_
        refine v_goto (tgt := 42) C dX9_keySlot_38 (by decide) ?_
        refine v_sub [0, 1, 2, 3] rfl ?_
        exact wX9_keySlot_42  (fX9_keySlot_15  n) C (fun b0 b1 b2 X  h => ih b0 b1 b2 X  h) _ _ _ _ _  hf
set_option maxHeartbeats 4000000 in
set_option maxRecDepth 100000 in
theorem cX9_keySlot_ok {l : Launch} {ρ : bsR} {cA : Nat → ClassId} {dC : Nat → ClassId} {dI : Nat → Nat → Nat} {Rz : va_W}  {X : bsX} {z : (Int32 × bsX)} (hf : fX9_keySlot  X = some z) : bsMi l yX9_keySlot cX9_keySlot 5 (some .int) rmX9_keySlot ρ cA dC dI Rz [.ref (ρ 14 0 0)] X z := by
  refine bsMi_of (by decide) (Nat.le_of_ble_eq_true rfl) (fun p e s m args below meth c C => ?_)
  have C : bsCx p m c cX9_keySlot 5 s args (Cond.code yX9_keySlot cX9_keySlot 5 (some .int) :: bsG) RX9 ρ cA dC dI Rz meth (some .int) := C
  rw [fX9_keySlot] at hf
  refine v_sub [0] rfl ?_
  refine v_aload_n C dX9_keySlot_0 rfl rfl ?_
  obtain ⟨r11, hc12, hf⟩ := bs_bind hf
  refine v_callVi (y := yX9_notLoaded) (As := []) (rest := []) C (cX9_notLoaded_ok  hc12) ml_X9_48 wyX9_notLoaded (bsm_X9) (bsc_X9) rfl dpX9_notLoaded ⟨Nat.le_of_ble_eq_true rfl, Nat.le_of_ble_eq_true rfl⟩ ⟨rfl, rfl⟩ ⟨Nat.le_of_ble_eq_true rfl, Nat.le_of_ble_eq_true rfl⟩ rfl (Nat.le_of_ble_eq_true rfl) dX9_keySlot_1 ?_
  refine v_if_eq (tgt := 9) C dX9_keySlot_4 (by decide) (fun h13 => ?_) (fun h13 => ?_)
  · replace hf := bs_pos h13 hf
    refine v_iconst (v := -1) C dX9_keySlot_9 (by decide) ?_
    refine v_istore_n (lv' := [(1, .int (-1 : Int32)), (0, .ref (ρ 14 0 0))]) C dX9_keySlot_10 rfl (by decide) rfl ?_
    refine v_iconst (v := 0) C dX9_keySlot_11 (by decide) ?_
    refine v_istore_n (lv' := [(2, .int (0 : Int32)), (1, .int (-1 : Int32)), (0, .ref (ρ 14 0 0))]) C dX9_keySlot_12 rfl (by decide) rfl ?_
    refine v_iconst (v := 0) C dX9_keySlot_13 (by decide) ?_
    refine v_istore_n (lv' := [(3, .int (0 : Int32)), (2, .int (0 : Int32)), (1, .int (-1 : Int32)), (0, .ref (ρ 14 0 0))]) C dX9_keySlot_14 rfl (by decide) rfl ?_
    refine v_sub [3, 2, 1, 0] rfl ?_
    exact wX9_keySlot_15   C  bsF _ _ _ _  hf
  · replace hf := bs_neg h13 hf
    refine v_iconst (v := 0) C dX9_keySlot_7 (by decide) ?_
    exact v_iret C hf dX9_keySlot_8
/-! BootSlotsModel.says(I)V -/
def fX9_says (a1 : Int32) (X : bsX) : Option bsX := if bsIn (X 14 0 0 20) 400 then (some (bsWr (bsWr X 14 6 0 (bsIx (X 14 0 0 20)) a1) 14 0 0 20 (((bsWr X 14 6 0 (bsIx (X 14 0 0 20)) a1) 14 0 0 20) + (1 : Int32)))) else none
abbrev rmX9_says : Room := { frames := 0, cells := 0, slots := 0, locals := 0 }
set_option maxHeartbeats 4000000 in
set_option maxRecDepth 100000 in
theorem cX9_says_ok {l : Launch} {ρ : bsR} {cA : Nat → ClassId} {dC : Nat → ClassId} {dI : Nat → Nat → Nat} {Rz : va_W}  {a1 : Int32} {X : bsX} {z : bsX} (hf : fX9_says a1 X = some z) : bsMv l yX9_says cX9_says 2 none rmX9_says ρ cA dC dI Rz [.ref (ρ 14 0 0), .int a1] X z := by
  refine bsMv_of (by decide) (Nat.le_of_ble_eq_true rfl) (fun p e s m args below meth c C => ?_)
  have C : bsCx p m c cX9_says 2 s args (Cond.code yX9_says cX9_says 2 none :: bsG) RX9 ρ cA dC dI Rz meth none := C
  rw [fX9_says] at hf
  refine v_sub [0, 1] rfl ?_
  refine v_aload_n C dX9_says_0 rfl rfl ?_
  refine gf_X9_30 C dX9_says_1 ?_
  refine v_aload_n C dX9_says_4 rfl rfl ?_
  refine gf_X9_321 C dX9_says_5 ?_
  refine v_iload_n C dX9_says_8 rfl rfl ?_
  obtain ⟨hi1, hf⟩ := bs_if hf
  refine v_iast (n := 400) C bsm_14_6 (fun _ => bsc_14_6) hi1 dX9_says_9 ?_
  refine v_aload_n C dX9_says_10 rfl rfl ?_
  refine v_dup C dX9_says_11 rfl ?_
  refine gf_X9_321 C dX9_says_12 ?_
  refine v_iconst (v := 1) C dX9_says_15 (by decide) ?_
  refine v_iadd C dX9_says_16 ?_
  refine pf_X9_321 C dX9_says_17 ?_
  exact v_vret C hf dX9_says_20
/-! BootSlotsModel.saysNumber(I)V -/
def fX9_saysNumber_18 : Nat → Int32 → Int32 → bsX → Option bsX
  | 0, _, _, _ => none
  | n + 1, x1, x2, X => if x2 ≤ 0 then (some X) else (if ¬ x2 = 0 then ((fX9_says  ((48 : Int32) + ((x1 / x2) - (x1 / x2) / (10 : Int32) * (10 : Int32))) X).bind fun r4 => fX9_saysNumber_18 n x1 (x2 / (10 : Int32)) r4) else none)
def fX9_saysNumber_2 : Nat → Int32 → Int32 → bsX → Option bsX
  | 0, _, _, _ => none
  | n + 1, x1, x2, X => if ¬ x2 = 0 then (if (x1 / x2) ≤ (9 : Int32) then (fX9_saysNumber_18   bsF x1 x2 X) else (fX9_saysNumber_2 n x1 (x2 * (10 : Int32)) X)) else none
def fX9_saysNumber (a1 : Int32) (X : bsX) : Option bsX := fX9_saysNumber_2   bsF a1 (1 : Int32) X
abbrev rmX9_saysNumber : Room := { frames := 1, cells := 0, slots := 0, locals := 21 }
set_option maxHeartbeats 4000000 in
set_option maxRecDepth 100000 in
theorem wX9_saysNumber_18 {p : Program} {l : Launch} {e : Env} {s : State} {m : MethodId} {args : Array Value} {below : List Frame} {meth : Method} {c : Code} {ρ : bsR} {cA : Nat → ClassId} {dC : Nat → ClassId} {dI : Nat → Nat → Nat} {Rz : va_W} {Ts : List Cond}   {z : bsX} (C : bsCx p m c cX9_saysNumber 3 s args Ts RX9 ρ cA dC dI Rz meth none) : ∀ (n : Nat) (x1 : Int32) (x2 : Int32) (X : bsX), fX9_saysNumber_18  n x1 x2 X = some z → bsV p l e rmX9_saysNumber s m args below meth c 0 0 (MQ below (bsQv ρ cA dC dI Rz z s.heap.size) args s 0 0 (bsA ρ cA Rz s.heap.size)) ρ cA dC dI Rz 3 18 [(0, .ref (ρ 14 0 0)), (1, .int x1), (2, .int x2)] [] X := by
  intro n
  induction n with
  | zero => intro x1 x2 X hf; exact (nomatch hf)
  | succ n ih =>
    intro x1 x2 X hf
    rw [fX9_saysNumber_18] at hf
    refine v_iload_n C dX9_saysNumber_18 rfl rfl ?_
    refine v_if_le (tgt := 43) C dX9_saysNumber_19 (by decide) (fun h6 => ?_) (fun h6 => ?_)
    · replace hf := bs_pos h6 hf
      exact v_vret C hf dX9_saysNumber_43
    · replace hf := bs_neg h6 hf
      refine v_aload_n C dX9_saysNumber_22 rfl rfl ?_
      refine v_bipush (v := 48) C dX9_saysNumber_23 (by decide) ?_
      refine v_iload_n C dX9_saysNumber_25 rfl rfl ?_
      refine v_iload_n C dX9_saysNumber_26 rfl rfl ?_
      obtain ⟨hd3, hf⟩ := bs_if hf
      refine v_idiv C dX9_saysNumber_27 hd3 ?_
      refine v_bipush (v := 10) C dX9_saysNumber_28 (by decide) ?_
      refine v_irem C dX9_saysNumber_30 (by decide) ?_
      refine v_iadd C dX9_saysNumber_31 ?_
      obtain ⟨r4, hc5, hf⟩ := bs_bind hf
      refine v_callVv (y := yX9_says) (As := [.int ((48 : Int32) + ((x1 / x2) - (x1 / x2) / (10 : Int32) * (10 : Int32)))]) (rest := []) C (cX9_says_ok  hc5) ml_X9_324 wyX9_says (bsm_X9) (bsc_X9) rfl dpX9_says ⟨Nat.le_of_ble_eq_true rfl, Nat.le_of_ble_eq_true rfl⟩ ⟨rfl, rfl⟩ ⟨Nat.le_of_ble_eq_true rfl, Nat.le_of_ble_eq_true rfl⟩ rfl (Nat.le_of_ble_eq_true rfl) dX9_saysNumber_32 ?_
      refine v_iload_n C dX9_saysNumber_35 rfl rfl ?_
      refine v_bipush (v := 10) C dX9_saysNumber_36 (by decide) ?_
      refine v_idiv C dX9_saysNumber_38 (by decide) ?_
      refine v_istore_n (lv' := [(2, .int (x2 / (10 : Int32))), (0, .ref (ρ 14 0 0)), (1, .int x1)]) C dX9_saysNumber_39 rfl (by decide) rfl ?_
      refine v_goto (tgt := 18) C dX9_saysNumber_40 (by decide) ?_
      refine v_sub [1, 2, 0] rfl ?_
      exact ih _ _ _  hf
set_option maxHeartbeats 4000000 in
set_option maxRecDepth 100000 in
theorem wX9_saysNumber_2 {p : Program} {l : Launch} {e : Env} {s : State} {m : MethodId} {args : Array Value} {below : List Frame} {meth : Method} {c : Code} {ρ : bsR} {cA : Nat → ClassId} {dC : Nat → ClassId} {dI : Nat → Nat → Nat} {Rz : va_W} {Ts : List Cond}   {z : bsX} (C : bsCx p m c cX9_saysNumber 3 s args Ts RX9 ρ cA dC dI Rz meth none) : ∀ (n : Nat) (x1 : Int32) (x2 : Int32) (X : bsX), fX9_saysNumber_2  n x1 x2 X = some z → bsV p l e rmX9_saysNumber s m args below meth c 0 0 (MQ below (bsQv ρ cA dC dI Rz z s.heap.size) args s 0 0 (bsA ρ cA Rz s.heap.size)) ρ cA dC dI Rz 3 2 [(0, .ref (ρ 14 0 0)), (1, .int x1), (2, .int x2)] [] X := by
  intro n
  induction n with
  | zero => intro x1 x2 X hf; exact (nomatch hf)
  | succ n ih =>
    intro x1 x2 X hf
    rw [fX9_saysNumber_2] at hf
    refine v_iload_n C dX9_saysNumber_2 rfl rfl ?_
    refine v_iload_n C dX9_saysNumber_3 rfl rfl ?_
    obtain ⟨hd1, hf⟩ := bs_if hf
    refine v_idiv C dX9_saysNumber_4 hd1 ?_
    refine v_bipush (v := 9) C dX9_saysNumber_5 (by decide) ?_
    refine v_icmp_le (tgt := 18) C dX9_saysNumber_7 (by decide) (fun h2 => ?_) (fun h2 => ?_)
    · replace hf := bs_pos h2 hf
      refine v_sub [0, 1, 2] rfl ?_
      exact wX9_saysNumber_18   C  bsF _ _ _  hf
    · replace hf := bs_neg h2 hf
      refine v_iload_n C dX9_saysNumber_10 rfl rfl ?_
      refine v_bipush (v := 10) C dX9_saysNumber_11 (by decide) ?_
      refine v_imul C dX9_saysNumber_13 ?_
      refine v_istore_n (lv' := [(2, .int (x2 * (10 : Int32))), (0, .ref (ρ 14 0 0)), (1, .int x1)]) C dX9_saysNumber_14 rfl (by decide) rfl ?_
      refine v_goto (tgt := 2) C dX9_saysNumber_15 (by decide) ?_
      refine v_sub [1, 2, 0] rfl ?_
      exact ih _ _ _  hf
set_option maxHeartbeats 4000000 in
set_option maxRecDepth 100000 in
theorem cX9_saysNumber_ok {l : Launch} {ρ : bsR} {cA : Nat → ClassId} {dC : Nat → ClassId} {dI : Nat → Nat → Nat} {Rz : va_W}  {a1 : Int32} {X : bsX} {z : bsX} (hf : fX9_saysNumber a1 X = some z) : bsMv l yX9_saysNumber cX9_saysNumber 3 none rmX9_saysNumber ρ cA dC dI Rz [.ref (ρ 14 0 0), .int a1] X z := by
  refine bsMv_of (by decide) (Nat.le_of_ble_eq_true rfl) (fun p e s m args below meth c C => ?_)
  have C : bsCx p m c cX9_saysNumber 3 s args (Cond.code yX9_saysNumber cX9_saysNumber 3 none :: bsG) RX9 ρ cA dC dI Rz meth none := C
  rw [fX9_saysNumber] at hf
  refine v_sub [0, 1] rfl ?_
  refine v_iconst (v := 1) C dX9_saysNumber_0 (by decide) ?_
  refine v_istore_n (lv' := [(2, .int (1 : Int32)), (0, .ref (ρ 14 0 0)), (1, .int a1)]) C dX9_saysNumber_1 rfl (by decide) rfl ?_
  refine v_sub [1, 2, 0] rfl ?_
  exact wX9_saysNumber_2   C  bsF _ _ _  hf
/-! BootSlotsModel.saysSlot(I)V -/
def fX9_saysSlot_72 (x1 : Int32) (X : bsX) : Option bsX := (fX9_isOn  x1 X).bind fun r1 => if r1.1 = 0 then (some r1.2) else ((fX9_says  (42 : Int32) r1.2).bind fun r3 => some r3)
def fX9_saysSlot (a1 : Int32) (X : bsX) : Option bsX := (fX9_has  a1 X).bind fun r6 => if r6.1 = 0 then ((fX9_says  (45 : Int32) r6.2).bind fun r29 => some r29) else ((fX9_of  a1 (8 : Int32) r6.2).bind fun r8 => (fX9_saysNumber  r8.1 r8.2).bind fun r10 => (fX9_says  (58 : Int32) r10).bind fun r12 => (fX9_of  a1 (1 : Int32) r12).bind fun r14 => (fX9_saysNumber  r14.1 r14.2).bind fun r16 => (fX9_says  (47 : Int32) r16).bind fun r18 => (fX9_of  a1 (2 : Int32) r18).bind fun r20 => (fX9_saysNumber  r20.1 r20.2).bind fun r22 => (fX9_isGood  a1 r22).bind fun r24 => if r24.1 = 0 then (fX9_saysSlot_72   a1 r24.2) else ((fX9_says  (33 : Int32) r24.2).bind fun r26 => fX9_saysSlot_72   a1 r26))
abbrev rmX9_saysSlot : Room := { frames := 2, cells := 0, slots := 0, locals := 43 }
set_option maxHeartbeats 4000000 in
set_option maxRecDepth 100000 in
theorem wX9_saysSlot_72 {p : Program} {l : Launch} {e : Env} {s : State} {m : MethodId} {args : Array Value} {below : List Frame} {meth : Method} {c : Code} {ρ : bsR} {cA : Nat → ClassId} {dC : Nat → ClassId} {dI : Nat → Nat → Nat} {Rz : va_W} {Ts : List Cond}   {z : bsX} (C : bsCx p m c cX9_saysSlot 2 s args Ts RX9 ρ cA dC dI Rz meth none) (x1 : Int32) (X : bsX) (hf : fX9_saysSlot_72 x1 X = some z) : bsV p l e rmX9_saysSlot s m args below meth c 0 0 (MQ below (bsQv ρ cA dC dI Rz z s.heap.size) args s 0 0 (bsA ρ cA Rz s.heap.size)) ρ cA dC dI Rz 2 72 [(0, .ref (ρ 14 0 0)), (1, .int x1)] [] X := by
  rw [fX9_saysSlot_72] at hf
  refine v_aload_n C dX9_saysSlot_72 rfl rfl ?_
  refine v_iload_n C dX9_saysSlot_73 rfl rfl ?_
  obtain ⟨r1, hc2, hf⟩ := bs_bind hf
  refine v_callVi (y := yX9_isOn) (As := [.int x1]) (rest := []) C (cX9_isOn_ok  hc2) ml_X9_272 wyX9_isOn (bsm_X9) (bsc_X9) rfl dpX9_isOn ⟨Nat.le_of_ble_eq_true rfl, Nat.le_of_ble_eq_true rfl⟩ ⟨rfl, rfl⟩ ⟨Nat.le_of_ble_eq_true rfl, Nat.le_of_ble_eq_true rfl⟩ rfl (Nat.le_of_ble_eq_true rfl) dX9_saysSlot_74 ?_
  refine v_if_eq (tgt := 86) C dX9_saysSlot_77 (by decide) (fun h5 => ?_) (fun h5 => ?_)
  · replace hf := bs_pos h5 hf
    exact v_vret C hf dX9_saysSlot_86
  · replace hf := bs_neg h5 hf
    refine v_aload_n C dX9_saysSlot_80 rfl rfl ?_
    refine v_bipush (v := 42) C dX9_saysSlot_81 (by decide) ?_
    obtain ⟨r3, hc4, hf⟩ := bs_bind hf
    refine v_callVv (y := yX9_says) (As := [.int (42 : Int32)]) (rest := []) C (cX9_says_ok  hc4) ml_X9_324 wyX9_says (bsm_X9) (bsc_X9) rfl dpX9_says ⟨Nat.le_of_ble_eq_true rfl, Nat.le_of_ble_eq_true rfl⟩ ⟨rfl, rfl⟩ ⟨Nat.le_of_ble_eq_true rfl, Nat.le_of_ble_eq_true rfl⟩ rfl (Nat.le_of_ble_eq_true rfl) dX9_saysSlot_83 ?_
    exact v_vret C hf dX9_saysSlot_86
set_option maxHeartbeats 4000000 in
set_option maxRecDepth 100000 in
theorem cX9_saysSlot_ok {l : Launch} {ρ : bsR} {cA : Nat → ClassId} {dC : Nat → ClassId} {dI : Nat → Nat → Nat} {Rz : va_W}  {a1 : Int32} {X : bsX} {z : bsX} (hf : fX9_saysSlot a1 X = some z) : bsMv l yX9_saysSlot cX9_saysSlot 2 none rmX9_saysSlot ρ cA dC dI Rz [.ref (ρ 14 0 0), .int a1] X z := by
  refine bsMv_of (by decide) (Nat.le_of_ble_eq_true rfl) (fun p e s m args below meth c C => ?_)
  have C : bsCx p m c cX9_saysSlot 2 s args (Cond.code yX9_saysSlot cX9_saysSlot 2 none :: bsG) RX9 ρ cA dC dI Rz meth none := C
  rw [fX9_saysSlot] at hf
  refine v_sub [0, 1] rfl ?_
  refine v_aload_n C dX9_saysSlot_0 rfl rfl ?_
  refine v_iload_n C dX9_saysSlot_1 rfl rfl ?_
  obtain ⟨r6, hc7, hf⟩ := bs_bind hf
  refine v_callVi (y := yX9_has) (As := [.int a1]) (rest := []) C (cX9_has_ok  hc7) ml_X9_60 wyX9_has (bsm_X9) (bsc_X9) rfl dpX9_has ⟨Nat.le_of_ble_eq_true rfl, Nat.le_of_ble_eq_true rfl⟩ ⟨rfl, rfl⟩ ⟨Nat.le_of_ble_eq_true rfl, Nat.le_of_ble_eq_true rfl⟩ rfl (Nat.le_of_ble_eq_true rfl) dX9_saysSlot_2 ?_
  refine v_if_ne (tgt := 15) C dX9_saysSlot_5 (by decide) (fun h31 => ?_) (fun h31 => ?_)
  · replace hf := bs_neg h31 hf
    refine v_aload_n C dX9_saysSlot_15 rfl rfl ?_
    refine v_aload_n C dX9_saysSlot_16 rfl rfl ?_
    refine v_iload_n C dX9_saysSlot_17 rfl rfl ?_
    refine v_bipush (v := 8) C dX9_saysSlot_18 (by decide) ?_
    obtain ⟨r8, hc9, hf⟩ := bs_bind hf
    refine v_callVi (y := yX9_of) (As := [.int a1, .int (8 : Int32)]) (rest := [.ref (ρ 14 0 0)]) C (cX9_of_ok  hc9) ml_X9_56 wyX9_of (bsm_X9) (bsc_X9) rfl dpX9_of ⟨Nat.le_of_ble_eq_true rfl, Nat.le_of_ble_eq_true rfl⟩ ⟨rfl, rfl⟩ ⟨Nat.le_of_ble_eq_true rfl, Nat.le_of_ble_eq_true rfl⟩ rfl (Nat.le_of_ble_eq_true rfl) dX9_saysSlot_20 ?_
    obtain ⟨r10, hc11, hf⟩ := bs_bind hf
    refine v_callVv (y := yX9_saysNumber) (As := [.int r8.1]) (rest := []) C (cX9_saysNumber_ok  hc11) ml_X9_327 wyX9_saysNumber (bsm_X9) (bsc_X9) rfl dpX9_saysNumber ⟨Nat.le_of_ble_eq_true rfl, Nat.le_of_ble_eq_true rfl⟩ ⟨rfl, rfl⟩ ⟨Nat.le_of_ble_eq_true rfl, Nat.le_of_ble_eq_true rfl⟩ rfl (Nat.le_of_ble_eq_true rfl) dX9_saysSlot_23 ?_
    refine v_aload_n C dX9_saysSlot_26 rfl rfl ?_
    refine v_bipush (v := 58) C dX9_saysSlot_27 (by decide) ?_
    obtain ⟨r12, hc13, hf⟩ := bs_bind hf
    refine v_callVv (y := yX9_says) (As := [.int (58 : Int32)]) (rest := []) C (cX9_says_ok  hc13) ml_X9_324 wyX9_says (bsm_X9) (bsc_X9) rfl dpX9_says ⟨Nat.le_of_ble_eq_true rfl, Nat.le_of_ble_eq_true rfl⟩ ⟨rfl, rfl⟩ ⟨Nat.le_of_ble_eq_true rfl, Nat.le_of_ble_eq_true rfl⟩ rfl (Nat.le_of_ble_eq_true rfl) dX9_saysSlot_29 ?_
    refine v_aload_n C dX9_saysSlot_32 rfl rfl ?_
    refine v_aload_n C dX9_saysSlot_33 rfl rfl ?_
    refine v_iload_n C dX9_saysSlot_34 rfl rfl ?_
    refine v_iconst (v := 1) C dX9_saysSlot_35 (by decide) ?_
    obtain ⟨r14, hc15, hf⟩ := bs_bind hf
    refine v_callVi (y := yX9_of) (As := [.int a1, .int (1 : Int32)]) (rest := [.ref (ρ 14 0 0)]) C (cX9_of_ok  hc15) ml_X9_56 wyX9_of (bsm_X9) (bsc_X9) rfl dpX9_of ⟨Nat.le_of_ble_eq_true rfl, Nat.le_of_ble_eq_true rfl⟩ ⟨rfl, rfl⟩ ⟨Nat.le_of_ble_eq_true rfl, Nat.le_of_ble_eq_true rfl⟩ rfl (Nat.le_of_ble_eq_true rfl) dX9_saysSlot_36 ?_
    obtain ⟨r16, hc17, hf⟩ := bs_bind hf
    refine v_callVv (y := yX9_saysNumber) (As := [.int r14.1]) (rest := []) C (cX9_saysNumber_ok  hc17) ml_X9_327 wyX9_saysNumber (bsm_X9) (bsc_X9) rfl dpX9_saysNumber ⟨Nat.le_of_ble_eq_true rfl, Nat.le_of_ble_eq_true rfl⟩ ⟨rfl, rfl⟩ ⟨Nat.le_of_ble_eq_true rfl, Nat.le_of_ble_eq_true rfl⟩ rfl (Nat.le_of_ble_eq_true rfl) dX9_saysSlot_39 ?_
    refine v_aload_n C dX9_saysSlot_42 rfl rfl ?_
    refine v_bipush (v := 47) C dX9_saysSlot_43 (by decide) ?_
    obtain ⟨r18, hc19, hf⟩ := bs_bind hf
    refine v_callVv (y := yX9_says) (As := [.int (47 : Int32)]) (rest := []) C (cX9_says_ok  hc19) ml_X9_324 wyX9_says (bsm_X9) (bsc_X9) rfl dpX9_says ⟨Nat.le_of_ble_eq_true rfl, Nat.le_of_ble_eq_true rfl⟩ ⟨rfl, rfl⟩ ⟨Nat.le_of_ble_eq_true rfl, Nat.le_of_ble_eq_true rfl⟩ rfl (Nat.le_of_ble_eq_true rfl) dX9_saysSlot_45 ?_
    refine v_aload_n C dX9_saysSlot_48 rfl rfl ?_
    refine v_aload_n C dX9_saysSlot_49 rfl rfl ?_
    refine v_iload_n C dX9_saysSlot_50 rfl rfl ?_
    refine v_iconst (v := 2) C dX9_saysSlot_51 (by decide) ?_
    obtain ⟨r20, hc21, hf⟩ := bs_bind hf
    refine v_callVi (y := yX9_of) (As := [.int a1, .int (2 : Int32)]) (rest := [.ref (ρ 14 0 0)]) C (cX9_of_ok  hc21) ml_X9_56 wyX9_of (bsm_X9) (bsc_X9) rfl dpX9_of ⟨Nat.le_of_ble_eq_true rfl, Nat.le_of_ble_eq_true rfl⟩ ⟨rfl, rfl⟩ ⟨Nat.le_of_ble_eq_true rfl, Nat.le_of_ble_eq_true rfl⟩ rfl (Nat.le_of_ble_eq_true rfl) dX9_saysSlot_52 ?_
    obtain ⟨r22, hc23, hf⟩ := bs_bind hf
    refine v_callVv (y := yX9_saysNumber) (As := [.int r20.1]) (rest := []) C (cX9_saysNumber_ok  hc23) ml_X9_327 wyX9_saysNumber (bsm_X9) (bsc_X9) rfl dpX9_saysNumber ⟨Nat.le_of_ble_eq_true rfl, Nat.le_of_ble_eq_true rfl⟩ ⟨rfl, rfl⟩ ⟨Nat.le_of_ble_eq_true rfl, Nat.le_of_ble_eq_true rfl⟩ rfl (Nat.le_of_ble_eq_true rfl) dX9_saysSlot_55 ?_
    refine v_aload_n C dX9_saysSlot_58 rfl rfl ?_
    refine v_iload_n C dX9_saysSlot_59 rfl rfl ?_
    obtain ⟨r24, hc25, hf⟩ := bs_bind hf
    refine v_callVi (y := yX9_isGood) (As := [.int a1]) (rest := []) C (cX9_isGood_ok  hc25) ml_X9_63 wyX9_isGood (bsm_X9) (bsc_X9) rfl dpX9_isGood ⟨Nat.le_of_ble_eq_true rfl, Nat.le_of_ble_eq_true rfl⟩ ⟨rfl, rfl⟩ ⟨Nat.le_of_ble_eq_true rfl, Nat.le_of_ble_eq_true rfl⟩ rfl (Nat.le_of_ble_eq_true rfl) dX9_saysSlot_60 ?_
    refine v_if_eq (tgt := 72) C dX9_saysSlot_63 (by decide) (fun h28 => ?_) (fun h28 => ?_)
    · replace hf := bs_pos h28 hf
      refine v_sub [0, 1] rfl ?_
      exact wX9_saysSlot_72   C  _ _  hf
    · replace hf := bs_neg h28 hf
      refine v_aload_n C dX9_saysSlot_66 rfl rfl ?_
      refine v_bipush (v := 33) C dX9_saysSlot_67 (by decide) ?_
      obtain ⟨r26, hc27, hf⟩ := bs_bind hf
      refine v_callVv (y := yX9_says) (As := [.int (33 : Int32)]) (rest := []) C (cX9_says_ok  hc27) ml_X9_324 wyX9_says (bsm_X9) (bsc_X9) rfl dpX9_says ⟨Nat.le_of_ble_eq_true rfl, Nat.le_of_ble_eq_true rfl⟩ ⟨rfl, rfl⟩ ⟨Nat.le_of_ble_eq_true rfl, Nat.le_of_ble_eq_true rfl⟩ rfl (Nat.le_of_ble_eq_true rfl) dX9_saysSlot_69 ?_
      refine v_sub [0, 1] rfl ?_
      exact wX9_saysSlot_72   C  _ _  hf
  · replace hf := bs_pos h31 hf
    refine v_aload_n C dX9_saysSlot_8 rfl rfl ?_
    refine v_bipush (v := 45) C dX9_saysSlot_9 (by decide) ?_
    obtain ⟨r29, hc30, hf⟩ := bs_bind hf
    refine v_callVv (y := yX9_says) (As := [.int (45 : Int32)]) (rest := []) C (cX9_says_ok  hc30) ml_X9_324 wyX9_says (bsm_X9) (bsc_X9) rfl dpX9_says ⟨Nat.le_of_ble_eq_true rfl, Nat.le_of_ble_eq_true rfl⟩ ⟨rfl, rfl⟩ ⟨Nat.le_of_ble_eq_true rfl, Nat.le_of_ble_eq_true rfl⟩ rfl (Nat.le_of_ble_eq_true rfl) dX9_saysSlot_11 ?_
    exact v_vret C hf dX9_saysSlot_14
/-! BootSlotsModel.writeSlots()I -/
def fX9_writeSlots_36 (k16 : Int32 → bsX → Option (Int32 × bsX)) (x1 : Int32) (X : bsX) : Option (Int32 × bsX) := (fX9_saysSlot  x1 X).bind fun r6 => k16 (x1 + (1 : Int32)) r6
def fX9_writeSlots_16 : Nat → Int32 → bsX → Option (Int32 × bsX)
  | 0, _, _ => none
  | n + 1, x1, X => if bsIn (0 : Int32) 160 then (if (X 14 1 0 (bsIx (0 : Int32))) ≤ x1 then (some ((X 14 0 0 20), X)) else (if x1 ≤ 0 then (fX9_writeSlots_36  (fX9_writeSlots_16  n) x1 X) else ((fX9_says  (32 : Int32) X).bind fun r2 => fX9_writeSlots_36  (fX9_writeSlots_16  n) x1 r2))) else none
def fX9_writeSlots (X : bsX) : Option (Int32 × bsX) := (fX9_notLoaded   X).bind fun r8 => if r8.1 = 0 then (fX9_writeSlots_16   bsF (0 : Int32) (bsWr r8.2 14 0 0 20 (0 : Int32))) else (some ((0 : Int32), r8.2))
abbrev rmX9_writeSlots : Room := { frames := 3, cells := 0, slots := 0, locals := 64 }
set_option maxHeartbeats 4000000 in
set_option maxRecDepth 100000 in
theorem wX9_writeSlots_36 {p : Program} {l : Launch} {e : Env} {s : State} {m : MethodId} {args : Array Value} {below : List Frame} {meth : Method} {c : Code} {ρ : bsR} {cA : Nat → ClassId} {dC : Nat → ClassId} {dI : Nat → Nat → Nat} {Rz : va_W} {Ts : List Cond}  (k16 : Int32 → bsX → Option (Int32 × bsX))  {z : (Int32 × bsX)} (C : bsCx p m c cX9_writeSlots 2 s args Ts RX9 ρ cA dC dI Rz meth (some .int)) (hk16 : ∀ (x1 : Int32) (X : bsX), k16 x1 X = some z → bsV p l e rmX9_writeSlots s m args below meth c 0 0 (MQ below (bsQi ρ cA dC dI Rz z s.heap.size) args s 0 0 (bsA ρ cA Rz s.heap.size)) ρ cA dC dI Rz 2 16 [(0, .ref (ρ 14 0 0)), (1, .int x1)] [] X)  (x1 : Int32) (X : bsX) (hf : fX9_writeSlots_36 k16 x1 X = some z) : bsV p l e rmX9_writeSlots s m args below meth c 0 0 (MQ below (bsQi ρ cA dC dI Rz z s.heap.size) args s 0 0 (bsA ρ cA Rz s.heap.size)) ρ cA dC dI Rz 2 36 [(0, .ref (ρ 14 0 0)), (1, .int x1)] [] X := by
  rw [fX9_writeSlots_36] at hf
  refine v_aload_n C dX9_writeSlots_36 rfl rfl ?_
  refine v_iload_n C dX9_writeSlots_37 rfl rfl ?_
  obtain ⟨r6, hc7, hf⟩ := bs_bind hf
  refine v_callVv (y := yX9_saysSlot) (As := [.int x1]) (rest := []) C (cX9_saysSlot_ok  hc7) ml_X9_330 wyX9_saysSlot (bsm_X9) (bsc_X9) rfl dpX9_saysSlot ⟨Nat.le_of_ble_eq_true rfl, Nat.le_of_ble_eq_true rfl⟩ ⟨rfl, rfl⟩ ⟨Nat.le_of_ble_eq_true rfl, Nat.le_of_ble_eq_true rfl⟩ rfl (Nat.le_of_ble_eq_true rfl) dX9_writeSlots_38 ?_
  refine v_iinc (k0 := 1) (v := (x1 + (1 : Int32))) (lv' := [(1, .int (x1 + (1 : Int32))), (0, .ref (ρ 14 0 0))]) C dX9_writeSlots_41 rfl rfl (by decide) rfl ?_
  refine v_goto (tgt := 16) C dX9_writeSlots_44 (by decide) ?_
  refine v_sub [1, 0] rfl ?_
  exact hk16 _ _  hf
set_option maxHeartbeats 4000000 in
set_option maxRecDepth 100000 in
theorem wX9_writeSlots_16 {p : Program} {l : Launch} {e : Env} {s : State} {m : MethodId} {args : Array Value} {below : List Frame} {meth : Method} {c : Code} {ρ : bsR} {cA : Nat → ClassId} {dC : Nat → ClassId} {dI : Nat → Nat → Nat} {Rz : va_W} {Ts : List Cond}   {z : (Int32 × bsX)} (C : bsCx p m c cX9_writeSlots 2 s args Ts RX9 ρ cA dC dI Rz meth (some .int)) : ∀ (n : Nat) (x1 : Int32) (X : bsX), fX9_writeSlots_16  n x1 X = some z → bsV p l e rmX9_writeSlots s m args below meth c 0 0 (MQ below (bsQi ρ cA dC dI Rz z s.heap.size) args s 0 0 (bsA ρ cA Rz s.heap.size)) ρ cA dC dI Rz 2 16 [(0, .ref (ρ 14 0 0)), (1, .int x1)] [] X := by
  intro n
  induction n with
  | zero => intro x1 X hf; exact (nomatch hf)
  | succ n ih =>
    intro x1 X hf
    rw [fX9_writeSlots_16] at hf
    refine v_iload_n C dX9_writeSlots_16 rfl rfl ?_
    refine v_aload_n C dX9_writeSlots_17 rfl rfl ?_
    refine gf_X9_7 C dX9_writeSlots_18 ?_
    refine v_iconst (v := 0) C dX9_writeSlots_21 (by decide) ?_
    obtain ⟨hi1, hf⟩ := bs_if hf
    refine v_iald (n := 160) C bsm_14_1 bsc_14_1 hi1 dX9_writeSlots_22 ?_
    refine v_icmp_ge (tgt := 47) C dX9_writeSlots_23 (by decide) (fun h5 => ?_) (fun h5 => ?_)
    · replace hf := bs_pos h5 hf
      refine v_aload_n C dX9_writeSlots_47 rfl rfl ?_
      refine gf_X9_321 C dX9_writeSlots_48 ?_
      exact v_iret C hf dX9_writeSlots_51
    · replace hf := bs_neg h5 hf
      refine v_iload_n C dX9_writeSlots_26 rfl rfl ?_
      refine v_if_le (tgt := 36) C dX9_writeSlots_27 (by decide) (fun h4 => ?_) (fun h4 => ?_)
      · replace hf := bs_pos h4 hf
        refine v_sub [0, 1] rfl ?_
        exact wX9_writeSlots_36  (fX9_writeSlots_16  n) C (fun b0 X  h => ih b0 X  h) _ _  hf
      · replace hf := bs_neg h4 hf
        refine v_aload_n C dX9_writeSlots_30 rfl rfl ?_
        refine v_bipush (v := 32) C dX9_writeSlots_31 (by decide) ?_
        obtain ⟨r2, hc3, hf⟩ := bs_bind hf
        refine v_callVv (y := yX9_says) (As := [.int (32 : Int32)]) (rest := []) C (cX9_says_ok  hc3) ml_X9_324 wyX9_says (bsm_X9) (bsc_X9) rfl dpX9_says ⟨Nat.le_of_ble_eq_true rfl, Nat.le_of_ble_eq_true rfl⟩ ⟨rfl, rfl⟩ ⟨Nat.le_of_ble_eq_true rfl, Nat.le_of_ble_eq_true rfl⟩ rfl (Nat.le_of_ble_eq_true rfl) dX9_writeSlots_33 ?_
        refine v_sub [0, 1] rfl ?_
        exact wX9_writeSlots_36  (fX9_writeSlots_16  n) C (fun b0 X  h => ih b0 X  h) _ _  hf
set_option maxHeartbeats 4000000 in
set_option maxRecDepth 100000 in
theorem cX9_writeSlots_ok {l : Launch} {ρ : bsR} {cA : Nat → ClassId} {dC : Nat → ClassId} {dI : Nat → Nat → Nat} {Rz : va_W}  {X : bsX} {z : (Int32 × bsX)} (hf : fX9_writeSlots  X = some z) : bsMi l yX9_writeSlots cX9_writeSlots 2 (some .int) rmX9_writeSlots ρ cA dC dI Rz [.ref (ρ 14 0 0)] X z := by
  refine bsMi_of (by decide) (Nat.le_of_ble_eq_true rfl) (fun p e s m args below meth c C => ?_)
  have C : bsCx p m c cX9_writeSlots 2 s args (Cond.code yX9_writeSlots cX9_writeSlots 2 (some .int) :: bsG) RX9 ρ cA dC dI Rz meth (some .int) := C
  rw [fX9_writeSlots] at hf
  refine v_sub [0] rfl ?_
  refine v_aload_n C dX9_writeSlots_0 rfl rfl ?_
  obtain ⟨r8, hc9, hf⟩ := bs_bind hf
  refine v_callVi (y := yX9_notLoaded) (As := []) (rest := []) C (cX9_notLoaded_ok  hc9) ml_X9_48 wyX9_notLoaded (bsm_X9) (bsc_X9) rfl dpX9_notLoaded ⟨Nat.le_of_ble_eq_true rfl, Nat.le_of_ble_eq_true rfl⟩ ⟨rfl, rfl⟩ ⟨Nat.le_of_ble_eq_true rfl, Nat.le_of_ble_eq_true rfl⟩ rfl (Nat.le_of_ble_eq_true rfl) dX9_writeSlots_1 ?_
  refine v_if_eq (tgt := 9) C dX9_writeSlots_4 (by decide) (fun h10 => ?_) (fun h10 => ?_)
  · replace hf := bs_pos h10 hf
    refine v_aload_n C dX9_writeSlots_9 rfl rfl ?_
    refine v_iconst (v := 0) C dX9_writeSlots_10 (by decide) ?_
    refine pf_X9_321 C dX9_writeSlots_11 ?_
    refine v_iconst (v := 0) C dX9_writeSlots_14 (by decide) ?_
    refine v_istore_n (lv' := [(1, .int (0 : Int32)), (0, .ref (ρ 14 0 0))]) C dX9_writeSlots_15 rfl (by decide) rfl ?_
    refine v_sub [1, 0] rfl ?_
    exact wX9_writeSlots_16   C  bsF _ _  hf
  · replace hf := bs_neg h10 hf
    refine v_iconst (v := 0) C dX9_writeSlots_7 (by decide) ?_
    exact v_iret C hf dX9_writeSlots_8
/-! BootSlotsModel.writeBoots()I -/
def fX9_writeBoots_105 (k16 : Int32 → bsX → Option (Int32 × bsX)) (x1 : Int32) (X : bsX) : Option (Int32 × bsX) := k16 (x1 + (1 : Int32)) X
def fX9_writeBoots_44 (k16 : Int32 → bsX → Option (Int32 × bsX)) (x1 : Int32) (x2 : Int32) (X : bsX) : Option (Int32 × bsX) := if bsIn x2 160 then ((fX9_saysNumber  (X 14 1 0 (bsIx x2)) X).bind fun r10 => if bsIn (x2 + (1 : Int32)) 160 then (if bsIn (r10 14 1 0 (bsIx (x2 + (1 : Int32)))) (bsSl.getD 7 0) then ((fX9_says  (bsChr 7 (bsIx (r10 14 1 0 (bsIx (x2 + (1 : Int32)))))) r10).bind fun r14 => if bsIn (x2 + (3 : Int32)) 160 then (if (r14 14 1 0 (bsIx (x2 + (3 : Int32)))) = (-1 : Int32) then ((fX9_says  (114 : Int32) r14).bind fun r20 => fX9_writeBoots_105  k16 x1 r20) else ((fX9_saysNumber  (r14 14 1 0 (bsIx (x2 + (3 : Int32)))) r14).bind fun r18 => fX9_writeBoots_105  k16 x1 r18)) else none) else none) else none) else none
def fX9_writeBoots_16 : Nat → Int32 → bsX → Option (Int32 × bsX)
  | 0, _, _ => none
  | n + 1, x1, X => if bsIn (28 : Int32) 160 then (if (X 14 1 0 (bsIx (28 : Int32))) ≤ x1 then (if (X 14 0 0 20) = 0 then ((fX9_says  (45 : Int32) X).bind fun r2 => some ((r2 14 0 0 20), r2)) else (some ((X 14 0 0 20), X))) else (if x1 ≤ 0 then (fX9_writeBoots_44  (fX9_writeBoots_16  n) x1 ((29 : Int32) + ((4 : Int32) * x1)) X) else ((fX9_says  (32 : Int32) X).bind fun r5 => fX9_writeBoots_44  (fX9_writeBoots_16  n) x1 ((29 : Int32) + ((4 : Int32) * x1)) r5))) else none
def fX9_writeBoots (X : bsX) : Option (Int32 × bsX) := (fX9_notLoaded   X).bind fun r23 => if r23.1 = 0 then (fX9_writeBoots_16   bsF (0 : Int32) (bsWr r23.2 14 0 0 20 (0 : Int32))) else (some ((0 : Int32), r23.2))
abbrev rmX9_writeBoots : Room := { frames := 4, cells := 0, slots := 0, locals := 85 }
set_option maxHeartbeats 4000000 in
set_option maxRecDepth 100000 in
theorem wX9_writeBoots_105 {p : Program} {l : Launch} {e : Env} {s : State} {m : MethodId} {args : Array Value} {below : List Frame} {meth : Method} {c : Code} {ρ : bsR} {cA : Nat → ClassId} {dC : Nat → ClassId} {dI : Nat → Nat → Nat} {Rz : va_W} {Ts : List Cond}  (k16 : Int32 → bsX → Option (Int32 × bsX))  {z : (Int32 × bsX)} (C : bsCx p m c cX9_writeBoots 3 s args Ts RX9 ρ cA dC dI Rz meth (some .int)) (hk16 : ∀ (x1 : Int32) (X : bsX), k16 x1 X = some z → bsV p l e rmX9_writeBoots s m args below meth c 0 0 (MQ below (bsQi ρ cA dC dI Rz z s.heap.size) args s 0 0 (bsA ρ cA Rz s.heap.size)) ρ cA dC dI Rz 3 16 [(0, .ref (ρ 14 0 0)), (1, .int x1)] [] X)  (x1 : Int32) (X : bsX) (hf : fX9_writeBoots_105 k16 x1 X = some z) : bsV p l e rmX9_writeBoots s m args below meth c 0 0 (MQ below (bsQi ρ cA dC dI Rz z s.heap.size) args s 0 0 (bsA ρ cA Rz s.heap.size)) ρ cA dC dI Rz 3 105 [(0, .ref (ρ 14 0 0)), (1, .int x1)] [] X := by
  rw [fX9_writeBoots_105] at hf
  refine v_iinc (k0 := 1) (v := (x1 + (1 : Int32))) (lv' := [(1, .int (x1 + (1 : Int32))), (0, .ref (ρ 14 0 0))]) C dX9_writeBoots_105 rfl rfl (by decide) rfl ?_
  refine v_goto (tgt := 16) C dX9_writeBoots_108 (by decide) ?_
  refine v_sub [1, 0] rfl ?_
  exact hk16 _ _  hf
set_option maxHeartbeats 4000000 in
set_option maxRecDepth 100000 in
theorem wX9_writeBoots_44 {p : Program} {l : Launch} {e : Env} {s : State} {m : MethodId} {args : Array Value} {below : List Frame} {meth : Method} {c : Code} {ρ : bsR} {cA : Nat → ClassId} {dC : Nat → ClassId} {dI : Nat → Nat → Nat} {Rz : va_W} {Ts : List Cond}  (k16 : Int32 → bsX → Option (Int32 × bsX))  {z : (Int32 × bsX)} (C : bsCx p m c cX9_writeBoots 3 s args Ts RX9 ρ cA dC dI Rz meth (some .int)) (hk16 : ∀ (x1 : Int32) (X : bsX), k16 x1 X = some z → bsV p l e rmX9_writeBoots s m args below meth c 0 0 (MQ below (bsQi ρ cA dC dI Rz z s.heap.size) args s 0 0 (bsA ρ cA Rz s.heap.size)) ρ cA dC dI Rz 3 16 [(0, .ref (ρ 14 0 0)), (1, .int x1)] [] X)  (x1 : Int32) (x2 : Int32) (X : bsX) (hf : fX9_writeBoots_44 k16 x1 x2 X = some z) : bsV p l e rmX9_writeBoots s m args below meth c 0 0 (MQ below (bsQi ρ cA dC dI Rz z s.heap.size) args s 0 0 (bsA ρ cA Rz s.heap.size)) ρ cA dC dI Rz 3 44 [(0, .ref (ρ 14 0 0)), (1, .int x1), (2, .int x2)] [] X := by
  rw [fX9_writeBoots_44] at hf
  refine v_aload_n C dX9_writeBoots_44 rfl rfl ?_
  refine v_aload_n C dX9_writeBoots_45 rfl rfl ?_
  refine gf_X9_7 C dX9_writeBoots_46 ?_
  refine v_iload_n C dX9_writeBoots_49 rfl rfl ?_
  obtain ⟨hi9, hf⟩ := bs_if hf
  refine v_iald (n := 160) C bsm_14_1 bsc_14_1 hi9 dX9_writeBoots_50 ?_
  obtain ⟨r10, hc11, hf⟩ := bs_bind hf
  refine v_callVv (y := yX9_saysNumber) (As := [.int (X 14 1 0 (bsIx x2))]) (rest := []) C (cX9_saysNumber_ok  hc11) ml_X9_327 wyX9_saysNumber (bsm_X9) (bsc_X9) rfl dpX9_saysNumber ⟨Nat.le_of_ble_eq_true rfl, Nat.le_of_ble_eq_true rfl⟩ ⟨rfl, rfl⟩ ⟨Nat.le_of_ble_eq_true rfl, Nat.le_of_ble_eq_true rfl⟩ rfl (Nat.le_of_ble_eq_true rfl) dX9_writeBoots_51 ?_
  refine v_aload_n C dX9_writeBoots_54 rfl rfl ?_
  refine v_ldcSw (tx := "prchi") (t := 7) C (by decide +kernel) dX9_writeBoots_55 ?_
  refine v_aload_n C dX9_writeBoots_58 rfl rfl ?_
  refine gf_X9_7 C dX9_writeBoots_59 ?_
  refine v_iload_n C dX9_writeBoots_62 rfl rfl ?_
  refine v_iconst (v := 1) C dX9_writeBoots_63 (by decide) ?_
  refine v_iadd C dX9_writeBoots_64 ?_
  obtain ⟨hi12, hf⟩ := bs_if hf
  refine v_iald (n := 160) C bsm_14_1 bsc_14_1 hi12 dX9_writeBoots_65 ?_
  obtain ⟨hi13, hf⟩ := bs_if hf
  refine v_callTi (y := yJ0_charAt_5068e) (As := [.int (r10 14 1 0 (bsIx (x2 + (1 : Int32))))]) (rest := [.ref (ρ 14 0 0)]) C (by decide) rfl (cJ0_charAt_5068e_ok (by decide) hi13) ml_X9_182 wyJ0_charAt_5068e dpJ0_charAt_5068e ⟨Nat.le_of_ble_eq_true rfl, Nat.le_of_ble_eq_true rfl⟩ ⟨rfl, rfl⟩ ⟨Nat.zero_le _, Nat.zero_le _⟩ rfl (Nat.le_of_ble_eq_true rfl) dX9_writeBoots_66 ?_
  obtain ⟨r14, hc15, hf⟩ := bs_bind hf
  refine v_callVv (y := yX9_says) (As := [.int (bsChr 7 (bsIx (r10 14 1 0 (bsIx (x2 + (1 : Int32))))))]) (rest := []) C (cX9_says_ok  hc15) ml_X9_324 wyX9_says (bsm_X9) (bsc_X9) rfl dpX9_says ⟨Nat.le_of_ble_eq_true rfl, Nat.le_of_ble_eq_true rfl⟩ ⟨rfl, rfl⟩ ⟨Nat.le_of_ble_eq_true rfl, Nat.le_of_ble_eq_true rfl⟩ rfl (Nat.le_of_ble_eq_true rfl) dX9_writeBoots_69 ?_
  refine v_aload_n C dX9_writeBoots_72 rfl rfl ?_
  refine gf_X9_7 C dX9_writeBoots_73 ?_
  refine v_iload_n C dX9_writeBoots_76 rfl rfl ?_
  refine v_iconst (v := 3) C dX9_writeBoots_77 (by decide) ?_
  refine v_iadd C dX9_writeBoots_78 ?_
  obtain ⟨hi16, hf⟩ := bs_if hf
  refine v_iald (n := 160) C bsm_14_1 bsc_14_1 hi16 dX9_writeBoots_79 ?_
  refine v_iconst (v := -1) C dX9_writeBoots_80 (by decide) ?_
  refine v_icmp_ne (tgt := 93) C dX9_writeBoots_81 (by decide) (fun h22 => ?_) (fun h22 => ?_)
  · replace hf := bs_neg h22 hf
    refine v_aload_n C dX9_writeBoots_93 rfl rfl ?_
    refine v_aload_n C dX9_writeBoots_94 rfl rfl ?_
    refine gf_X9_7 C dX9_writeBoots_95 ?_
    refine v_iload_n C dX9_writeBoots_98 rfl rfl ?_
    refine v_iconst (v := 3) C dX9_writeBoots_99 (by decide) ?_
    refine v_iadd C dX9_writeBoots_100 ?_
    refine v_iald (n := 160) C bsm_14_1 bsc_14_1 hi16 dX9_writeBoots_101 ?_
    obtain ⟨r18, hc19, hf⟩ := bs_bind hf
    refine v_callVv (y := yX9_saysNumber) (As := [.int (r14 14 1 0 (bsIx (x2 + (3 : Int32))))]) (rest := []) C (cX9_saysNumber_ok  hc19) ml_X9_327 wyX9_saysNumber (bsm_X9) (bsc_X9) rfl dpX9_saysNumber ⟨Nat.le_of_ble_eq_true rfl, Nat.le_of_ble_eq_true rfl⟩ ⟨rfl, rfl⟩ ⟨Nat.le_of_ble_eq_true rfl, Nat.le_of_ble_eq_true rfl⟩ rfl (Nat.le_of_ble_eq_true rfl) dX9_writeBoots_102 ?_
    refine v_sub [0, 1] rfl ?_
    exact wX9_writeBoots_105  k16 C hk16 _ _  hf
  · replace hf := bs_pos h22 hf
    refine v_aload_n C dX9_writeBoots_84 rfl rfl ?_
    refine v_bipush (v := 114) C dX9_writeBoots_85 (by decide) ?_
    obtain ⟨r20, hc21, hf⟩ := bs_bind hf
    refine v_callVv (y := yX9_says) (As := [.int (114 : Int32)]) (rest := []) C (cX9_says_ok  hc21) ml_X9_324 wyX9_says (bsm_X9) (bsc_X9) rfl dpX9_says ⟨Nat.le_of_ble_eq_true rfl, Nat.le_of_ble_eq_true rfl⟩ ⟨rfl, rfl⟩ ⟨Nat.le_of_ble_eq_true rfl, Nat.le_of_ble_eq_true rfl⟩ rfl (Nat.le_of_ble_eq_true rfl) dX9_writeBoots_87 ?_
    refine v_goto (tgt := 105) C dX9_writeBoots_90 (by decide) ?_
    refine v_sub [0, 1] rfl ?_
    exact wX9_writeBoots_105  k16 C hk16 _ _  hf
set_option maxHeartbeats 4000000 in
set_option maxRecDepth 100000 in
theorem wX9_writeBoots_16 {p : Program} {l : Launch} {e : Env} {s : State} {m : MethodId} {args : Array Value} {below : List Frame} {meth : Method} {c : Code} {ρ : bsR} {cA : Nat → ClassId} {dC : Nat → ClassId} {dI : Nat → Nat → Nat} {Rz : va_W} {Ts : List Cond}   {z : (Int32 × bsX)} (C : bsCx p m c cX9_writeBoots 3 s args Ts RX9 ρ cA dC dI Rz meth (some .int)) : ∀ (n : Nat) (x1 : Int32) (X : bsX), fX9_writeBoots_16  n x1 X = some z → bsV p l e rmX9_writeBoots s m args below meth c 0 0 (MQ below (bsQi ρ cA dC dI Rz z s.heap.size) args s 0 0 (bsA ρ cA Rz s.heap.size)) ρ cA dC dI Rz 3 16 [(0, .ref (ρ 14 0 0)), (1, .int x1)] [] X := by
  intro n
  induction n with
  | zero => intro x1 X hf; exact (nomatch hf)
  | succ n ih =>
    intro x1 X hf
    rw [fX9_writeBoots_16] at hf
    refine v_iload_n C dX9_writeBoots_16 rfl rfl ?_
    refine v_aload_n C dX9_writeBoots_17 rfl rfl ?_
    refine gf_X9_7 C dX9_writeBoots_18 ?_
    refine v_bipush (v := 28) C dX9_writeBoots_21 (by decide) ?_
    obtain ⟨hi1, hf⟩ := bs_if hf
    refine v_iald (n := 160) C bsm_14_1 bsc_14_1 hi1 dX9_writeBoots_23 ?_
    refine v_icmp_ge (tgt := 111) C dX9_writeBoots_24 (by decide) (fun h8 => ?_) (fun h8 => ?_)
    · replace hf := bs_pos h8 hf
      refine v_aload_n C dX9_writeBoots_111 rfl rfl ?_
      refine gf_X9_321 C dX9_writeBoots_112 ?_
      refine v_if_ne (tgt := 124) C dX9_writeBoots_115 (by decide) (fun h4 => ?_) (fun h4 => ?_)
      · replace hf := bs_neg h4 hf
        refine v_aload_n C dX9_writeBoots_124 rfl rfl ?_
        refine gf_X9_321 C dX9_writeBoots_125 ?_
        exact v_iret C hf dX9_writeBoots_128
      · replace hf := bs_pos h4 hf
        refine v_aload_n C dX9_writeBoots_118 rfl rfl ?_
        refine v_bipush (v := 45) C dX9_writeBoots_119 (by decide) ?_
        obtain ⟨r2, hc3, hf⟩ := bs_bind hf
        refine v_callVv (y := yX9_says) (As := [.int (45 : Int32)]) (rest := []) C (cX9_says_ok  hc3) ml_X9_324 wyX9_says (bsm_X9) (bsc_X9) rfl dpX9_says ⟨Nat.le_of_ble_eq_true rfl, Nat.le_of_ble_eq_true rfl⟩ ⟨rfl, rfl⟩ ⟨Nat.le_of_ble_eq_true rfl, Nat.le_of_ble_eq_true rfl⟩ rfl (Nat.le_of_ble_eq_true rfl) dX9_writeBoots_121 ?_
        refine v_aload_n C dX9_writeBoots_124 rfl rfl ?_
        refine gf_X9_321 C dX9_writeBoots_125 ?_
        exact v_iret C hf dX9_writeBoots_128
    · replace hf := bs_neg h8 hf
      refine v_bipush (v := 29) C dX9_writeBoots_27 (by decide) ?_
      refine v_iconst (v := 4) C dX9_writeBoots_29 (by decide) ?_
      refine v_iload_n C dX9_writeBoots_30 rfl rfl ?_
      refine v_imul C dX9_writeBoots_31 ?_
      refine v_iadd C dX9_writeBoots_32 ?_
      refine v_istore_n (lv' := [(2, .int ((29 : Int32) + ((4 : Int32) * x1))), (0, .ref (ρ 14 0 0)), (1, .int x1)]) C dX9_writeBoots_33 rfl (by decide) rfl ?_
      refine v_iload_n C dX9_writeBoots_34 rfl rfl ?_
      refine v_if_le (tgt := 44) C dX9_writeBoots_35 (by decide) (fun h7 => ?_) (fun h7 => ?_)
      · replace hf := bs_pos h7 hf
        refine v_sub [1, 2, 0] rfl ?_
        exact wX9_writeBoots_44  (fX9_writeBoots_16  n) C (fun b0 X  h => ih b0 X  h) _ _ _  hf
      · replace hf := bs_neg h7 hf
        refine v_aload_n C dX9_writeBoots_38 rfl rfl ?_
        refine v_bipush (v := 32) C dX9_writeBoots_39 (by decide) ?_
        obtain ⟨r5, hc6, hf⟩ := bs_bind hf
        refine v_callVv (y := yX9_says) (As := [.int (32 : Int32)]) (rest := []) C (cX9_says_ok  hc6) ml_X9_324 wyX9_says (bsm_X9) (bsc_X9) rfl dpX9_says ⟨Nat.le_of_ble_eq_true rfl, Nat.le_of_ble_eq_true rfl⟩ ⟨rfl, rfl⟩ ⟨Nat.le_of_ble_eq_true rfl, Nat.le_of_ble_eq_true rfl⟩ rfl (Nat.le_of_ble_eq_true rfl) dX9_writeBoots_41 ?_
        refine v_sub [1, 2, 0] rfl ?_
        exact wX9_writeBoots_44  (fX9_writeBoots_16  n) C (fun b0 X  h => ih b0 X  h) _ _ _  hf
set_option maxHeartbeats 4000000 in
set_option maxRecDepth 100000 in
theorem cX9_writeBoots_ok {l : Launch} {ρ : bsR} {cA : Nat → ClassId} {dC : Nat → ClassId} {dI : Nat → Nat → Nat} {Rz : va_W}  {X : bsX} {z : (Int32 × bsX)} (hf : fX9_writeBoots  X = some z) : bsMi l yX9_writeBoots cX9_writeBoots 3 (some .int) rmX9_writeBoots ρ cA dC dI Rz [.ref (ρ 14 0 0)] X z := by
  refine bsMi_of (by decide) (Nat.le_of_ble_eq_true rfl) (fun p e s m args below meth c C => ?_)
  have C : bsCx p m c cX9_writeBoots 3 s args (Cond.code yX9_writeBoots cX9_writeBoots 3 (some .int) :: bsG) RX9 ρ cA dC dI Rz meth (some .int) := C
  rw [fX9_writeBoots] at hf
  refine v_sub [0] rfl ?_
  refine v_aload_n C dX9_writeBoots_0 rfl rfl ?_
  obtain ⟨r23, hc24, hf⟩ := bs_bind hf
  refine v_callVi (y := yX9_notLoaded) (As := []) (rest := []) C (cX9_notLoaded_ok  hc24) ml_X9_48 wyX9_notLoaded (bsm_X9) (bsc_X9) rfl dpX9_notLoaded ⟨Nat.le_of_ble_eq_true rfl, Nat.le_of_ble_eq_true rfl⟩ ⟨rfl, rfl⟩ ⟨Nat.le_of_ble_eq_true rfl, Nat.le_of_ble_eq_true rfl⟩ rfl (Nat.le_of_ble_eq_true rfl) dX9_writeBoots_1 ?_
  refine v_if_eq (tgt := 9) C dX9_writeBoots_4 (by decide) (fun h25 => ?_) (fun h25 => ?_)
  · replace hf := bs_pos h25 hf
    refine v_aload_n C dX9_writeBoots_9 rfl rfl ?_
    refine v_iconst (v := 0) C dX9_writeBoots_10 (by decide) ?_
    refine pf_X9_321 C dX9_writeBoots_11 ?_
    refine v_iconst (v := 0) C dX9_writeBoots_14 (by decide) ?_
    refine v_istore_n (lv' := [(1, .int (0 : Int32)), (0, .ref (ρ 14 0 0))]) C dX9_writeBoots_15 rfl (by decide) rfl ?_
    refine v_sub [1, 0] rfl ?_
    exact wX9_writeBoots_16   C  bsF _ _  hf
  · replace hf := bs_neg h25 hf
    refine v_iconst (v := 0) C dX9_writeBoots_7 (by decide) ?_
    exact v_iret C hf dX9_writeBoots_8
/-! BootSlotsModel.saysWord(Ljava/lang/String;)V -/
def fX9_saysWord_2 (t1 : Nat) : Nat → Int32 → bsX → Option bsX
  | 0, _, _ => none
  | n + 1, x2, X => if (bsLen t1) ≤ x2 then (some X) else (if bsIn x2 (bsSl.getD t1 0) then ((fX9_says  (bsChr t1 (bsIx x2)) X).bind fun r2 => fX9_saysWord_2 t1 n (x2 + (1 : Int32)) r2) else none)
def fX9_saysWord (t1 : Nat) (X : bsX) : Option bsX := fX9_saysWord_2 t1  bsF (0 : Int32) X
abbrev rmX9_saysWord : Room := { frames := 4, cells := 0, slots := 0, locals := 85 }
set_option maxHeartbeats 4000000 in
set_option maxRecDepth 100000 in
theorem wX9_saysWord_2 {p : Program} {l : Launch} {e : Env} {s : State} {m : MethodId} {args : Array Value} {below : List Frame} {meth : Method} {c : Code} {ρ : bsR} {cA : Nat → ClassId} {dC : Nat → ClassId} {dI : Nat → Nat → Nat} {Rz : va_W} {Ts : List Cond} {t1 : Nat} (ht1 : t1 < 14)  {z : bsX} (C : bsCx p m c cX9_saysWord 3 s args Ts RX9 ρ cA dC dI Rz meth none) : ∀ (n : Nat) (x2 : Int32) (X : bsX), fX9_saysWord_2 t1 n x2 X = some z → bsV p l e rmX9_saysWord s m args below meth c 0 0 (MQ below (bsQv ρ cA dC dI Rz z s.heap.size) args s 0 0 (bsA ρ cA Rz s.heap.size)) ρ cA dC dI Rz 3 2 [(0, .ref (ρ 14 0 0)), (1, .ref (ρ 16 0 t1)), (2, .int x2)] [] X := by
  intro n
  induction n with
  | zero => intro x2 X hf; exact (nomatch hf)
  | succ n ih =>
    intro x2 X hf
    rw [fX9_saysWord_2] at hf
    refine v_iload_n C dX9_saysWord_2 rfl rfl ?_
    refine v_aload_n C dX9_saysWord_3 rfl rfl ?_
    refine v_callTi (y := yJ0_length_8abf5) (As := []) (rest := [.int x2]) C ht1 rfl (cJ0_length_8abf5_ok ht1) ml_X9_178 wyJ0_length_8abf5 dpJ0_length_8abf5 ⟨Nat.le_of_ble_eq_true rfl, Nat.le_of_ble_eq_true rfl⟩ ⟨rfl, rfl⟩ ⟨Nat.zero_le _, Nat.zero_le _⟩ rfl (Nat.le_of_ble_eq_true rfl) dX9_saysWord_4 ?_
    refine v_icmp_ge (tgt := 25) C dX9_saysWord_7 (by decide) (fun h4 => ?_) (fun h4 => ?_)
    · replace hf := bs_pos h4 hf
      exact v_vret C hf dX9_saysWord_25
    · replace hf := bs_neg h4 hf
      refine v_aload_n C dX9_saysWord_10 rfl rfl ?_
      refine v_aload_n C dX9_saysWord_11 rfl rfl ?_
      refine v_iload_n C dX9_saysWord_12 rfl rfl ?_
      obtain ⟨hi1, hf⟩ := bs_if hf
      refine v_callTi (y := yJ0_charAt_5068e) (As := [.int x2]) (rest := [.ref (ρ 14 0 0)]) C ht1 rfl (cJ0_charAt_5068e_ok ht1 hi1) ml_X9_182 wyJ0_charAt_5068e dpJ0_charAt_5068e ⟨Nat.le_of_ble_eq_true rfl, Nat.le_of_ble_eq_true rfl⟩ ⟨rfl, rfl⟩ ⟨Nat.zero_le _, Nat.zero_le _⟩ rfl (Nat.le_of_ble_eq_true rfl) dX9_saysWord_13 ?_
      obtain ⟨r2, hc3, hf⟩ := bs_bind hf
      refine v_callVv (y := yX9_says) (As := [.int (bsChr t1 (bsIx x2))]) (rest := []) C (cX9_says_ok  hc3) ml_X9_324 wyX9_says (bsm_X9) (bsc_X9) rfl dpX9_says ⟨Nat.le_of_ble_eq_true rfl, Nat.le_of_ble_eq_true rfl⟩ ⟨rfl, rfl⟩ ⟨Nat.le_of_ble_eq_true rfl, Nat.le_of_ble_eq_true rfl⟩ rfl (Nat.le_of_ble_eq_true rfl) dX9_saysWord_16 ?_
      refine v_iinc (k0 := 2) (v := (x2 + (1 : Int32))) (lv' := [(2, .int (x2 + (1 : Int32))), (0, .ref (ρ 14 0 0)), (1, .ref (ρ 16 0 t1))]) C dX9_saysWord_19 rfl rfl (by decide) rfl ?_
      refine v_goto (tgt := 2) C dX9_saysWord_22 (by decide) ?_
      refine v_sub [1, 2, 0] rfl ?_
      exact ih _ _  hf
set_option maxHeartbeats 4000000 in
set_option maxRecDepth 100000 in
theorem cX9_saysWord_ok {l : Launch} {ρ : bsR} {cA : Nat → ClassId} {dC : Nat → ClassId} {dI : Nat → Nat → Nat} {Rz : va_W} {t1 : Nat} (ht1 : t1 < 14) {X : bsX} {z : bsX} (hf : fX9_saysWord t1 X = some z) : bsMv l yX9_saysWord cX9_saysWord 3 none rmX9_saysWord ρ cA dC dI Rz [.ref (ρ 14 0 0), .ref (ρ 16 0 t1)] X z := by
  refine bsMv_of (by decide) (Nat.le_of_ble_eq_true rfl) (fun p e s m args below meth c C => ?_)
  have C : bsCx p m c cX9_saysWord 3 s args (Cond.code yX9_saysWord cX9_saysWord 3 none :: bsG) RX9 ρ cA dC dI Rz meth none := C
  rw [fX9_saysWord] at hf
  refine v_sub [0, 1] rfl ?_
  refine v_iconst (v := 0) C dX9_saysWord_0 (by decide) ?_
  refine v_istore_n (lv' := [(2, .int (0 : Int32)), (0, .ref (ρ 14 0 0)), (1, .ref (ρ 16 0 t1))]) C dX9_saysWord_1 rfl (by decide) rfl ?_
  refine v_sub [1, 2, 0] rfl ?_
  exact wX9_saysWord_2 ht1  C  bsF _ _  hf
/-! BootSlotsModel.saysField(I)V -/
def fX9_saysField (a1 : Int32) (X : bsX) : Option bsX := (fX9_says  (32 : Int32) X).bind fun r1 => (fX9_saysNumber  a1 r1).bind fun r3 => some r3
abbrev rmX9_saysField : Room := { frames := 2, cells := 0, slots := 0, locals := 43 }
set_option maxHeartbeats 4000000 in
set_option maxRecDepth 100000 in
theorem cX9_saysField_ok {l : Launch} {ρ : bsR} {cA : Nat → ClassId} {dC : Nat → ClassId} {dI : Nat → Nat → Nat} {Rz : va_W}  {a1 : Int32} {X : bsX} {z : bsX} (hf : fX9_saysField a1 X = some z) : bsMv l yX9_saysField cX9_saysField 2 none rmX9_saysField ρ cA dC dI Rz [.ref (ρ 14 0 0), .int a1] X z := by
  refine bsMv_of (by decide) (Nat.le_of_ble_eq_true rfl) (fun p e s m args below meth c C => ?_)
  have C : bsCx p m c cX9_saysField 2 s args (Cond.code yX9_saysField cX9_saysField 2 none :: bsG) RX9 ρ cA dC dI Rz meth none := C
  rw [fX9_saysField] at hf
  refine v_sub [0, 1] rfl ?_
  refine v_aload_n C dX9_saysField_0 rfl rfl ?_
  refine v_bipush (v := 32) C dX9_saysField_1 (by decide) ?_
  obtain ⟨r1, hc2, hf⟩ := bs_bind hf
  refine v_callVv (y := yX9_says) (As := [.int (32 : Int32)]) (rest := []) C (cX9_says_ok  hc2) ml_X9_324 wyX9_says (bsm_X9) (bsc_X9) rfl dpX9_says ⟨Nat.le_of_ble_eq_true rfl, Nat.le_of_ble_eq_true rfl⟩ ⟨rfl, rfl⟩ ⟨Nat.le_of_ble_eq_true rfl, Nat.le_of_ble_eq_true rfl⟩ rfl (Nat.le_of_ble_eq_true rfl) dX9_saysField_3 ?_
  refine v_aload_n C dX9_saysField_6 rfl rfl ?_
  refine v_iload_n C dX9_saysField_7 rfl rfl ?_
  obtain ⟨r3, hc4, hf⟩ := bs_bind hf
  refine v_callVv (y := yX9_saysNumber) (As := [.int a1]) (rest := []) C (cX9_saysNumber_ok  hc4) ml_X9_327 wyX9_saysNumber (bsm_X9) (bsc_X9) rfl dpX9_saysNumber ⟨Nat.le_of_ble_eq_true rfl, Nat.le_of_ble_eq_true rfl⟩ ⟨rfl, rfl⟩ ⟨Nat.le_of_ble_eq_true rfl, Nat.le_of_ble_eq_true rfl⟩ rfl (Nat.le_of_ble_eq_true rfl) dX9_saysField_8 ?_
  exact v_vret C hf dX9_saysField_11
/-! BootSlotsModel.saysImage(I)V -/
def fX9_saysImage_81 (x1 : Int32) (X : bsX) : Option bsX := (fX9_saysWord 12  X).bind fun r1 => (fX9_saysField  x1 r1).bind fun r3 => (fX9_of  x1 (1 : Int32) r3).bind fun r5 => (fX9_saysField  r5.1 r5.2).bind fun r7 => (fX9_of  x1 (2 : Int32) r7).bind fun r9 => (fX9_saysField  r9.1 r9.2).bind fun r11 => (fX9_isGood  x1 r11).bind fun r13 => if r13.1 = 0 then (some r13.2) else ((fX9_saysWord 13  r13.2).bind fun r15 => some r15)
def fX9_saysImage_63 (x1 : Int32) (X : bsX) : Option bsX := (fX9_of  x1 (12 : Int32) X).bind fun r18 => if r18.1 = (1 : Int32) then ((fX9_saysWord 11  r18.2).bind fun r20 => fX9_saysImage_81   x1 r20) else (fX9_saysImage_81   x1 r18.2)
def fX9_saysImage (a1 : Int32) (X : bsX) : Option bsX := (fX9_saysWord 9  X).bind fun r23 => (fX9_saysField  a1 r23).bind fun r25 => (fX9_of  a1 (8 : Int32) r25).bind fun r27 => (fX9_saysField  r27.1 r27.2).bind fun r29 => (fX9_of  a1 (9 : Int32) r29).bind fun r31 => (fX9_saysField  r31.1 r31.2).bind fun r33 => (fX9_of  a1 (10 : Int32) r33).bind fun r35 => (fX9_saysField  r35.1 r35.2).bind fun r37 => (fX9_of  a1 (11 : Int32) r37).bind fun r39 => if r39.1 = (1 : Int32) then ((fX9_saysWord 10  r39.2).bind fun r41 => fX9_saysImage_63   a1 r41) else (fX9_saysImage_63   a1 r39.2)
abbrev rmX9_saysImage : Room := { frames := 5, cells := 0, slots := 0, locals := 107 }
set_option maxHeartbeats 4000000 in
set_option maxRecDepth 100000 in
theorem wX9_saysImage_81 {p : Program} {l : Launch} {e : Env} {s : State} {m : MethodId} {args : Array Value} {below : List Frame} {meth : Method} {c : Code} {ρ : bsR} {cA : Nat → ClassId} {dC : Nat → ClassId} {dI : Nat → Nat → Nat} {Rz : va_W} {Ts : List Cond}   {z : bsX} (C : bsCx p m c cX9_saysImage 2 s args Ts RX9 ρ cA dC dI Rz meth none) (x1 : Int32) (X : bsX) (hf : fX9_saysImage_81 x1 X = some z) : bsV p l e rmX9_saysImage s m args below meth c 0 0 (MQ below (bsQv ρ cA dC dI Rz z s.heap.size) args s 0 0 (bsA ρ cA Rz s.heap.size)) ρ cA dC dI Rz 2 81 [(0, .ref (ρ 14 0 0)), (1, .int x1)] [] X := by
  rw [fX9_saysImage_81] at hf
  refine v_aload_n C dX9_saysImage_81 rfl rfl ?_
  refine v_ldcSw (tx := ";mark") (t := 12) C (by decide +kernel) dX9_saysImage_82 ?_
  obtain ⟨r1, hc2, hf⟩ := bs_bind hf
  refine v_callVv (y := yX9_saysWord) (As := [.ref (ρ 16 0 12)]) (rest := []) C (cX9_saysWord_ok (by decide) hc2) ml_X9_337 wyX9_saysWord (bsm_X9) (bsc_X9) rfl dpX9_saysWord ⟨Nat.le_of_ble_eq_true rfl, Nat.le_of_ble_eq_true rfl⟩ ⟨rfl, rfl⟩ ⟨Nat.le_of_ble_eq_true rfl, Nat.le_of_ble_eq_true rfl⟩ rfl (Nat.le_of_ble_eq_true rfl) dX9_saysImage_85 ?_
  refine v_aload_n C dX9_saysImage_88 rfl rfl ?_
  refine v_iload_n C dX9_saysImage_89 rfl rfl ?_
  obtain ⟨r3, hc4, hf⟩ := bs_bind hf
  refine v_callVv (y := yX9_saysField) (As := [.int x1]) (rest := []) C (cX9_saysField_ok  hc4) ml_X9_341 wyX9_saysField (bsm_X9) (bsc_X9) rfl dpX9_saysField ⟨Nat.le_of_ble_eq_true rfl, Nat.le_of_ble_eq_true rfl⟩ ⟨rfl, rfl⟩ ⟨Nat.le_of_ble_eq_true rfl, Nat.le_of_ble_eq_true rfl⟩ rfl (Nat.le_of_ble_eq_true rfl) dX9_saysImage_90 ?_
  refine v_aload_n C dX9_saysImage_93 rfl rfl ?_
  refine v_aload_n C dX9_saysImage_94 rfl rfl ?_
  refine v_iload_n C dX9_saysImage_95 rfl rfl ?_
  refine v_iconst (v := 1) C dX9_saysImage_96 (by decide) ?_
  obtain ⟨r5, hc6, hf⟩ := bs_bind hf
  refine v_callVi (y := yX9_of) (As := [.int x1, .int (1 : Int32)]) (rest := [.ref (ρ 14 0 0)]) C (cX9_of_ok  hc6) ml_X9_56 wyX9_of (bsm_X9) (bsc_X9) rfl dpX9_of ⟨Nat.le_of_ble_eq_true rfl, Nat.le_of_ble_eq_true rfl⟩ ⟨rfl, rfl⟩ ⟨Nat.le_of_ble_eq_true rfl, Nat.le_of_ble_eq_true rfl⟩ rfl (Nat.le_of_ble_eq_true rfl) dX9_saysImage_97 ?_
  obtain ⟨r7, hc8, hf⟩ := bs_bind hf
  refine v_callVv (y := yX9_saysField) (As := [.int r5.1]) (rest := []) C (cX9_saysField_ok  hc8) ml_X9_341 wyX9_saysField (bsm_X9) (bsc_X9) rfl dpX9_saysField ⟨Nat.le_of_ble_eq_true rfl, Nat.le_of_ble_eq_true rfl⟩ ⟨rfl, rfl⟩ ⟨Nat.le_of_ble_eq_true rfl, Nat.le_of_ble_eq_true rfl⟩ rfl (Nat.le_of_ble_eq_true rfl) dX9_saysImage_100 ?_
  refine v_aload_n C dX9_saysImage_103 rfl rfl ?_
  refine v_aload_n C dX9_saysImage_104 rfl rfl ?_
  refine v_iload_n C dX9_saysImage_105 rfl rfl ?_
  refine v_iconst (v := 2) C dX9_saysImage_106 (by decide) ?_
  obtain ⟨r9, hc10, hf⟩ := bs_bind hf
  refine v_callVi (y := yX9_of) (As := [.int x1, .int (2 : Int32)]) (rest := [.ref (ρ 14 0 0)]) C (cX9_of_ok  hc10) ml_X9_56 wyX9_of (bsm_X9) (bsc_X9) rfl dpX9_of ⟨Nat.le_of_ble_eq_true rfl, Nat.le_of_ble_eq_true rfl⟩ ⟨rfl, rfl⟩ ⟨Nat.le_of_ble_eq_true rfl, Nat.le_of_ble_eq_true rfl⟩ rfl (Nat.le_of_ble_eq_true rfl) dX9_saysImage_107 ?_
  obtain ⟨r11, hc12, hf⟩ := bs_bind hf
  refine v_callVv (y := yX9_saysField) (As := [.int r9.1]) (rest := []) C (cX9_saysField_ok  hc12) ml_X9_341 wyX9_saysField (bsm_X9) (bsc_X9) rfl dpX9_saysField ⟨Nat.le_of_ble_eq_true rfl, Nat.le_of_ble_eq_true rfl⟩ ⟨rfl, rfl⟩ ⟨Nat.le_of_ble_eq_true rfl, Nat.le_of_ble_eq_true rfl⟩ rfl (Nat.le_of_ble_eq_true rfl) dX9_saysImage_110 ?_
  refine v_aload_n C dX9_saysImage_113 rfl rfl ?_
  refine v_iload_n C dX9_saysImage_114 rfl rfl ?_
  obtain ⟨r13, hc14, hf⟩ := bs_bind hf
  refine v_callVi (y := yX9_isGood) (As := [.int x1]) (rest := []) C (cX9_isGood_ok  hc14) ml_X9_63 wyX9_isGood (bsm_X9) (bsc_X9) rfl dpX9_isGood ⟨Nat.le_of_ble_eq_true rfl, Nat.le_of_ble_eq_true rfl⟩ ⟨rfl, rfl⟩ ⟨Nat.le_of_ble_eq_true rfl, Nat.le_of_ble_eq_true rfl⟩ rfl (Nat.le_of_ble_eq_true rfl) dX9_saysImage_115 ?_
  refine v_if_eq (tgt := 128) C dX9_saysImage_118 (by decide) (fun h17 => ?_) (fun h17 => ?_)
  · replace hf := bs_pos h17 hf
    exact v_vret C hf dX9_saysImage_128
  · replace hf := bs_neg h17 hf
    refine v_aload_n C dX9_saysImage_121 rfl rfl ?_
    refine v_ldcSw (tx := " good") (t := 13) C (by decide +kernel) dX9_saysImage_122 ?_
    obtain ⟨r15, hc16, hf⟩ := bs_bind hf
    refine v_callVv (y := yX9_saysWord) (As := [.ref (ρ 16 0 13)]) (rest := []) C (cX9_saysWord_ok (by decide) hc16) ml_X9_337 wyX9_saysWord (bsm_X9) (bsc_X9) rfl dpX9_saysWord ⟨Nat.le_of_ble_eq_true rfl, Nat.le_of_ble_eq_true rfl⟩ ⟨rfl, rfl⟩ ⟨Nat.le_of_ble_eq_true rfl, Nat.le_of_ble_eq_true rfl⟩ rfl (Nat.le_of_ble_eq_true rfl) dX9_saysImage_125 ?_
    exact v_vret C hf dX9_saysImage_128
set_option maxHeartbeats 4000000 in
set_option maxRecDepth 100000 in
theorem wX9_saysImage_63 {p : Program} {l : Launch} {e : Env} {s : State} {m : MethodId} {args : Array Value} {below : List Frame} {meth : Method} {c : Code} {ρ : bsR} {cA : Nat → ClassId} {dC : Nat → ClassId} {dI : Nat → Nat → Nat} {Rz : va_W} {Ts : List Cond}   {z : bsX} (C : bsCx p m c cX9_saysImage 2 s args Ts RX9 ρ cA dC dI Rz meth none) (x1 : Int32) (X : bsX) (hf : fX9_saysImage_63 x1 X = some z) : bsV p l e rmX9_saysImage s m args below meth c 0 0 (MQ below (bsQv ρ cA dC dI Rz z s.heap.size) args s 0 0 (bsA ρ cA Rz s.heap.size)) ρ cA dC dI Rz 2 63 [(0, .ref (ρ 14 0 0)), (1, .int x1)] [] X := by
  rw [fX9_saysImage_63] at hf
  refine v_aload_n C dX9_saysImage_63 rfl rfl ?_
  refine v_iload_n C dX9_saysImage_64 rfl rfl ?_
  refine v_bipush (v := 12) C dX9_saysImage_65 (by decide) ?_
  obtain ⟨r18, hc19, hf⟩ := bs_bind hf
  refine v_callVi (y := yX9_of) (As := [.int x1, .int (12 : Int32)]) (rest := []) C (cX9_of_ok  hc19) ml_X9_56 wyX9_of (bsm_X9) (bsc_X9) rfl dpX9_of ⟨Nat.le_of_ble_eq_true rfl, Nat.le_of_ble_eq_true rfl⟩ ⟨rfl, rfl⟩ ⟨Nat.le_of_ble_eq_true rfl, Nat.le_of_ble_eq_true rfl⟩ rfl (Nat.le_of_ble_eq_true rfl) dX9_saysImage_67 ?_
  refine v_iconst (v := 1) C dX9_saysImage_70 (by decide) ?_
  refine v_icmp_ne (tgt := 81) C dX9_saysImage_71 (by decide) (fun h22 => ?_) (fun h22 => ?_)
  · replace hf := bs_neg h22 hf
    refine v_sub [0, 1] rfl ?_
    exact wX9_saysImage_81   C  _ _  hf
  · replace hf := bs_pos h22 hf
    refine v_aload_n C dX9_saysImage_74 rfl rfl ?_
    refine v_ldcSw (tx := " damaged") (t := 11) C (by decide +kernel) dX9_saysImage_75 ?_
    obtain ⟨r20, hc21, hf⟩ := bs_bind hf
    refine v_callVv (y := yX9_saysWord) (As := [.ref (ρ 16 0 11)]) (rest := []) C (cX9_saysWord_ok (by decide) hc21) ml_X9_337 wyX9_saysWord (bsm_X9) (bsc_X9) rfl dpX9_saysWord ⟨Nat.le_of_ble_eq_true rfl, Nat.le_of_ble_eq_true rfl⟩ ⟨rfl, rfl⟩ ⟨Nat.le_of_ble_eq_true rfl, Nat.le_of_ble_eq_true rfl⟩ rfl (Nat.le_of_ble_eq_true rfl) dX9_saysImage_78 ?_
    refine v_sub [0, 1] rfl ?_
    exact wX9_saysImage_81   C  _ _  hf
set_option maxHeartbeats 4000000 in
set_option maxRecDepth 100000 in
theorem cX9_saysImage_ok {l : Launch} {ρ : bsR} {cA : Nat → ClassId} {dC : Nat → ClassId} {dI : Nat → Nat → Nat} {Rz : va_W}  {a1 : Int32} {X : bsX} {z : bsX} (hf : fX9_saysImage a1 X = some z) : bsMv l yX9_saysImage cX9_saysImage 2 none rmX9_saysImage ρ cA dC dI Rz [.ref (ρ 14 0 0), .int a1] X z := by
  refine bsMv_of (by decide) (Nat.le_of_ble_eq_true rfl) (fun p e s m args below meth c C => ?_)
  have C : bsCx p m c cX9_saysImage 2 s args (Cond.code yX9_saysImage cX9_saysImage 2 none :: bsG) RX9 ρ cA dC dI Rz meth none := C
  rw [fX9_saysImage] at hf
  refine v_sub [0, 1] rfl ?_
  refine v_aload_n C dX9_saysImage_0 rfl rfl ?_
  refine v_ldcSw (tx := ";image") (t := 9) C (by decide +kernel) dX9_saysImage_1 ?_
  obtain ⟨r23, hc24, hf⟩ := bs_bind hf
  refine v_callVv (y := yX9_saysWord) (As := [.ref (ρ 16 0 9)]) (rest := []) C (cX9_saysWord_ok (by decide) hc24) ml_X9_337 wyX9_saysWord (bsm_X9) (bsc_X9) rfl dpX9_saysWord ⟨Nat.le_of_ble_eq_true rfl, Nat.le_of_ble_eq_true rfl⟩ ⟨rfl, rfl⟩ ⟨Nat.le_of_ble_eq_true rfl, Nat.le_of_ble_eq_true rfl⟩ rfl (Nat.le_of_ble_eq_true rfl) dX9_saysImage_4 ?_
  refine v_aload_n C dX9_saysImage_7 rfl rfl ?_
  refine v_iload_n C dX9_saysImage_8 rfl rfl ?_
  obtain ⟨r25, hc26, hf⟩ := bs_bind hf
  refine v_callVv (y := yX9_saysField) (As := [.int a1]) (rest := []) C (cX9_saysField_ok  hc26) ml_X9_341 wyX9_saysField (bsm_X9) (bsc_X9) rfl dpX9_saysField ⟨Nat.le_of_ble_eq_true rfl, Nat.le_of_ble_eq_true rfl⟩ ⟨rfl, rfl⟩ ⟨Nat.le_of_ble_eq_true rfl, Nat.le_of_ble_eq_true rfl⟩ rfl (Nat.le_of_ble_eq_true rfl) dX9_saysImage_9 ?_
  refine v_aload_n C dX9_saysImage_12 rfl rfl ?_
  refine v_aload_n C dX9_saysImage_13 rfl rfl ?_
  refine v_iload_n C dX9_saysImage_14 rfl rfl ?_
  refine v_bipush (v := 8) C dX9_saysImage_15 (by decide) ?_
  obtain ⟨r27, hc28, hf⟩ := bs_bind hf
  refine v_callVi (y := yX9_of) (As := [.int a1, .int (8 : Int32)]) (rest := [.ref (ρ 14 0 0)]) C (cX9_of_ok  hc28) ml_X9_56 wyX9_of (bsm_X9) (bsc_X9) rfl dpX9_of ⟨Nat.le_of_ble_eq_true rfl, Nat.le_of_ble_eq_true rfl⟩ ⟨rfl, rfl⟩ ⟨Nat.le_of_ble_eq_true rfl, Nat.le_of_ble_eq_true rfl⟩ rfl (Nat.le_of_ble_eq_true rfl) dX9_saysImage_17 ?_
  obtain ⟨r29, hc30, hf⟩ := bs_bind hf
  refine v_callVv (y := yX9_saysField) (As := [.int r27.1]) (rest := []) C (cX9_saysField_ok  hc30) ml_X9_341 wyX9_saysField (bsm_X9) (bsc_X9) rfl dpX9_saysField ⟨Nat.le_of_ble_eq_true rfl, Nat.le_of_ble_eq_true rfl⟩ ⟨rfl, rfl⟩ ⟨Nat.le_of_ble_eq_true rfl, Nat.le_of_ble_eq_true rfl⟩ rfl (Nat.le_of_ble_eq_true rfl) dX9_saysImage_20 ?_
  refine v_aload_n C dX9_saysImage_23 rfl rfl ?_
  refine v_aload_n C dX9_saysImage_24 rfl rfl ?_
  refine v_iload_n C dX9_saysImage_25 rfl rfl ?_
  refine v_bipush (v := 9) C dX9_saysImage_26 (by decide) ?_
  obtain ⟨r31, hc32, hf⟩ := bs_bind hf
  refine v_callVi (y := yX9_of) (As := [.int a1, .int (9 : Int32)]) (rest := [.ref (ρ 14 0 0)]) C (cX9_of_ok  hc32) ml_X9_56 wyX9_of (bsm_X9) (bsc_X9) rfl dpX9_of ⟨Nat.le_of_ble_eq_true rfl, Nat.le_of_ble_eq_true rfl⟩ ⟨rfl, rfl⟩ ⟨Nat.le_of_ble_eq_true rfl, Nat.le_of_ble_eq_true rfl⟩ rfl (Nat.le_of_ble_eq_true rfl) dX9_saysImage_28 ?_
  obtain ⟨r33, hc34, hf⟩ := bs_bind hf
  refine v_callVv (y := yX9_saysField) (As := [.int r31.1]) (rest := []) C (cX9_saysField_ok  hc34) ml_X9_341 wyX9_saysField (bsm_X9) (bsc_X9) rfl dpX9_saysField ⟨Nat.le_of_ble_eq_true rfl, Nat.le_of_ble_eq_true rfl⟩ ⟨rfl, rfl⟩ ⟨Nat.le_of_ble_eq_true rfl, Nat.le_of_ble_eq_true rfl⟩ rfl (Nat.le_of_ble_eq_true rfl) dX9_saysImage_31 ?_
  refine v_aload_n C dX9_saysImage_34 rfl rfl ?_
  refine v_aload_n C dX9_saysImage_35 rfl rfl ?_
  refine v_iload_n C dX9_saysImage_36 rfl rfl ?_
  refine v_bipush (v := 10) C dX9_saysImage_37 (by decide) ?_
  obtain ⟨r35, hc36, hf⟩ := bs_bind hf
  refine v_callVi (y := yX9_of) (As := [.int a1, .int (10 : Int32)]) (rest := [.ref (ρ 14 0 0)]) C (cX9_of_ok  hc36) ml_X9_56 wyX9_of (bsm_X9) (bsc_X9) rfl dpX9_of ⟨Nat.le_of_ble_eq_true rfl, Nat.le_of_ble_eq_true rfl⟩ ⟨rfl, rfl⟩ ⟨Nat.le_of_ble_eq_true rfl, Nat.le_of_ble_eq_true rfl⟩ rfl (Nat.le_of_ble_eq_true rfl) dX9_saysImage_39 ?_
  obtain ⟨r37, hc38, hf⟩ := bs_bind hf
  refine v_callVv (y := yX9_saysField) (As := [.int r35.1]) (rest := []) C (cX9_saysField_ok  hc38) ml_X9_341 wyX9_saysField (bsm_X9) (bsc_X9) rfl dpX9_saysField ⟨Nat.le_of_ble_eq_true rfl, Nat.le_of_ble_eq_true rfl⟩ ⟨rfl, rfl⟩ ⟨Nat.le_of_ble_eq_true rfl, Nat.le_of_ble_eq_true rfl⟩ rfl (Nat.le_of_ble_eq_true rfl) dX9_saysImage_42 ?_
  refine v_aload_n C dX9_saysImage_45 rfl rfl ?_
  refine v_iload_n C dX9_saysImage_46 rfl rfl ?_
  refine v_bipush (v := 11) C dX9_saysImage_47 (by decide) ?_
  obtain ⟨r39, hc40, hf⟩ := bs_bind hf
  refine v_callVi (y := yX9_of) (As := [.int a1, .int (11 : Int32)]) (rest := []) C (cX9_of_ok  hc40) ml_X9_56 wyX9_of (bsm_X9) (bsc_X9) rfl dpX9_of ⟨Nat.le_of_ble_eq_true rfl, Nat.le_of_ble_eq_true rfl⟩ ⟨rfl, rfl⟩ ⟨Nat.le_of_ble_eq_true rfl, Nat.le_of_ble_eq_true rfl⟩ rfl (Nat.le_of_ble_eq_true rfl) dX9_saysImage_49 ?_
  refine v_iconst (v := 1) C dX9_saysImage_52 (by decide) ?_
  refine v_icmp_ne (tgt := 63) C dX9_saysImage_53 (by decide) (fun h43 => ?_) (fun h43 => ?_)
  · replace hf := bs_neg h43 hf
    refine v_sub [0, 1] rfl ?_
    exact wX9_saysImage_63   C  _ _  hf
  · replace hf := bs_pos h43 hf
    refine v_aload_n C dX9_saysImage_56 rfl rfl ?_
    refine v_ldcSw (tx := " unsigned") (t := 10) C (by decide +kernel) dX9_saysImage_57 ?_
    obtain ⟨r41, hc42, hf⟩ := bs_bind hf
    refine v_callVv (y := yX9_saysWord) (As := [.ref (ρ 16 0 10)]) (rest := []) C (cX9_saysWord_ok (by decide) hc42) ml_X9_337 wyX9_saysWord (bsm_X9) (bsc_X9) rfl dpX9_saysWord ⟨Nat.le_of_ble_eq_true rfl, Nat.le_of_ble_eq_true rfl⟩ ⟨rfl, rfl⟩ ⟨Nat.le_of_ble_eq_true rfl, Nat.le_of_ble_eq_true rfl⟩ rfl (Nat.le_of_ble_eq_true rfl) dX9_saysImage_60 ?_
    refine v_sub [0, 1] rfl ?_
    exact wX9_saysImage_63   C  _ _  hf
/-! BootSlotsModel.writeMachine()I -/
def fX9_writeMachine_93 (k70 : Int32 → bsX → Option (Int32 × bsX)) (x1 : Int32) (X : bsX) : Option (Int32 × bsX) := k70 (x1 + (1 : Int32)) X
def fX9_writeMachine_70 : Nat → Int32 → bsX → Option (Int32 × bsX)
  | 0, _, _ => none
  | n + 1, x1, X => if bsIn (0 : Int32) 160 then (if (X 14 1 0 (bsIx (0 : Int32))) ≤ x1 then (some ((X 14 0 0 20), X)) else ((fX9_has  x1 X).bind fun r2 => if r2.1 = 0 then (fX9_writeMachine_93  (fX9_writeMachine_70  n) x1 r2.2) else ((fX9_saysImage  x1 r2.2).bind fun r4 => fX9_writeMachine_93  (fX9_writeMachine_70  n) x1 r4))) else none
def fX9_writeMachine_45 : Nat → Int32 → bsX → Option (Int32 × bsX)
  | 0, _, _ => none
  | n + 1, x1, X => if bsIn (0 : Int32) 160 then (if (X 14 1 0 (bsIx (0 : Int32))) ≤ x1 then (fX9_writeMachine_70   bsF (0 : Int32) X) else ((fX9_saysWord 8  X).bind fun r9 => fX9_writeMachine_45 n (x1 + (1 : Int32)) r9)) else none
def fX9_writeMachine_22 : Nat → Int32 → bsX → Option (Int32 × bsX)
  | 0, _, _ => none
  | n + 1, x1, X => if (5 : Int32) < x1 then (fX9_writeMachine_45   bsF (0 : Int32) X) else (if bsIn x1 160 then ((fX9_saysField  (X 14 1 0 (bsIx x1)) X).bind fun r13 => fX9_writeMachine_22 n (x1 + (1 : Int32)) r13) else none)
def fX9_writeMachine (X : bsX) : Option (Int32 × bsX) := (fX9_notLoaded   X).bind fun r16 => if r16.1 = 0 then ((fX9_saysWord 0  (bsWr r16.2 14 0 0 20 (0 : Int32))).bind fun r18 => fX9_writeMachine_22   bsF (2 : Int32) r18) else (some ((0 : Int32), r16.2))
abbrev rmX9_writeMachine : Room := { frames := 6, cells := 0, slots := 0, locals := 128 }
set_option maxHeartbeats 4000000 in
set_option maxRecDepth 100000 in
theorem wX9_writeMachine_93 {p : Program} {l : Launch} {e : Env} {s : State} {m : MethodId} {args : Array Value} {below : List Frame} {meth : Method} {c : Code} {ρ : bsR} {cA : Nat → ClassId} {dC : Nat → ClassId} {dI : Nat → Nat → Nat} {Rz : va_W} {Ts : List Cond}  (k70 : Int32 → bsX → Option (Int32 × bsX))  {z : (Int32 × bsX)} (C : bsCx p m c cX9_writeMachine 2 s args Ts RX9 ρ cA dC dI Rz meth (some .int)) (hk70 : ∀ (x1 : Int32) (X : bsX), k70 x1 X = some z → bsV p l e rmX9_writeMachine s m args below meth c 0 0 (MQ below (bsQi ρ cA dC dI Rz z s.heap.size) args s 0 0 (bsA ρ cA Rz s.heap.size)) ρ cA dC dI Rz 2 70 [(0, .ref (ρ 14 0 0)), (1, .int x1)] [] X)  (x1 : Int32) (X : bsX) (hf : fX9_writeMachine_93 k70 x1 X = some z) : bsV p l e rmX9_writeMachine s m args below meth c 0 0 (MQ below (bsQi ρ cA dC dI Rz z s.heap.size) args s 0 0 (bsA ρ cA Rz s.heap.size)) ρ cA dC dI Rz 2 93 [(0, .ref (ρ 14 0 0)), (1, .int x1)] [] X := by
  rw [fX9_writeMachine_93] at hf
  refine v_iinc (k0 := 1) (v := (x1 + (1 : Int32))) (lv' := [(1, .int (x1 + (1 : Int32))), (0, .ref (ρ 14 0 0))]) C dX9_writeMachine_93 rfl rfl (by decide) rfl ?_
  refine v_goto (tgt := 70) C dX9_writeMachine_96 (by decide) ?_
  refine v_sub [1, 0] rfl ?_
  exact hk70 _ _  hf
set_option maxHeartbeats 4000000 in
set_option maxRecDepth 100000 in
theorem wX9_writeMachine_70 {p : Program} {l : Launch} {e : Env} {s : State} {m : MethodId} {args : Array Value} {below : List Frame} {meth : Method} {c : Code} {ρ : bsR} {cA : Nat → ClassId} {dC : Nat → ClassId} {dI : Nat → Nat → Nat} {Rz : va_W} {Ts : List Cond}   {z : (Int32 × bsX)} (C : bsCx p m c cX9_writeMachine 2 s args Ts RX9 ρ cA dC dI Rz meth (some .int)) : ∀ (n : Nat) (x1 : Int32) (X : bsX), fX9_writeMachine_70  n x1 X = some z → bsV p l e rmX9_writeMachine s m args below meth c 0 0 (MQ below (bsQi ρ cA dC dI Rz z s.heap.size) args s 0 0 (bsA ρ cA Rz s.heap.size)) ρ cA dC dI Rz 2 70 [(0, .ref (ρ 14 0 0)), (1, .int x1)] [] X := by
  intro n
  induction n with
  | zero => intro x1 X hf; exact (nomatch hf)
  | succ n ih =>
    intro x1 X hf
    rw [fX9_writeMachine_70] at hf
    refine v_iload_n C dX9_writeMachine_70 rfl rfl ?_
    refine v_aload_n C dX9_writeMachine_71 rfl rfl ?_
    refine gf_X9_7 C dX9_writeMachine_72 ?_
    refine v_iconst (v := 0) C dX9_writeMachine_75 (by decide) ?_
    obtain ⟨hi1, hf⟩ := bs_if hf
    refine v_iald (n := 160) C bsm_14_1 bsc_14_1 hi1 dX9_writeMachine_76 ?_
    refine v_icmp_ge (tgt := 99) C dX9_writeMachine_77 (by decide) (fun h7 => ?_) (fun h7 => ?_)
    · replace hf := bs_pos h7 hf
      refine v_aload_n C dX9_writeMachine_99 rfl rfl ?_
      refine gf_X9_321 C dX9_writeMachine_100 ?_
      exact v_iret C hf dX9_writeMachine_103
    · replace hf := bs_neg h7 hf
      refine v_aload_n C dX9_writeMachine_80 rfl rfl ?_
      refine v_iload_n C dX9_writeMachine_81 rfl rfl ?_
      obtain ⟨r2, hc3, hf⟩ := bs_bind hf
      refine v_callVi (y := yX9_has) (As := [.int x1]) (rest := []) C (cX9_has_ok  hc3) ml_X9_60 wyX9_has (bsm_X9) (bsc_X9) rfl dpX9_has ⟨Nat.le_of_ble_eq_true rfl, Nat.le_of_ble_eq_true rfl⟩ ⟨rfl, rfl⟩ ⟨Nat.le_of_ble_eq_true rfl, Nat.le_of_ble_eq_true rfl⟩ rfl (Nat.le_of_ble_eq_true rfl) dX9_writeMachine_82 ?_
      refine v_if_eq (tgt := 93) C dX9_writeMachine_85 (by decide) (fun h6 => ?_) (fun h6 => ?_)
      · replace hf := bs_pos h6 hf
        refine v_sub [0, 1] rfl ?_
        exact wX9_writeMachine_93  (fX9_writeMachine_70  n) C (fun b0 X  h => ih b0 X  h) _ _  hf
      · replace hf := bs_neg h6 hf
        refine v_aload_n C dX9_writeMachine_88 rfl rfl ?_
        refine v_iload_n C dX9_writeMachine_89 rfl rfl ?_
        obtain ⟨r4, hc5, hf⟩ := bs_bind hf
        refine v_callVv (y := yX9_saysImage) (As := [.int x1]) (rest := []) C (cX9_saysImage_ok  hc5) ml_X9_354 wyX9_saysImage (bsm_X9) (bsc_X9) rfl dpX9_saysImage ⟨Nat.le_of_ble_eq_true rfl, Nat.le_of_ble_eq_true rfl⟩ ⟨rfl, rfl⟩ ⟨Nat.le_of_ble_eq_true rfl, Nat.le_of_ble_eq_true rfl⟩ rfl (Nat.le_of_ble_eq_true rfl) dX9_writeMachine_90 ?_
        refine v_sub [0, 1] rfl ?_
        exact wX9_writeMachine_93  (fX9_writeMachine_70  n) C (fun b0 X  h => ih b0 X  h) _ _  hf
set_option maxHeartbeats 4000000 in
set_option maxRecDepth 100000 in
theorem wX9_writeMachine_45 {p : Program} {l : Launch} {e : Env} {s : State} {m : MethodId} {args : Array Value} {below : List Frame} {meth : Method} {c : Code} {ρ : bsR} {cA : Nat → ClassId} {dC : Nat → ClassId} {dI : Nat → Nat → Nat} {Rz : va_W} {Ts : List Cond}   {z : (Int32 × bsX)} (C : bsCx p m c cX9_writeMachine 2 s args Ts RX9 ρ cA dC dI Rz meth (some .int)) : ∀ (n : Nat) (x1 : Int32) (X : bsX), fX9_writeMachine_45  n x1 X = some z → bsV p l e rmX9_writeMachine s m args below meth c 0 0 (MQ below (bsQi ρ cA dC dI Rz z s.heap.size) args s 0 0 (bsA ρ cA Rz s.heap.size)) ρ cA dC dI Rz 2 45 [(0, .ref (ρ 14 0 0)), (1, .int x1)] [] X := by
  intro n
  induction n with
  | zero => intro x1 X hf; exact (nomatch hf)
  | succ n ih =>
    intro x1 X hf
    rw [fX9_writeMachine_45] at hf
    refine v_iload_n C dX9_writeMachine_45 rfl rfl ?_
    refine v_aload_n C dX9_writeMachine_46 rfl rfl ?_
    refine gf_X9_7 C dX9_writeMachine_47 ?_
    refine v_iconst (v := 0) C dX9_writeMachine_50 (by decide) ?_
    obtain ⟨hi8, hf⟩ := bs_if hf
    refine v_iald (n := 160) C bsm_14_1 bsc_14_1 hi8 dX9_writeMachine_51 ?_
    refine v_icmp_ge (tgt := 68) C dX9_writeMachine_52 (by decide) (fun h11 => ?_) (fun h11 => ?_)
    · replace hf := bs_pos h11 hf
      refine v_iconst (v := 0) C dX9_writeMachine_68 (by decide) ?_
      refine v_istore_n (lv' := [(1, .int (0 : Int32)), (0, .ref (ρ 14 0 0))]) C dX9_writeMachine_69 rfl (by decide) rfl ?_
      refine v_sub [1, 0] rfl ?_
      exact wX9_writeMachine_70   C  bsF _ _  hf
    · replace hf := bs_neg h11 hf
      refine v_aload_n C dX9_writeMachine_55 rfl rfl ?_
      refine v_ldcSw (tx := ";slot") (t := 8) C (by decide +kernel) dX9_writeMachine_56 ?_
      obtain ⟨r9, hc10, hf⟩ := bs_bind hf
      refine v_callVv (y := yX9_saysWord) (As := [.ref (ρ 16 0 8)]) (rest := []) C (cX9_saysWord_ok (by decide) hc10) ml_X9_337 wyX9_saysWord (bsm_X9) (bsc_X9) rfl dpX9_saysWord ⟨Nat.le_of_ble_eq_true rfl, Nat.le_of_ble_eq_true rfl⟩ ⟨rfl, rfl⟩ ⟨Nat.le_of_ble_eq_true rfl, Nat.le_of_ble_eq_true rfl⟩ rfl (Nat.le_of_ble_eq_true rfl) dX9_writeMachine_59 ?_
      refine v_iinc (k0 := 1) (v := (x1 + (1 : Int32))) (lv' := [(1, .int (x1 + (1 : Int32))), (0, .ref (ρ 14 0 0))]) C dX9_writeMachine_62 rfl rfl (by decide) rfl ?_
      refine v_goto (tgt := 45) C dX9_writeMachine_65 (by decide) ?_
      refine v_sub [1, 0] rfl ?_
      exact ih _ _  hf
set_option maxHeartbeats 4000000 in
set_option maxRecDepth 100000 in
theorem wX9_writeMachine_22 {p : Program} {l : Launch} {e : Env} {s : State} {m : MethodId} {args : Array Value} {below : List Frame} {meth : Method} {c : Code} {ρ : bsR} {cA : Nat → ClassId} {dC : Nat → ClassId} {dI : Nat → Nat → Nat} {Rz : va_W} {Ts : List Cond}   {z : (Int32 × bsX)} (C : bsCx p m c cX9_writeMachine 2 s args Ts RX9 ρ cA dC dI Rz meth (some .int)) : ∀ (n : Nat) (x1 : Int32) (X : bsX), fX9_writeMachine_22  n x1 X = some z → bsV p l e rmX9_writeMachine s m args below meth c 0 0 (MQ below (bsQi ρ cA dC dI Rz z s.heap.size) args s 0 0 (bsA ρ cA Rz s.heap.size)) ρ cA dC dI Rz 2 22 [(0, .ref (ρ 14 0 0)), (1, .int x1)] [] X := by
  intro n
  induction n with
  | zero => intro x1 X hf; exact (nomatch hf)
  | succ n ih =>
    intro x1 X hf
    rw [fX9_writeMachine_22] at hf
    refine v_iload_n C dX9_writeMachine_22 rfl rfl ?_
    refine v_iconst (v := 5) C dX9_writeMachine_23 (by decide) ?_
    refine v_icmp_gt (tgt := 43) C dX9_writeMachine_24 (by decide) (fun h15 => ?_) (fun h15 => ?_)
    · replace hf := bs_pos h15 hf
      refine v_iconst (v := 0) C dX9_writeMachine_43 (by decide) ?_
      refine v_istore_n (lv' := [(1, .int (0 : Int32)), (0, .ref (ρ 14 0 0))]) C dX9_writeMachine_44 rfl (by decide) rfl ?_
      refine v_sub [1, 0] rfl ?_
      exact wX9_writeMachine_45   C  bsF _ _  hf
    · replace hf := bs_neg h15 hf
      refine v_aload_n C dX9_writeMachine_27 rfl rfl ?_
      refine v_aload_n C dX9_writeMachine_28 rfl rfl ?_
      refine gf_X9_7 C dX9_writeMachine_29 ?_
      refine v_iload_n C dX9_writeMachine_32 rfl rfl ?_
      obtain ⟨hi12, hf⟩ := bs_if hf
      refine v_iald (n := 160) C bsm_14_1 bsc_14_1 hi12 dX9_writeMachine_33 ?_
      obtain ⟨r13, hc14, hf⟩ := bs_bind hf
      refine v_callVv (y := yX9_saysField) (As := [.int (X 14 1 0 (bsIx x1))]) (rest := []) C (cX9_saysField_ok  hc14) ml_X9_341 wyX9_saysField (bsm_X9) (bsc_X9) rfl dpX9_saysField ⟨Nat.le_of_ble_eq_true rfl, Nat.le_of_ble_eq_true rfl⟩ ⟨rfl, rfl⟩ ⟨Nat.le_of_ble_eq_true rfl, Nat.le_of_ble_eq_true rfl⟩ rfl (Nat.le_of_ble_eq_true rfl) dX9_writeMachine_34 ?_
      refine v_iinc (k0 := 1) (v := (x1 + (1 : Int32))) (lv' := [(1, .int (x1 + (1 : Int32))), (0, .ref (ρ 14 0 0))]) C dX9_writeMachine_37 rfl rfl (by decide) rfl ?_
      refine v_goto (tgt := 22) C dX9_writeMachine_40 (by decide) ?_
      refine v_sub [1, 0] rfl ?_
      exact ih _ _  hf
set_option maxHeartbeats 4000000 in
set_option maxRecDepth 100000 in
theorem cX9_writeMachine_ok {l : Launch} {ρ : bsR} {cA : Nat → ClassId} {dC : Nat → ClassId} {dI : Nat → Nat → Nat} {Rz : va_W}  {X : bsX} {z : (Int32 × bsX)} (hf : fX9_writeMachine  X = some z) : bsMi l yX9_writeMachine cX9_writeMachine 2 (some .int) rmX9_writeMachine ρ cA dC dI Rz [.ref (ρ 14 0 0)] X z := by
  refine bsMi_of (by decide) (Nat.le_of_ble_eq_true rfl) (fun p e s m args below meth c C => ?_)
  have C : bsCx p m c cX9_writeMachine 2 s args (Cond.code yX9_writeMachine cX9_writeMachine 2 (some .int) :: bsG) RX9 ρ cA dC dI Rz meth (some .int) := C
  rw [fX9_writeMachine] at hf
  refine v_sub [0] rfl ?_
  refine v_aload_n C dX9_writeMachine_0 rfl rfl ?_
  obtain ⟨r16, hc17, hf⟩ := bs_bind hf
  refine v_callVi (y := yX9_notLoaded) (As := []) (rest := []) C (cX9_notLoaded_ok  hc17) ml_X9_48 wyX9_notLoaded (bsm_X9) (bsc_X9) rfl dpX9_notLoaded ⟨Nat.le_of_ble_eq_true rfl, Nat.le_of_ble_eq_true rfl⟩ ⟨rfl, rfl⟩ ⟨Nat.le_of_ble_eq_true rfl, Nat.le_of_ble_eq_true rfl⟩ rfl (Nat.le_of_ble_eq_true rfl) dX9_writeMachine_1 ?_
  refine v_if_eq (tgt := 9) C dX9_writeMachine_4 (by decide) (fun h20 => ?_) (fun h20 => ?_)
  · replace hf := bs_pos h20 hf
    refine v_aload_n C dX9_writeMachine_9 rfl rfl ?_
    refine v_iconst (v := 0) C dX9_writeMachine_10 (by decide) ?_
    refine pf_X9_321 C dX9_writeMachine_11 ?_
    refine v_aload_n C dX9_writeMachine_14 rfl rfl ?_
    refine v_ldcS (tx := "machine") (t := 0) C (by decide +kernel) dX9_writeMachine_15 ?_
    obtain ⟨r18, hc19, hf⟩ := bs_bind hf
    refine v_callVv (y := yX9_saysWord) (As := [.ref (ρ 16 0 0)]) (rest := []) C (cX9_saysWord_ok (by decide) hc19) ml_X9_337 wyX9_saysWord (bsm_X9) (bsc_X9) rfl dpX9_saysWord ⟨Nat.le_of_ble_eq_true rfl, Nat.le_of_ble_eq_true rfl⟩ ⟨rfl, rfl⟩ ⟨Nat.le_of_ble_eq_true rfl, Nat.le_of_ble_eq_true rfl⟩ rfl (Nat.le_of_ble_eq_true rfl) dX9_writeMachine_17 ?_
    refine v_iconst (v := 2) C dX9_writeMachine_20 (by decide) ?_
    refine v_istore_n (lv' := [(1, .int (2 : Int32)), (0, .ref (ρ 14 0 0))]) C dX9_writeMachine_21 rfl (by decide) rfl ?_
    refine v_sub [1, 0] rfl ?_
    exact wX9_writeMachine_22   C  bsF _ _  hf
  · replace hf := bs_neg h20 hf
    refine v_iconst (v := 0) C dX9_writeMachine_7 (by decide) ?_
    exact v_iret C hf dX9_writeMachine_8
/-! BootSlotsModel.textByte(I)I -/
def fX9_textByte_27 (x1 : Int32) (y1 : Int32) (X : bsX) : Option (Int32 × bsX) := (fX9_refuse  y1 (1 : Int32) X).bind fun r1 => if r1.1 = 0 then (if bsIn x1 400 then (some ((r1.2 14 6 0 (bsIx x1)), r1.2)) else none) else (some ((0 : Int32), r1.2))
def fX9_textByte (a1 : Int32) (X : bsX) : Option (Int32 × bsX) := (fX9_in  a1.toInt64 (0 : Int64) ((((bsWr X 14 0 0 0 (0 : Int32)) 14 0 0 20) - (1 : Int32)).toInt64) (bsWr X 14 0 0 0 (0 : Int32))).bind fun r5 => if r5.1 = 0 then (fX9_textByte_27   a1 (1 : Int32) r5.2) else (fX9_textByte_27   a1 (0 : Int32) r5.2)
abbrev rmX9_textByte : Room := { frames := 1, cells := 0, slots := 0, locals := 25 }
set_option maxHeartbeats 4000000 in
set_option maxRecDepth 100000 in
theorem wX9_textByte_27 {p : Program} {l : Launch} {e : Env} {s : State} {m : MethodId} {args : Array Value} {below : List Frame} {meth : Method} {c : Code} {ρ : bsR} {cA : Nat → ClassId} {dC : Nat → ClassId} {dI : Nat → Nat → Nat} {Rz : va_W} {Ts : List Cond}   {z : (Int32 × bsX)} (C : bsCx p m c cX9_textByte 2 s args Ts RX9 ρ cA dC dI Rz meth (some .int)) (x1 : Int32) (y1 : Int32) (X : bsX) (hf : fX9_textByte_27 x1 y1 X = some z) : bsV p l e rmX9_textByte s m args below meth c 0 0 (MQ below (bsQi ρ cA dC dI Rz z s.heap.size) args s 0 0 (bsA ρ cA Rz s.heap.size)) ρ cA dC dI Rz 2 27 [(0, .ref (ρ 14 0 0)), (1, .int x1)] [.int y1, .ref (ρ 14 0 0)] X := by
  rw [fX9_textByte_27] at hf
  refine v_iconst (v := 1) C dX9_textByte_27 (by decide) ?_
  obtain ⟨r1, hc2, hf⟩ := bs_bind hf
  refine v_callVi (y := yX9_refuse) (As := [.int y1, .int (1 : Int32)]) (rest := []) C (cX9_refuse_ok  hc2) ml_X9_40 wyX9_refuse (bsm_X9) (bsc_X9) rfl dpX9_refuse ⟨Nat.le_of_ble_eq_true rfl, Nat.le_of_ble_eq_true rfl⟩ ⟨rfl, rfl⟩ ⟨Nat.le_of_ble_eq_true rfl, Nat.le_of_ble_eq_true rfl⟩ rfl (Nat.le_of_ble_eq_true rfl) dX9_textByte_28 ?_
  refine v_if_eq (tgt := 38) C dX9_textByte_31 (by decide) (fun h4 => ?_) (fun h4 => ?_)
  · replace hf := bs_pos h4 hf
    refine v_aload_n C dX9_textByte_38 rfl rfl ?_
    refine gf_X9_30 C dX9_textByte_39 ?_
    refine v_iload_n C dX9_textByte_42 rfl rfl ?_
    obtain ⟨hi3, hf⟩ := bs_if hf
    refine v_iald (n := 400) C bsm_14_6 bsc_14_6 hi3 dX9_textByte_43 ?_
    exact v_iret C hf dX9_textByte_44
  · replace hf := bs_neg h4 hf
    refine v_iconst (v := 0) C dX9_textByte_34 (by decide) ?_
    refine v_goto (tgt := 44) C dX9_textByte_35 (by decide) ?_
    exact v_iret C hf dX9_textByte_44
set_option maxHeartbeats 4000000 in
set_option maxRecDepth 100000 in
theorem cX9_textByte_ok {l : Launch} {ρ : bsR} {cA : Nat → ClassId} {dC : Nat → ClassId} {dI : Nat → Nat → Nat} {Rz : va_W}  {a1 : Int32} {X : bsX} {z : (Int32 × bsX)} (hf : fX9_textByte a1 X = some z) : bsMi l yX9_textByte cX9_textByte 2 (some .int) rmX9_textByte ρ cA dC dI Rz [.ref (ρ 14 0 0), .int a1] X z := by
  refine bsMi_of (by decide) (Nat.le_of_ble_eq_true rfl) (fun p e s m args below meth c C => ?_)
  have C : bsCx p m c cX9_textByte 2 s args (Cond.code yX9_textByte cX9_textByte 2 (some .int) :: bsG) RX9 ρ cA dC dI Rz meth (some .int) := C
  rw [fX9_textByte] at hf
  refine v_sub [0, 1] rfl ?_
  refine v_aload_n C dX9_textByte_0 rfl rfl ?_
  refine v_iconst (v := 0) C dX9_textByte_1 (by decide) ?_
  refine pf_X9_33 C dX9_textByte_2 ?_
  refine v_aload_n C dX9_textByte_5 rfl rfl ?_
  refine v_iload_n C dX9_textByte_6 rfl rfl ?_
  refine v_i2l C dX9_textByte_7 ?_
  refine v_lconst (v := (0 : Int64)) C dX9_textByte_8 (by decide) ?_
  refine v_aload_n C dX9_textByte_9 rfl rfl ?_
  refine gf_X9_321 C dX9_textByte_10 ?_
  refine v_iconst (v := 1) C dX9_textByte_13 (by decide) ?_
  refine v_isub C dX9_textByte_14 ?_
  refine v_i2l C dX9_textByte_15 ?_
  obtain ⟨r5, hc6, hf⟩ := bs_bind hf
  refine v_callSi (y := yX9_in) (As := [.long a1.toInt64, .long (0 : Int64), .long (((bsWr X 14 0 0 0 (0 : Int32)) 14 0 0 20) - (1 : Int32)).toInt64]) (rest := [.ref (ρ 14 0 0)]) C (cX9_in_ok  hc6) ml_X9_44 wzX9_in dpX9_in ⟨Nat.le_of_ble_eq_true rfl, Nat.le_of_ble_eq_true rfl⟩ ⟨rfl, rfl⟩ ⟨Nat.le_of_ble_eq_true rfl, Nat.le_of_ble_eq_true rfl⟩ rfl (Nat.le_of_ble_eq_true rfl) dX9_textByte_16 ?_
  refine v_if_ne (tgt := 26) C dX9_textByte_19 (by decide) (fun h7 => ?_) (fun h7 => ?_)
  · replace hf := bs_neg h7 hf
    refine v_iconst (v := 0) C dX9_textByte_26 (by decide) ?_
    refine v_sub [0, 1] rfl ?_
    exact wX9_textByte_27   C  _ _ _  hf
  · replace hf := bs_pos h7 hf
    refine v_iconst (v := 1) C dX9_textByte_22 (by decide) ?_
    refine v_goto (tgt := 27) C dX9_textByte_23 (by decide) ?_
    refine v_sub [0, 1] rfl ?_
    exact wX9_textByte_27   C  _ _ _  hf
/-! BootSlotsModel.keepsAll()V -/
def fX9_keepsAll_50 (X : bsX) : Option bsX := (fX9_copies 1 160 2 1760 (0 : Int32) ((160 : Int32) * ((0 : Int32) + (X 14 0 0 4))) X).bind fun r1 => some (bsWr r1 14 0 0 4 ((r1 14 0 0 4) + (1 : Int32)))
def fX9_keepsAll_11 : Nat → Int32 → bsX → Option bsX
  | 0, _, _ => none
  | n + 1, x1, X => if (1120 : Int32) ≤ x1 then (fX9_keepsAll_50    (bsWr X 14 0 0 4 ((X 14 0 0 4) - (1 : Int32)))) else (if bsIn (x1 + (160 : Int32)) 1760 then (if bsIn x1 1760 then (fX9_keepsAll_11 n (x1 + (1 : Int32)) (bsWr X 14 2 0 (bsIx x1) (X 14 2 0 (bsIx (x1 + (160 : Int32)))))) else none) else none)
def fX9_keepsAll (X : bsX) : Option bsX := if (X 14 0 0 4) = (8 : Int32) then (fX9_keepsAll_11   bsF (0 : Int32) X) else (fX9_keepsAll_50    X)
abbrev rmX9_keepsAll : Room := { frames := 1, cells := 0, slots := 0, locals := 24 }
set_option maxHeartbeats 4000000 in
set_option maxRecDepth 100000 in
theorem wX9_keepsAll_50 {p : Program} {l : Launch} {e : Env} {s : State} {m : MethodId} {args : Array Value} {below : List Frame} {meth : Method} {c : Code} {ρ : bsR} {cA : Nat → ClassId} {dC : Nat → ClassId} {dI : Nat → Nat → Nat} {Rz : va_W} {Ts : List Cond}   {z : bsX} (C : bsCx p m c cX9_keepsAll 2 s args Ts RX9 ρ cA dC dI Rz meth none) (X : bsX) (hf : fX9_keepsAll_50  X = some z) : bsV p l e rmX9_keepsAll s m args below meth c 0 0 (MQ below (bsQv ρ cA dC dI Rz z s.heap.size) args s 0 0 (bsA ρ cA Rz s.heap.size)) ρ cA dC dI Rz 2 50 [(0, .ref (ρ 14 0 0))] [] X := by
  rw [fX9_keepsAll_50] at hf
  refine v_aload_n C dX9_keepsAll_50 rfl rfl ?_
  refine gf_X9_7 C dX9_keepsAll_51 ?_
  refine v_iconst (v := 0) C dX9_keepsAll_54 (by decide) ?_
  refine v_aload_n C dX9_keepsAll_55 rfl rfl ?_
  refine gf_X9_13 C dX9_keepsAll_56 ?_
  refine v_sipush (v := 160) C dX9_keepsAll_59 (by decide) ?_
  refine v_iconst (v := 0) C dX9_keepsAll_62 (by decide) ?_
  refine v_aload_n C dX9_keepsAll_63 rfl rfl ?_
  refine gf_X9_249 C dX9_keepsAll_64 ?_
  refine v_iadd C dX9_keepsAll_67 ?_
  refine v_imul C dX9_keepsAll_68 ?_
  obtain ⟨r1, hc2, hf⟩ := bs_bind hf
  refine v_callSv (y := yX9_copies) (As := [.ref (ρ 14 1 0), .int (0 : Int32), .ref (ρ 14 2 0), .int ((160 : Int32) * ((0 : Int32) + (X 14 0 0 4)))]) (rest := []) C (cX9_copies_ok bsm_14_1 (fun _ _ _ => bsc_14_1) bsm_14_2 (fun _ _ _ => bsc_14_2) hc2) ml_X9_242 wzX9_copies dpX9_copies ⟨Nat.le_of_ble_eq_true rfl, Nat.le_of_ble_eq_true rfl⟩ ⟨rfl, rfl⟩ ⟨Nat.le_of_ble_eq_true rfl, Nat.le_of_ble_eq_true rfl⟩ rfl (Nat.le_of_ble_eq_true rfl) dX9_keepsAll_69 ?_
  refine v_aload_n C dX9_keepsAll_72 rfl rfl ?_
  refine v_dup C dX9_keepsAll_73 rfl ?_
  refine gf_X9_249 C dX9_keepsAll_74 ?_
  refine v_iconst (v := 1) C dX9_keepsAll_77 (by decide) ?_
  refine v_iadd C dX9_keepsAll_78 ?_
  refine pf_X9_249 C dX9_keepsAll_79 ?_
  exact v_vret C hf dX9_keepsAll_82
set_option maxHeartbeats 4000000 in
set_option maxRecDepth 100000 in
theorem wX9_keepsAll_11 {p : Program} {l : Launch} {e : Env} {s : State} {m : MethodId} {args : Array Value} {below : List Frame} {meth : Method} {c : Code} {ρ : bsR} {cA : Nat → ClassId} {dC : Nat → ClassId} {dI : Nat → Nat → Nat} {Rz : va_W} {Ts : List Cond}   {z : bsX} (C : bsCx p m c cX9_keepsAll 2 s args Ts RX9 ρ cA dC dI Rz meth none) : ∀ (n : Nat) (x1 : Int32) (X : bsX), fX9_keepsAll_11  n x1 X = some z → bsV p l e rmX9_keepsAll s m args below meth c 0 0 (MQ below (bsQv ρ cA dC dI Rz z s.heap.size) args s 0 0 (bsA ρ cA Rz s.heap.size)) ρ cA dC dI Rz 2 11 [(0, .ref (ρ 14 0 0)), (1, .int x1)] [] X := by
  intro n
  induction n with
  | zero => intro x1 X hf; exact (nomatch hf)
  | succ n ih =>
    intro x1 X hf
    rw [fX9_keepsAll_11] at hf
    refine v_iload_n C dX9_keepsAll_11 rfl rfl ?_
    refine v_sipush (v := 1120) C dX9_keepsAll_12 (by decide) ?_
    refine v_icmp_ge (tgt := 40) C dX9_keepsAll_15 (by decide) (fun h5 => ?_) (fun h5 => ?_)
    · replace hf := bs_pos h5 hf
      refine v_aload_n C dX9_keepsAll_40 rfl rfl ?_
      refine v_dup C dX9_keepsAll_41 rfl ?_
      refine gf_X9_249 C dX9_keepsAll_42 ?_
      refine v_iconst (v := 1) C dX9_keepsAll_45 (by decide) ?_
      refine v_isub C dX9_keepsAll_46 ?_
      refine pf_X9_249 C dX9_keepsAll_47 ?_
      refine v_sub [0] rfl ?_
      exact wX9_keepsAll_50   C  _  hf
    · replace hf := bs_neg h5 hf
      refine v_aload_n C dX9_keepsAll_18 rfl rfl ?_
      refine gf_X9_13 C dX9_keepsAll_19 ?_
      refine v_iload_n C dX9_keepsAll_22 rfl rfl ?_
      refine v_aload_n C dX9_keepsAll_23 rfl rfl ?_
      refine gf_X9_13 C dX9_keepsAll_24 ?_
      refine v_iload_n C dX9_keepsAll_27 rfl rfl ?_
      refine v_sipush (v := 160) C dX9_keepsAll_28 (by decide) ?_
      refine v_iadd C dX9_keepsAll_31 ?_
      obtain ⟨hi3, hf⟩ := bs_if hf
      refine v_iald (n := 1760) C bsm_14_2 bsc_14_2 hi3 dX9_keepsAll_32 ?_
      obtain ⟨hi4, hf⟩ := bs_if hf
      refine v_iast (n := 1760) C bsm_14_2 (fun _ => bsc_14_2) hi4 dX9_keepsAll_33 ?_
      refine v_iinc (k0 := 1) (v := (x1 + (1 : Int32))) (lv' := [(1, .int (x1 + (1 : Int32))), (0, .ref (ρ 14 0 0))]) C dX9_keepsAll_34 rfl rfl (by decide) rfl ?_
      refine v_goto (tgt := 11) C dX9_keepsAll_37 (by decide) ?_
      refine v_sub [1, 0] rfl ?_
      exact ih _ _  hf
set_option maxHeartbeats 4000000 in
set_option maxRecDepth 100000 in
theorem cX9_keepsAll_ok {l : Launch} {ρ : bsR} {cA : Nat → ClassId} {dC : Nat → ClassId} {dI : Nat → Nat → Nat} {Rz : va_W}  {X : bsX} {z : bsX} (hf : fX9_keepsAll  X = some z) : bsMv l yX9_keepsAll cX9_keepsAll 2 none rmX9_keepsAll ρ cA dC dI Rz [.ref (ρ 14 0 0)] X z := by
  refine bsMv_of (by decide) (Nat.le_of_ble_eq_true rfl) (fun p e s m args below meth c C => ?_)
  have C : bsCx p m c cX9_keepsAll 2 s args (Cond.code yX9_keepsAll cX9_keepsAll 2 none :: bsG) RX9 ρ cA dC dI Rz meth none := C
  rw [fX9_keepsAll] at hf
  refine v_sub [0] rfl ?_
  refine v_aload_n C dX9_keepsAll_0 rfl rfl ?_
  refine gf_X9_249 C dX9_keepsAll_1 ?_
  refine v_bipush (v := 8) C dX9_keepsAll_4 (by decide) ?_
  refine v_icmp_ne (tgt := 50) C dX9_keepsAll_6 (by decide) (fun h6 => ?_) (fun h6 => ?_)
  · replace hf := bs_neg h6 hf
    refine v_sub [0] rfl ?_
    exact wX9_keepsAll_50   C  _  hf
  · replace hf := bs_pos h6 hf
    refine v_iconst (v := 0) C dX9_keepsAll_9 (by decide) ?_
    refine v_istore_n (lv' := [(1, .int (0 : Int32)), (0, .ref (ρ 14 0 0))]) C dX9_keepsAll_10 rfl (by decide) rfl ?_
    refine v_sub [1, 0] rfl ?_
    exact wX9_keepsAll_11   C  bsF _ _  hf
/-! BootSlotsModel.power()I -/
def fX9_power_23 (y1 : Int32) (X : bsX) : Option (Int32 × bsX) := (fX9_refuse  y1 (2 : Int32) X).bind fun r1 => if r1.1 = 0 then ((fX9_keepsAll   r1.2).bind fun r3 => (fX9_boots  (0 : Int32) r3).bind fun r5 => if bsIn (7 : Int32) 160 then (some ((r5.2 14 1 0 (bsIx (7 : Int32))), r5.2)) else none) else (some ((0 : Int32), r1.2))
def fX9_power (X : bsX) : Option (Int32 × bsX) := (fX9_notLoaded   X).bind fun r9 => if r9.1 = 0 then (if bsIn (6 : Int32) 160 then (if (r9.2 14 1 0 (bsIx (6 : Int32))) = 0 then (fX9_power_23   (0 : Int32) r9.2) else (fX9_power_23   (1 : Int32) r9.2)) else none) else (some ((0 : Int32), r9.2))
abbrev rmX9_power : Room := { frames := 6, cells := 0, slots := 0, locals := 130 }
set_option maxHeartbeats 4000000 in
set_option maxRecDepth 100000 in
theorem wX9_power_23 {p : Program} {l : Launch} {e : Env} {s : State} {m : MethodId} {args : Array Value} {below : List Frame} {meth : Method} {c : Code} {ρ : bsR} {cA : Nat → ClassId} {dC : Nat → ClassId} {dI : Nat → Nat → Nat} {Rz : va_W} {Ts : List Cond}   {z : (Int32 × bsX)} (C : bsCx p m c cX9_power 2 s args Ts RX9 ρ cA dC dI Rz meth (some .int)) (y1 : Int32) (X : bsX) (hf : fX9_power_23 y1 X = some z) : bsV p l e rmX9_power s m args below meth c 0 0 (MQ below (bsQi ρ cA dC dI Rz z s.heap.size) args s 0 0 (bsA ρ cA Rz s.heap.size)) ρ cA dC dI Rz 2 23 [(0, .ref (ρ 14 0 0))] [.int y1, .ref (ρ 14 0 0)] X := by
  rw [fX9_power_23] at hf
  refine v_iconst (v := 2) C dX9_power_23 (by decide) ?_
  obtain ⟨r1, hc2, hf⟩ := bs_bind hf
  refine v_callVi (y := yX9_refuse) (As := [.int y1, .int (2 : Int32)]) (rest := []) C (cX9_refuse_ok  hc2) ml_X9_40 wyX9_refuse (bsm_X9) (bsc_X9) rfl dpX9_refuse ⟨Nat.le_of_ble_eq_true rfl, Nat.le_of_ble_eq_true rfl⟩ ⟨rfl, rfl⟩ ⟨Nat.le_of_ble_eq_true rfl, Nat.le_of_ble_eq_true rfl⟩ rfl (Nat.le_of_ble_eq_true rfl) dX9_power_24 ?_
  refine v_if_eq (tgt := 32) C dX9_power_27 (by decide) (fun h8 => ?_) (fun h8 => ?_)
  · replace hf := bs_pos h8 hf
    refine v_aload_n C dX9_power_32 rfl rfl ?_
    obtain ⟨r3, hc4, hf⟩ := bs_bind hf
    refine v_callVv (y := yX9_keepsAll) (As := []) (rest := []) C (cX9_keepsAll_ok  hc4) ml_X9_357 wyX9_keepsAll (bsm_X9) (bsc_X9) rfl dpX9_keepsAll ⟨Nat.le_of_ble_eq_true rfl, Nat.le_of_ble_eq_true rfl⟩ ⟨rfl, rfl⟩ ⟨Nat.le_of_ble_eq_true rfl, Nat.le_of_ble_eq_true rfl⟩ rfl (Nat.le_of_ble_eq_true rfl) dX9_power_33 ?_
    refine v_aload_n C dX9_power_36 rfl rfl ?_
    refine v_iconst (v := 0) C dX9_power_37 (by decide) ?_
    obtain ⟨r5, hc6, hf⟩ := bs_bind hf
    refine v_callVi (y := yX9_boots) (As := [.int (0 : Int32)]) (rest := []) C (cX9_boots_ok  hc6) ml_X9_92 wyX9_boots (bsm_X9) (bsc_X9) rfl dpX9_boots ⟨Nat.le_of_ble_eq_true rfl, Nat.le_of_ble_eq_true rfl⟩ ⟨rfl, rfl⟩ ⟨Nat.le_of_ble_eq_true rfl, Nat.le_of_ble_eq_true rfl⟩ rfl (Nat.le_of_ble_eq_true rfl) dX9_power_38 ?_
    refine v_istore_n (lv' := [(1, .int r5.1), (0, .ref (ρ 14 0 0))]) C dX9_power_41 rfl (by decide) rfl ?_
    refine v_aload_n C dX9_power_42 rfl rfl ?_
    refine gf_X9_7 C dX9_power_43 ?_
    refine v_bipush (v := 7) C dX9_power_46 (by decide) ?_
    obtain ⟨hi7, hf⟩ := bs_if hf
    refine v_iald (n := 160) C bsm_14_1 bsc_14_1 hi7 dX9_power_48 ?_
    exact v_iret C hf dX9_power_49
  · replace hf := bs_neg h8 hf
    refine v_iconst (v := 0) C dX9_power_30 (by decide) ?_
    exact v_iret C hf dX9_power_31
set_option maxHeartbeats 4000000 in
set_option maxRecDepth 100000 in
theorem cX9_power_ok {l : Launch} {ρ : bsR} {cA : Nat → ClassId} {dC : Nat → ClassId} {dI : Nat → Nat → Nat} {Rz : va_W}  {X : bsX} {z : (Int32 × bsX)} (hf : fX9_power  X = some z) : bsMi l yX9_power cX9_power 2 (some .int) rmX9_power ρ cA dC dI Rz [.ref (ρ 14 0 0)] X z := by
  refine bsMi_of (by decide) (Nat.le_of_ble_eq_true rfl) (fun p e s m args below meth c C => ?_)
  have C : bsCx p m c cX9_power 2 s args (Cond.code yX9_power cX9_power 2 (some .int) :: bsG) RX9 ρ cA dC dI Rz meth (some .int) := C
  rw [fX9_power] at hf
  refine v_sub [0] rfl ?_
  refine v_aload_n C dX9_power_0 rfl rfl ?_
  obtain ⟨r9, hc10, hf⟩ := bs_bind hf
  refine v_callVi (y := yX9_notLoaded) (As := []) (rest := []) C (cX9_notLoaded_ok  hc10) ml_X9_48 wyX9_notLoaded (bsm_X9) (bsc_X9) rfl dpX9_notLoaded ⟨Nat.le_of_ble_eq_true rfl, Nat.le_of_ble_eq_true rfl⟩ ⟨rfl, rfl⟩ ⟨Nat.le_of_ble_eq_true rfl, Nat.le_of_ble_eq_true rfl⟩ rfl (Nat.le_of_ble_eq_true rfl) dX9_power_1 ?_
  refine v_if_ne (tgt := 30) C dX9_power_4 (by decide) (fun h13 => ?_) (fun h13 => ?_)
  · replace hf := bs_neg h13 hf
    refine v_iconst (v := 0) C dX9_power_30 (by decide) ?_
    exact v_iret C hf dX9_power_31
  · replace hf := bs_pos h13 hf
    refine v_aload_n C dX9_power_7 rfl rfl ?_
    refine v_aload_n C dX9_power_8 rfl rfl ?_
    refine gf_X9_7 C dX9_power_9 ?_
    refine v_bipush (v := 6) C dX9_power_12 (by decide) ?_
    obtain ⟨hi11, hf⟩ := bs_if hf
    refine v_iald (n := 160) C bsm_14_1 bsc_14_1 hi11 dX9_power_14 ?_
    refine v_if_eq (tgt := 22) C dX9_power_15 (by decide) (fun h12 => ?_) (fun h12 => ?_)
    · replace hf := bs_pos h12 hf
      refine v_iconst (v := 0) C dX9_power_22 (by decide) ?_
      refine v_sub [0] rfl ?_
      exact wX9_power_23   C  _ _  hf
    · replace hf := bs_neg h12 hf
      refine v_iconst (v := 1) C dX9_power_18 (by decide) ?_
      refine v_goto (tgt := 23) C dX9_power_19 (by decide) ?_
      refine v_sub [0] rfl ?_
      exact wX9_power_23   C  _ _  hf
/-! BootSlotsModel.cut()I -/
def fX9_cut_23 (y1 : Int32) (X : bsX) : Option (Int32 × bsX) := (fX9_refuse  y1 (2 : Int32) X).bind fun r1 => if r1.1 = 0 then ((fX9_keepsAll   r1.2).bind fun r3 => if bsIn (20 : Int32) 160 then ((fX9_noInstall   r3).bind fun r6 => if bsIn (6 : Int32) 160 then (if bsIn (7 : Int32) 160 then (if bsIn (8 : Int32) 160 then (some ((r3 14 1 0 (bsIx (20 : Int32))), (bsWr (bsWr (bsWr r6 14 1 0 (bsIx (6 : Int32)) (0 : Int32)) 14 1 0 (bsIx (7 : Int32)) (-1 : Int32)) 14 1 0 (bsIx (8 : Int32)) (0 : Int32)))) else none) else none) else none) else none) else (some ((0 : Int32), r1.2))
def fX9_cut (X : bsX) : Option (Int32 × bsX) := (fX9_notLoaded   X).bind fun r12 => if r12.1 = 0 then (if bsIn (6 : Int32) 160 then (if (r12.2 14 1 0 (bsIx (6 : Int32))) = 0 then (fX9_cut_23   (1 : Int32) r12.2) else (fX9_cut_23   (0 : Int32) r12.2)) else none) else (some ((0 : Int32), r12.2))
abbrev rmX9_cut : Room := { frames := 2, cells := 0, slots := 0, locals := 45 }
set_option maxHeartbeats 4000000 in
set_option maxRecDepth 100000 in
theorem wX9_cut_23 {p : Program} {l : Launch} {e : Env} {s : State} {m : MethodId} {args : Array Value} {below : List Frame} {meth : Method} {c : Code} {ρ : bsR} {cA : Nat → ClassId} {dC : Nat → ClassId} {dI : Nat → Nat → Nat} {Rz : va_W} {Ts : List Cond}   {z : (Int32 × bsX)} (C : bsCx p m c cX9_cut 2 s args Ts RX9 ρ cA dC dI Rz meth (some .int)) (y1 : Int32) (X : bsX) (hf : fX9_cut_23 y1 X = some z) : bsV p l e rmX9_cut s m args below meth c 0 0 (MQ below (bsQi ρ cA dC dI Rz z s.heap.size) args s 0 0 (bsA ρ cA Rz s.heap.size)) ρ cA dC dI Rz 2 23 [(0, .ref (ρ 14 0 0))] [.int y1, .ref (ρ 14 0 0)] X := by
  rw [fX9_cut_23] at hf
  refine v_iconst (v := 2) C dX9_cut_23 (by decide) ?_
  obtain ⟨r1, hc2, hf⟩ := bs_bind hf
  refine v_callVi (y := yX9_refuse) (As := [.int y1, .int (2 : Int32)]) (rest := []) C (cX9_refuse_ok  hc2) ml_X9_40 wyX9_refuse (bsm_X9) (bsc_X9) rfl dpX9_refuse ⟨Nat.le_of_ble_eq_true rfl, Nat.le_of_ble_eq_true rfl⟩ ⟨rfl, rfl⟩ ⟨Nat.le_of_ble_eq_true rfl, Nat.le_of_ble_eq_true rfl⟩ rfl (Nat.le_of_ble_eq_true rfl) dX9_cut_24 ?_
  refine v_if_eq (tgt := 32) C dX9_cut_27 (by decide) (fun h11 => ?_) (fun h11 => ?_)
  · replace hf := bs_pos h11 hf
    refine v_aload_n C dX9_cut_32 rfl rfl ?_
    obtain ⟨r3, hc4, hf⟩ := bs_bind hf
    refine v_callVv (y := yX9_keepsAll) (As := []) (rest := []) C (cX9_keepsAll_ok  hc4) ml_X9_357 wyX9_keepsAll (bsm_X9) (bsc_X9) rfl dpX9_keepsAll ⟨Nat.le_of_ble_eq_true rfl, Nat.le_of_ble_eq_true rfl⟩ ⟨rfl, rfl⟩ ⟨Nat.le_of_ble_eq_true rfl, Nat.le_of_ble_eq_true rfl⟩ rfl (Nat.le_of_ble_eq_true rfl) dX9_cut_33 ?_
    refine v_aload_n C dX9_cut_36 rfl rfl ?_
    refine gf_X9_7 C dX9_cut_37 ?_
    refine v_bipush (v := 20) C dX9_cut_40 (by decide) ?_
    obtain ⟨hi5, hf⟩ := bs_if hf
    refine v_iald (n := 160) C bsm_14_1 bsc_14_1 hi5 dX9_cut_42 ?_
    refine v_istore_n (lv' := [(1, .int (r3 14 1 0 (bsIx (20 : Int32)))), (0, .ref (ρ 14 0 0))]) C dX9_cut_43 rfl (by decide) rfl ?_
    refine v_aload_n C dX9_cut_44 rfl rfl ?_
    obtain ⟨r6, hc7, hf⟩ := bs_bind hf
    refine v_callVv (y := yX9_noInstall) (As := []) (rest := []) C (cX9_noInstall_ok  hc7) ml_X9_121 wyX9_noInstall (bsm_X9) (bsc_X9) rfl dpX9_noInstall ⟨Nat.le_of_ble_eq_true rfl, Nat.le_of_ble_eq_true rfl⟩ ⟨rfl, rfl⟩ ⟨Nat.le_of_ble_eq_true rfl, Nat.le_of_ble_eq_true rfl⟩ rfl (Nat.le_of_ble_eq_true rfl) dX9_cut_45 ?_
    refine v_aload_n C dX9_cut_48 rfl rfl ?_
    refine gf_X9_7 C dX9_cut_49 ?_
    refine v_bipush (v := 6) C dX9_cut_52 (by decide) ?_
    refine v_iconst (v := 0) C dX9_cut_54 (by decide) ?_
    obtain ⟨hi8, hf⟩ := bs_if hf
    refine v_iast (n := 160) C bsm_14_1 (fun _ => bsc_14_1) hi8 dX9_cut_55 ?_
    refine v_aload_n C dX9_cut_56 rfl rfl ?_
    refine gf_X9_7 C dX9_cut_57 ?_
    refine v_bipush (v := 7) C dX9_cut_60 (by decide) ?_
    refine v_iconst (v := -1) C dX9_cut_62 (by decide) ?_
    obtain ⟨hi9, hf⟩ := bs_if hf
    refine v_iast (n := 160) C bsm_14_1 (fun _ => bsc_14_1) hi9 dX9_cut_63 ?_
    refine v_aload_n C dX9_cut_64 rfl rfl ?_
    refine gf_X9_7 C dX9_cut_65 ?_
    refine v_bipush (v := 8) C dX9_cut_68 (by decide) ?_
    refine v_iconst (v := 0) C dX9_cut_70 (by decide) ?_
    obtain ⟨hi10, hf⟩ := bs_if hf
    refine v_iast (n := 160) C bsm_14_1 (fun _ => bsc_14_1) hi10 dX9_cut_71 ?_
    refine v_iload_n C dX9_cut_72 rfl rfl ?_
    exact v_iret C hf dX9_cut_73
  · replace hf := bs_neg h11 hf
    refine v_iconst (v := 0) C dX9_cut_30 (by decide) ?_
    exact v_iret C hf dX9_cut_31
set_option maxHeartbeats 4000000 in
set_option maxRecDepth 100000 in
theorem cX9_cut_ok {l : Launch} {ρ : bsR} {cA : Nat → ClassId} {dC : Nat → ClassId} {dI : Nat → Nat → Nat} {Rz : va_W}  {X : bsX} {z : (Int32 × bsX)} (hf : fX9_cut  X = some z) : bsMi l yX9_cut cX9_cut 2 (some .int) rmX9_cut ρ cA dC dI Rz [.ref (ρ 14 0 0)] X z := by
  refine bsMi_of (by decide) (Nat.le_of_ble_eq_true rfl) (fun p e s m args below meth c C => ?_)
  have C : bsCx p m c cX9_cut 2 s args (Cond.code yX9_cut cX9_cut 2 (some .int) :: bsG) RX9 ρ cA dC dI Rz meth (some .int) := C
  rw [fX9_cut] at hf
  refine v_sub [0] rfl ?_
  refine v_aload_n C dX9_cut_0 rfl rfl ?_
  obtain ⟨r12, hc13, hf⟩ := bs_bind hf
  refine v_callVi (y := yX9_notLoaded) (As := []) (rest := []) C (cX9_notLoaded_ok  hc13) ml_X9_48 wyX9_notLoaded (bsm_X9) (bsc_X9) rfl dpX9_notLoaded ⟨Nat.le_of_ble_eq_true rfl, Nat.le_of_ble_eq_true rfl⟩ ⟨rfl, rfl⟩ ⟨Nat.le_of_ble_eq_true rfl, Nat.le_of_ble_eq_true rfl⟩ rfl (Nat.le_of_ble_eq_true rfl) dX9_cut_1 ?_
  refine v_if_ne (tgt := 30) C dX9_cut_4 (by decide) (fun h16 => ?_) (fun h16 => ?_)
  · replace hf := bs_neg h16 hf
    refine v_iconst (v := 0) C dX9_cut_30 (by decide) ?_
    exact v_iret C hf dX9_cut_31
  · replace hf := bs_pos h16 hf
    refine v_aload_n C dX9_cut_7 rfl rfl ?_
    refine v_aload_n C dX9_cut_8 rfl rfl ?_
    refine gf_X9_7 C dX9_cut_9 ?_
    refine v_bipush (v := 6) C dX9_cut_12 (by decide) ?_
    obtain ⟨hi14, hf⟩ := bs_if hf
    refine v_iald (n := 160) C bsm_14_1 bsc_14_1 hi14 dX9_cut_14 ?_
    refine v_if_ne (tgt := 22) C dX9_cut_15 (by decide) (fun h15 => ?_) (fun h15 => ?_)
    · replace hf := bs_neg h15 hf
      refine v_iconst (v := 0) C dX9_cut_22 (by decide) ?_
      refine v_sub [0] rfl ?_
      exact wX9_cut_23   C  _ _  hf
    · replace hf := bs_pos h15 hf
      refine v_iconst (v := 1) C dX9_cut_18 (by decide) ?_
      refine v_goto (tgt := 23) C dX9_cut_19 (by decide) ?_
      refine v_sub [0] rfl ?_
      exact wX9_cut_23   C  _ _  hf
/-! BootSlotsModel.reboot()I -/
def fX9_reboot_23 (y1 : Int32) (X : bsX) : Option (Int32 × bsX) := (fX9_refuse  y1 (2 : Int32) X).bind fun r1 => if r1.1 = 0 then ((fX9_keepsAll   r1.2).bind fun r3 => (fX9_boots  (1 : Int32) r3).bind fun r5 => if bsIn (7 : Int32) 160 then (some ((r5.2 14 1 0 (bsIx (7 : Int32))), r5.2)) else none) else (some ((0 : Int32), r1.2))
def fX9_reboot (X : bsX) : Option (Int32 × bsX) := (fX9_notLoaded   X).bind fun r9 => if r9.1 = 0 then (if bsIn (6 : Int32) 160 then (if (r9.2 14 1 0 (bsIx (6 : Int32))) = 0 then (fX9_reboot_23   (1 : Int32) r9.2) else (fX9_reboot_23   (0 : Int32) r9.2)) else none) else (some ((0 : Int32), r9.2))
abbrev rmX9_reboot : Room := { frames := 6, cells := 0, slots := 0, locals := 130 }
set_option maxHeartbeats 4000000 in
set_option maxRecDepth 100000 in
theorem wX9_reboot_23 {p : Program} {l : Launch} {e : Env} {s : State} {m : MethodId} {args : Array Value} {below : List Frame} {meth : Method} {c : Code} {ρ : bsR} {cA : Nat → ClassId} {dC : Nat → ClassId} {dI : Nat → Nat → Nat} {Rz : va_W} {Ts : List Cond}   {z : (Int32 × bsX)} (C : bsCx p m c cX9_reboot 2 s args Ts RX9 ρ cA dC dI Rz meth (some .int)) (y1 : Int32) (X : bsX) (hf : fX9_reboot_23 y1 X = some z) : bsV p l e rmX9_reboot s m args below meth c 0 0 (MQ below (bsQi ρ cA dC dI Rz z s.heap.size) args s 0 0 (bsA ρ cA Rz s.heap.size)) ρ cA dC dI Rz 2 23 [(0, .ref (ρ 14 0 0))] [.int y1, .ref (ρ 14 0 0)] X := by
  rw [fX9_reboot_23] at hf
  refine v_iconst (v := 2) C dX9_reboot_23 (by decide) ?_
  obtain ⟨r1, hc2, hf⟩ := bs_bind hf
  refine v_callVi (y := yX9_refuse) (As := [.int y1, .int (2 : Int32)]) (rest := []) C (cX9_refuse_ok  hc2) ml_X9_40 wyX9_refuse (bsm_X9) (bsc_X9) rfl dpX9_refuse ⟨Nat.le_of_ble_eq_true rfl, Nat.le_of_ble_eq_true rfl⟩ ⟨rfl, rfl⟩ ⟨Nat.le_of_ble_eq_true rfl, Nat.le_of_ble_eq_true rfl⟩ rfl (Nat.le_of_ble_eq_true rfl) dX9_reboot_24 ?_
  refine v_if_eq (tgt := 32) C dX9_reboot_27 (by decide) (fun h8 => ?_) (fun h8 => ?_)
  · replace hf := bs_pos h8 hf
    refine v_aload_n C dX9_reboot_32 rfl rfl ?_
    obtain ⟨r3, hc4, hf⟩ := bs_bind hf
    refine v_callVv (y := yX9_keepsAll) (As := []) (rest := []) C (cX9_keepsAll_ok  hc4) ml_X9_357 wyX9_keepsAll (bsm_X9) (bsc_X9) rfl dpX9_keepsAll ⟨Nat.le_of_ble_eq_true rfl, Nat.le_of_ble_eq_true rfl⟩ ⟨rfl, rfl⟩ ⟨Nat.le_of_ble_eq_true rfl, Nat.le_of_ble_eq_true rfl⟩ rfl (Nat.le_of_ble_eq_true rfl) dX9_reboot_33 ?_
    refine v_aload_n C dX9_reboot_36 rfl rfl ?_
    refine v_iconst (v := 1) C dX9_reboot_37 (by decide) ?_
    obtain ⟨r5, hc6, hf⟩ := bs_bind hf
    refine v_callVi (y := yX9_boots) (As := [.int (1 : Int32)]) (rest := []) C (cX9_boots_ok  hc6) ml_X9_92 wyX9_boots (bsm_X9) (bsc_X9) rfl dpX9_boots ⟨Nat.le_of_ble_eq_true rfl, Nat.le_of_ble_eq_true rfl⟩ ⟨rfl, rfl⟩ ⟨Nat.le_of_ble_eq_true rfl, Nat.le_of_ble_eq_true rfl⟩ rfl (Nat.le_of_ble_eq_true rfl) dX9_reboot_38 ?_
    refine v_istore_n (lv' := [(1, .int r5.1), (0, .ref (ρ 14 0 0))]) C dX9_reboot_41 rfl (by decide) rfl ?_
    refine v_aload_n C dX9_reboot_42 rfl rfl ?_
    refine gf_X9_7 C dX9_reboot_43 ?_
    refine v_bipush (v := 7) C dX9_reboot_46 (by decide) ?_
    obtain ⟨hi7, hf⟩ := bs_if hf
    refine v_iald (n := 160) C bsm_14_1 bsc_14_1 hi7 dX9_reboot_48 ?_
    exact v_iret C hf dX9_reboot_49
  · replace hf := bs_neg h8 hf
    refine v_iconst (v := 0) C dX9_reboot_30 (by decide) ?_
    exact v_iret C hf dX9_reboot_31
set_option maxHeartbeats 4000000 in
set_option maxRecDepth 100000 in
theorem cX9_reboot_ok {l : Launch} {ρ : bsR} {cA : Nat → ClassId} {dC : Nat → ClassId} {dI : Nat → Nat → Nat} {Rz : va_W}  {X : bsX} {z : (Int32 × bsX)} (hf : fX9_reboot  X = some z) : bsMi l yX9_reboot cX9_reboot 2 (some .int) rmX9_reboot ρ cA dC dI Rz [.ref (ρ 14 0 0)] X z := by
  refine bsMi_of (by decide) (Nat.le_of_ble_eq_true rfl) (fun p e s m args below meth c C => ?_)
  have C : bsCx p m c cX9_reboot 2 s args (Cond.code yX9_reboot cX9_reboot 2 (some .int) :: bsG) RX9 ρ cA dC dI Rz meth (some .int) := C
  rw [fX9_reboot] at hf
  refine v_sub [0] rfl ?_
  refine v_aload_n C dX9_reboot_0 rfl rfl ?_
  obtain ⟨r9, hc10, hf⟩ := bs_bind hf
  refine v_callVi (y := yX9_notLoaded) (As := []) (rest := []) C (cX9_notLoaded_ok  hc10) ml_X9_48 wyX9_notLoaded (bsm_X9) (bsc_X9) rfl dpX9_notLoaded ⟨Nat.le_of_ble_eq_true rfl, Nat.le_of_ble_eq_true rfl⟩ ⟨rfl, rfl⟩ ⟨Nat.le_of_ble_eq_true rfl, Nat.le_of_ble_eq_true rfl⟩ rfl (Nat.le_of_ble_eq_true rfl) dX9_reboot_1 ?_
  refine v_if_ne (tgt := 30) C dX9_reboot_4 (by decide) (fun h13 => ?_) (fun h13 => ?_)
  · replace hf := bs_neg h13 hf
    refine v_iconst (v := 0) C dX9_reboot_30 (by decide) ?_
    exact v_iret C hf dX9_reboot_31
  · replace hf := bs_pos h13 hf
    refine v_aload_n C dX9_reboot_7 rfl rfl ?_
    refine v_aload_n C dX9_reboot_8 rfl rfl ?_
    refine gf_X9_7 C dX9_reboot_9 ?_
    refine v_bipush (v := 6) C dX9_reboot_12 (by decide) ?_
    obtain ⟨hi11, hf⟩ := bs_if hf
    refine v_iald (n := 160) C bsm_14_1 bsc_14_1 hi11 dX9_reboot_14 ?_
    refine v_if_ne (tgt := 22) C dX9_reboot_15 (by decide) (fun h12 => ?_) (fun h12 => ?_)
    · replace hf := bs_neg h12 hf
      refine v_iconst (v := 0) C dX9_reboot_22 (by decide) ?_
      refine v_sub [0] rfl ?_
      exact wX9_reboot_23   C  _ _  hf
    · replace hf := bs_pos h12 hf
      refine v_iconst (v := 1) C dX9_reboot_18 (by decide) ?_
      refine v_goto (tgt := 23) C dX9_reboot_19 (by decide) ?_
      refine v_sub [0] rfl ?_
      exact wX9_reboot_23   C  _ _  hf
/-! BootSlotsModel.tick(I)I -/
def fX9_tick_39 (x1 : Int32) (y1 : Int32) (X : bsX) : Option (Int32 × bsX) := (fX9_refuse  y1 (2 : Int32) X).bind fun r1 => if r1.1 = 0 then ((fX9_keepsAll   r1.2).bind fun r3 => if bsIn (12 : Int32) 160 then ((fX9_ticksAll  x1 r3).bind fun r6 => some (((r6 14 1 0 (bsIx (12 : Int32))) - (r3 14 1 0 (bsIx (12 : Int32)))), r6)) else none) else (some ((0 : Int32), r1.2))
def fX9_tick_34 (x1 : Int32) (X : bsX) : Option (Int32 × bsX) := fX9_tick_39   x1 (1 : Int32) X
def fX9_tick (a1 : Int32) (X : bsX) : Option (Int32 × bsX) := (fX9_notLoaded   X).bind fun r10 => if r10.1 = 0 then ((fX9_in  a1.toInt64 (1 : Int64) (300 : Int64) r10.2).bind fun r12 => if r12.1 = 0 then (fX9_tick_34   a1 r12.2) else (if bsIn (1 : Int32) 160 then (if ((r12.2 14 1 0 (bsIx (1 : Int32))) + a1) ≤ (9999 : Int32) then (fX9_tick_39   a1 (0 : Int32) r12.2) else (fX9_tick_34   a1 r12.2)) else none)) else (some ((0 : Int32), r10.2))
abbrev rmX9_tick : Room := { frames := 10, cells := 0, slots := 0, locals := 216 }
set_option maxHeartbeats 4000000 in
set_option maxRecDepth 100000 in
theorem wX9_tick_39 {p : Program} {l : Launch} {e : Env} {s : State} {m : MethodId} {args : Array Value} {below : List Frame} {meth : Method} {c : Code} {ρ : bsR} {cA : Nat → ClassId} {dC : Nat → ClassId} {dI : Nat → Nat → Nat} {Rz : va_W} {Ts : List Cond}   {z : (Int32 × bsX)} (C : bsCx p m c cX9_tick 3 s args Ts RX9 ρ cA dC dI Rz meth (some .int)) (x1 : Int32) (y1 : Int32) (X : bsX) (hf : fX9_tick_39 x1 y1 X = some z) : bsV p l e rmX9_tick s m args below meth c 0 0 (MQ below (bsQi ρ cA dC dI Rz z s.heap.size) args s 0 0 (bsA ρ cA Rz s.heap.size)) ρ cA dC dI Rz 3 39 [(0, .ref (ρ 14 0 0)), (1, .int x1)] [.int y1, .ref (ρ 14 0 0)] X := by
  rw [fX9_tick_39] at hf
  refine v_iconst (v := 2) C dX9_tick_39 (by decide) ?_
  obtain ⟨r1, hc2, hf⟩ := bs_bind hf
  refine v_callVi (y := yX9_refuse) (As := [.int y1, .int (2 : Int32)]) (rest := []) C (cX9_refuse_ok  hc2) ml_X9_40 wyX9_refuse (bsm_X9) (bsc_X9) rfl dpX9_refuse ⟨Nat.le_of_ble_eq_true rfl, Nat.le_of_ble_eq_true rfl⟩ ⟨rfl, rfl⟩ ⟨Nat.le_of_ble_eq_true rfl, Nat.le_of_ble_eq_true rfl⟩ rfl (Nat.le_of_ble_eq_true rfl) dX9_tick_40 ?_
  refine v_if_eq (tgt := 48) C dX9_tick_43 (by decide) (fun h9 => ?_) (fun h9 => ?_)
  · replace hf := bs_pos h9 hf
    refine v_aload_n C dX9_tick_48 rfl rfl ?_
    obtain ⟨r3, hc4, hf⟩ := bs_bind hf
    refine v_callVv (y := yX9_keepsAll) (As := []) (rest := []) C (cX9_keepsAll_ok  hc4) ml_X9_357 wyX9_keepsAll (bsm_X9) (bsc_X9) rfl dpX9_keepsAll ⟨Nat.le_of_ble_eq_true rfl, Nat.le_of_ble_eq_true rfl⟩ ⟨rfl, rfl⟩ ⟨Nat.le_of_ble_eq_true rfl, Nat.le_of_ble_eq_true rfl⟩ rfl (Nat.le_of_ble_eq_true rfl) dX9_tick_49 ?_
    refine v_aload_n C dX9_tick_52 rfl rfl ?_
    refine gf_X9_7 C dX9_tick_53 ?_
    refine v_bipush (v := 12) C dX9_tick_56 (by decide) ?_
    obtain ⟨hi5, hf⟩ := bs_if hf
    refine v_iald (n := 160) C bsm_14_1 bsc_14_1 hi5 dX9_tick_58 ?_
    refine v_istore_n (lv' := [(2, .int (r3 14 1 0 (bsIx (12 : Int32)))), (0, .ref (ρ 14 0 0)), (1, .int x1)]) C dX9_tick_59 rfl (by decide) rfl ?_
    refine v_aload_n C dX9_tick_60 rfl rfl ?_
    refine v_iload_n C dX9_tick_61 rfl rfl ?_
    obtain ⟨r6, hc7, hf⟩ := bs_bind hf
    refine v_callVv (y := yX9_ticksAll) (As := [.int x1]) (rest := []) C (cX9_ticksAll_ok  hc7) ml_X9_283 wyX9_ticksAll (bsm_X9) (bsc_X9) rfl dpX9_ticksAll ⟨Nat.le_of_ble_eq_true rfl, Nat.le_of_ble_eq_true rfl⟩ ⟨rfl, rfl⟩ ⟨Nat.le_of_ble_eq_true rfl, Nat.le_of_ble_eq_true rfl⟩ rfl (Nat.le_of_ble_eq_true rfl) dX9_tick_62 ?_
    refine v_aload_n C dX9_tick_65 rfl rfl ?_
    refine gf_X9_7 C dX9_tick_66 ?_
    refine v_bipush (v := 12) C dX9_tick_69 (by decide) ?_
    refine v_iald (n := 160) C bsm_14_1 bsc_14_1 hi5 dX9_tick_71 ?_
    refine v_iload_n C dX9_tick_72 rfl rfl ?_
    refine v_isub C dX9_tick_73 ?_
    exact v_iret C hf dX9_tick_74
  · replace hf := bs_neg h9 hf
    refine v_iconst (v := 0) C dX9_tick_46 (by decide) ?_
    exact v_iret C hf dX9_tick_47
set_option maxHeartbeats 4000000 in
set_option maxRecDepth 100000 in
theorem wX9_tick_34 {p : Program} {l : Launch} {e : Env} {s : State} {m : MethodId} {args : Array Value} {below : List Frame} {meth : Method} {c : Code} {ρ : bsR} {cA : Nat → ClassId} {dC : Nat → ClassId} {dI : Nat → Nat → Nat} {Rz : va_W} {Ts : List Cond}   {z : (Int32 × bsX)} (C : bsCx p m c cX9_tick 3 s args Ts RX9 ρ cA dC dI Rz meth (some .int)) (x1 : Int32) (X : bsX) (hf : fX9_tick_34 x1 X = some z) : bsV p l e rmX9_tick s m args below meth c 0 0 (MQ below (bsQi ρ cA dC dI Rz z s.heap.size) args s 0 0 (bsA ρ cA Rz s.heap.size)) ρ cA dC dI Rz 3 34 [(0, .ref (ρ 14 0 0)), (1, .int x1)] [.ref (ρ 14 0 0)] X := by
  rw [fX9_tick_34] at hf
  refine v_iconst (v := 1) C dX9_tick_34 (by decide) ?_
  refine v_goto (tgt := 39) C dX9_tick_35 (by decide) ?_
  refine v_sub [0, 1] rfl ?_
  exact wX9_tick_39   C  _ _ _  hf
set_option maxHeartbeats 4000000 in
set_option maxRecDepth 100000 in
theorem cX9_tick_ok {l : Launch} {ρ : bsR} {cA : Nat → ClassId} {dC : Nat → ClassId} {dI : Nat → Nat → Nat} {Rz : va_W}  {a1 : Int32} {X : bsX} {z : (Int32 × bsX)} (hf : fX9_tick a1 X = some z) : bsMi l yX9_tick cX9_tick 3 (some .int) rmX9_tick ρ cA dC dI Rz [.ref (ρ 14 0 0), .int a1] X z := by
  refine bsMi_of (by decide) (Nat.le_of_ble_eq_true rfl) (fun p e s m args below meth c C => ?_)
  have C : bsCx p m c cX9_tick 3 s args (Cond.code yX9_tick cX9_tick 3 (some .int) :: bsG) RX9 ρ cA dC dI Rz meth (some .int) := C
  rw [fX9_tick] at hf
  refine v_sub [0, 1] rfl ?_
  refine v_aload_n C dX9_tick_0 rfl rfl ?_
  obtain ⟨r10, hc11, hf⟩ := bs_bind hf
  refine v_callVi (y := yX9_notLoaded) (As := []) (rest := []) C (cX9_notLoaded_ok  hc11) ml_X9_48 wyX9_notLoaded (bsm_X9) (bsc_X9) rfl dpX9_notLoaded ⟨Nat.le_of_ble_eq_true rfl, Nat.le_of_ble_eq_true rfl⟩ ⟨rfl, rfl⟩ ⟨Nat.le_of_ble_eq_true rfl, Nat.le_of_ble_eq_true rfl⟩ rfl (Nat.le_of_ble_eq_true rfl) dX9_tick_1 ?_
  refine v_if_ne (tgt := 46) C dX9_tick_4 (by decide) (fun h17 => ?_) (fun h17 => ?_)
  · replace hf := bs_neg h17 hf
    refine v_iconst (v := 0) C dX9_tick_46 (by decide) ?_
    exact v_iret C hf dX9_tick_47
  · replace hf := bs_pos h17 hf
    refine v_aload_n C dX9_tick_7 rfl rfl ?_
    refine v_iload_n C dX9_tick_8 rfl rfl ?_
    refine v_i2l C dX9_tick_9 ?_
    refine v_lconst (v := (1 : Int64)) C dX9_tick_10 (by decide) ?_
    refine v_ldc2 (v := (300 : Int64)) C (bsG_in 1766 (by decide +kernel) rfl) dX9_tick_11 ?_
    obtain ⟨r12, hc13, hf⟩ := bs_bind hf
    refine v_callSi (y := yX9_in) (As := [.long a1.toInt64, .long (1 : Int64), .long (300 : Int64)]) (rest := [.ref (ρ 14 0 0)]) C (cX9_in_ok  hc13) ml_X9_44 wzX9_in dpX9_in ⟨Nat.le_of_ble_eq_true rfl, Nat.le_of_ble_eq_true rfl⟩ ⟨rfl, rfl⟩ ⟨Nat.le_of_ble_eq_true rfl, Nat.le_of_ble_eq_true rfl⟩ rfl (Nat.le_of_ble_eq_true rfl) dX9_tick_14 ?_
    refine v_if_eq (tgt := 34) C dX9_tick_17 (by decide) (fun h16 => ?_) (fun h16 => ?_)
    · replace hf := bs_pos h16 hf
      refine v_sub [0, 1] rfl ?_
      exact wX9_tick_34   C  _ _  hf
    · replace hf := bs_neg h16 hf
      refine v_aload_n C dX9_tick_20 rfl rfl ?_
      refine gf_X9_7 C dX9_tick_21 ?_
      refine v_iconst (v := 1) C dX9_tick_24 (by decide) ?_
      obtain ⟨hi14, hf⟩ := bs_if hf
      refine v_iald (n := 160) C bsm_14_1 bsc_14_1 hi14 dX9_tick_25 ?_
      refine v_iload_n C dX9_tick_26 rfl rfl ?_
      refine v_iadd C dX9_tick_27 ?_
      refine v_sipush (v := 9999) C dX9_tick_28 (by decide) ?_
      refine v_icmp_le (tgt := 38) C dX9_tick_31 (by decide) (fun h15 => ?_) (fun h15 => ?_)
      · replace hf := bs_pos h15 hf
        refine v_iconst (v := 0) C dX9_tick_38 (by decide) ?_
        refine v_sub [0, 1] rfl ?_
        exact wX9_tick_39   C  _ _ _  hf
      · replace hf := bs_neg h15 hf
        refine v_sub [0, 1] rfl ?_
        exact wX9_tick_34   C  _ _  hf
/-! BootSlotsModel.areNumbers(IIII)Z -/
def fX9_areNumbers (a0 : Int32) (a1 : Int32) (a2 : Int32) (a3 : Int32) (X : bsX) : Option (Int32 × bsX) := (fX9_in  a0.toInt64 (0 : Int64) (99 : Int64) X).bind fun r1 => if r1.1 = 0 then (some ((0 : Int32), r1.2)) else ((fX9_in  a1.toInt64 (1 : Int64) (99 : Int64) r1.2).bind fun r3 => if r3.1 = 0 then (some ((0 : Int32), r3.2)) else ((fX9_in  a2.toInt64 (0 : Int64) (99 : Int64) r3.2).bind fun r5 => if r5.1 = 0 then (some ((0 : Int32), r5.2)) else ((fX9_in  a3.toInt64 (1 : Int64) (99 : Int64) r5.2).bind fun r7 => if r7.1 = 0 then (some ((0 : Int32), r7.2)) else (some ((1 : Int32), r7.2)))))
abbrev rmX9_areNumbers : Room := { frames := 1, cells := 0, slots := 0, locals := 25 }
set_option maxHeartbeats 4000000 in
set_option maxRecDepth 100000 in
theorem cX9_areNumbers_ok {l : Launch} {ρ : bsR} {cA : Nat → ClassId} {dC : Nat → ClassId} {dI : Nat → Nat → Nat} {Rz : va_W}  {a0 : Int32} {a1 : Int32} {a2 : Int32} {a3 : Int32} {X : bsX} {z : (Int32 × bsX)} (hf : fX9_areNumbers a0 a1 a2 a3 X = some z) : bsMi l yX9_areNumbers cX9_areNumbers 4 (some .boolean) rmX9_areNumbers ρ cA dC dI Rz [.int a0, .int a1, .int a2, .int a3] X z := by
  refine bsMi_of (by decide) (Nat.le_of_ble_eq_true rfl) (fun p e s m args below meth c C => ?_)
  have C : bsCx p m c cX9_areNumbers 4 s args (Cond.code yX9_areNumbers cX9_areNumbers 4 (some .boolean) :: bsG) RX9 ρ cA dC dI Rz meth (some .boolean) := C
  rw [fX9_areNumbers] at hf
  refine v_sub [0, 1, 2, 3] rfl ?_
  refine v_iload_n C dX9_areNumbers_0 rfl rfl ?_
  refine v_i2l C dX9_areNumbers_1 ?_
  refine v_lconst (v := (0 : Int64)) C dX9_areNumbers_2 (by decide) ?_
  refine v_ldc2 (v := (99 : Int64)) C (bsG_in 1887 (by decide +kernel) rfl) dX9_areNumbers_3 ?_
  obtain ⟨r1, hc2, hf⟩ := bs_bind hf
  refine v_callSi (y := yX9_in) (As := [.long a0.toInt64, .long (0 : Int64), .long (99 : Int64)]) (rest := []) C (cX9_in_ok  hc2) ml_X9_44 wzX9_in dpX9_in ⟨Nat.le_of_ble_eq_true rfl, Nat.le_of_ble_eq_true rfl⟩ ⟨rfl, rfl⟩ ⟨Nat.le_of_ble_eq_true rfl, Nat.le_of_ble_eq_true rfl⟩ rfl (Nat.le_of_ble_eq_true rfl) dX9_areNumbers_6 ?_
  refine v_if_eq (tgt := 52) C dX9_areNumbers_9 (by decide) (fun h12 => ?_) (fun h12 => ?_)
  · replace hf := bs_pos h12 hf
    refine v_iconst (v := 0) C dX9_areNumbers_52 (by decide) ?_
    exact v_zret C (bsZ01 (by decide)).1 hf dX9_areNumbers_53
  · replace hf := bs_neg h12 hf
    refine v_iload_n C dX9_areNumbers_12 rfl rfl ?_
    refine v_i2l C dX9_areNumbers_13 ?_
    refine v_lconst (v := (1 : Int64)) C dX9_areNumbers_14 (by decide) ?_
    refine v_ldc2 (v := (99 : Int64)) C (bsG_in 1887 (by decide +kernel) rfl) dX9_areNumbers_15 ?_
    obtain ⟨r3, hc4, hf⟩ := bs_bind hf
    refine v_callSi (y := yX9_in) (As := [.long a1.toInt64, .long (1 : Int64), .long (99 : Int64)]) (rest := []) C (cX9_in_ok  hc4) ml_X9_44 wzX9_in dpX9_in ⟨Nat.le_of_ble_eq_true rfl, Nat.le_of_ble_eq_true rfl⟩ ⟨rfl, rfl⟩ ⟨Nat.le_of_ble_eq_true rfl, Nat.le_of_ble_eq_true rfl⟩ rfl (Nat.le_of_ble_eq_true rfl) dX9_areNumbers_18 ?_
    refine v_if_eq (tgt := 52) C dX9_areNumbers_21 (by decide) (fun h11 => ?_) (fun h11 => ?_)
    · replace hf := bs_pos h11 hf
      refine v_iconst (v := 0) C dX9_areNumbers_52 (by decide) ?_
      exact v_zret C (bsZ01 (by decide)).1 hf dX9_areNumbers_53
    · replace hf := bs_neg h11 hf
      refine v_iload_n C dX9_areNumbers_24 rfl rfl ?_
      refine v_i2l C dX9_areNumbers_25 ?_
      refine v_lconst (v := (0 : Int64)) C dX9_areNumbers_26 (by decide) ?_
      refine v_ldc2 (v := (99 : Int64)) C (bsG_in 1887 (by decide +kernel) rfl) dX9_areNumbers_27 ?_
      obtain ⟨r5, hc6, hf⟩ := bs_bind hf
      refine v_callSi (y := yX9_in) (As := [.long a2.toInt64, .long (0 : Int64), .long (99 : Int64)]) (rest := []) C (cX9_in_ok  hc6) ml_X9_44 wzX9_in dpX9_in ⟨Nat.le_of_ble_eq_true rfl, Nat.le_of_ble_eq_true rfl⟩ ⟨rfl, rfl⟩ ⟨Nat.le_of_ble_eq_true rfl, Nat.le_of_ble_eq_true rfl⟩ rfl (Nat.le_of_ble_eq_true rfl) dX9_areNumbers_30 ?_
      refine v_if_eq (tgt := 52) C dX9_areNumbers_33 (by decide) (fun h10 => ?_) (fun h10 => ?_)
      · replace hf := bs_pos h10 hf
        refine v_iconst (v := 0) C dX9_areNumbers_52 (by decide) ?_
        exact v_zret C (bsZ01 (by decide)).1 hf dX9_areNumbers_53
      · replace hf := bs_neg h10 hf
        refine v_iload_n C dX9_areNumbers_36 rfl rfl ?_
        refine v_i2l C dX9_areNumbers_37 ?_
        refine v_lconst (v := (1 : Int64)) C dX9_areNumbers_38 (by decide) ?_
        refine v_ldc2 (v := (99 : Int64)) C (bsG_in 1887 (by decide +kernel) rfl) dX9_areNumbers_39 ?_
        obtain ⟨r7, hc8, hf⟩ := bs_bind hf
        refine v_callSi (y := yX9_in) (As := [.long a3.toInt64, .long (1 : Int64), .long (99 : Int64)]) (rest := []) C (cX9_in_ok  hc8) ml_X9_44 wzX9_in dpX9_in ⟨Nat.le_of_ble_eq_true rfl, Nat.le_of_ble_eq_true rfl⟩ ⟨rfl, rfl⟩ ⟨Nat.le_of_ble_eq_true rfl, Nat.le_of_ble_eq_true rfl⟩ rfl (Nat.le_of_ble_eq_true rfl) dX9_areNumbers_42 ?_
        refine v_if_eq (tgt := 52) C dX9_areNumbers_45 (by decide) (fun h9 => ?_) (fun h9 => ?_)
        · replace hf := bs_pos h9 hf
          refine v_iconst (v := 0) C dX9_areNumbers_52 (by decide) ?_
          exact v_zret C (bsZ01 (by decide)).1 hf dX9_areNumbers_53
        · replace hf := bs_neg h9 hf
          refine v_iconst (v := 1) C dX9_areNumbers_48 (by decide) ?_
          refine v_goto (tgt := 53) C dX9_areNumbers_49 (by decide) ?_
          exact v_zret C (bsZ01 (by decide)).1 hf dX9_areNumbers_53
/-! BootSlotsModel.begin(IIIII)I -/
def fX9_begin_51 (x1 : Int32) (x2 : Int32) (x3 : Int32) (x4 : Int32) (x5 : Int32) (y1 : Int32) (X : bsX) : Option (Int32 × bsX) := (fX9_refuse  y1 (3 : Int32) X).bind fun r1 => if r1.1 = 0 then ((fX9_keepsAll   r1.2).bind fun r3 => (fX9_empties  x1 r3).bind fun r5 => if bsIn (20 : Int32) 160 then (if bsIn (21 : Int32) 160 then (if bsIn (22 : Int32) 160 then (if bsIn (23 : Int32) 160 then (if bsIn (24 : Int32) 160 then (if bsIn (25 : Int32) 160 then (if bsIn (26 : Int32) 160 then (if bsIn (27 : Int32) 160 then (if bsIn (1 : Int32) 160 then (some ((((bsWr (bsWr (bsWr (bsWr (bsWr (bsWr (bsWr (bsWr r5 14 1 0 (bsIx (20 : Int32)) x1) 14 1 0 (bsIx (21 : Int32)) x5) 14 1 0 (bsIx (22 : Int32)) x2) 14 1 0 (bsIx (23 : Int32)) x3) 14 1 0 (bsIx (24 : Int32)) x4) 14 1 0 (bsIx (25 : Int32)) (0 : Int32)) 14 1 0 (bsIx (26 : Int32)) (0 : Int32)) 14 1 0 (bsIx (27 : Int32)) (3 : Int32)) 14 1 0 (bsIx (1 : Int32))) + x5), (bsWr (bsWr (bsWr (bsWr (bsWr (bsWr (bsWr (bsWr r5 14 1 0 (bsIx (20 : Int32)) x1) 14 1 0 (bsIx (21 : Int32)) x5) 14 1 0 (bsIx (22 : Int32)) x2) 14 1 0 (bsIx (23 : Int32)) x3) 14 1 0 (bsIx (24 : Int32)) x4) 14 1 0 (bsIx (25 : Int32)) (0 : Int32)) 14 1 0 (bsIx (26 : Int32)) (0 : Int32)) 14 1 0 (bsIx (27 : Int32)) (3 : Int32)))) else none) else none) else none) else none) else none) else none) else none) else none) else none) else (some ((0 : Int32), r1.2))
def fX9_begin_46 (x1 : Int32) (x2 : Int32) (x3 : Int32) (x4 : Int32) (x5 : Int32) (X : bsX) : Option (Int32 × bsX) := fX9_begin_51   x1 x2 x3 x4 x5 (1 : Int32) X
def fX9_begin (a1 : Int32) (a2 : Int32) (a3 : Int32) (a4 : Int32) (a5 : Int32) (X : bsX) : Option (Int32 × bsX) := (fX9_noSlot  a1 X).bind fun r17 => if r17.1 = 0 then ((fX9_areNumbers  a2 a3 a4 a5 r17.2).bind fun r19 => if r19.1 = 0 then (fX9_begin_46   a1 a2 a3 a4 a5 r19.2) else ((fX9_isOn  a1 r19.2).bind fun r21 => if r21.1 = 0 then ((fX9_hasInstall   r21.2).bind fun r23 => if r23.1 = 0 then (if bsIn (6 : Int32) 160 then (if (r23.2 14 1 0 (bsIx (6 : Int32))) = 0 then (fX9_begin_46   a1 a2 a3 a4 a5 r23.2) else (fX9_begin_51   a1 a2 a3 a4 a5 (0 : Int32) r23.2)) else none) else (fX9_begin_46   a1 a2 a3 a4 a5 r23.2)) else (fX9_begin_46   a1 a2 a3 a4 a5 r21.2))) else (some ((0 : Int32), r17.2))
abbrev rmX9_begin : Room := { frames := 3, cells := 0, slots := 0, locals := 67 }
set_option maxHeartbeats 4000000 in
set_option maxRecDepth 100000 in
theorem wX9_begin_51 {p : Program} {l : Launch} {e : Env} {s : State} {m : MethodId} {args : Array Value} {below : List Frame} {meth : Method} {c : Code} {ρ : bsR} {cA : Nat → ClassId} {dC : Nat → ClassId} {dI : Nat → Nat → Nat} {Rz : va_W} {Ts : List Cond}   {z : (Int32 × bsX)} (C : bsCx p m c cX9_begin 6 s args Ts RX9 ρ cA dC dI Rz meth (some .int)) (x1 : Int32) (x2 : Int32) (x3 : Int32) (x4 : Int32) (x5 : Int32) (y1 : Int32) (X : bsX) (hf : fX9_begin_51 x1 x2 x3 x4 x5 y1 X = some z) : bsV p l e rmX9_begin s m args below meth c 0 0 (MQ below (bsQi ρ cA dC dI Rz z s.heap.size) args s 0 0 (bsA ρ cA Rz s.heap.size)) ρ cA dC dI Rz 6 51 [(0, .ref (ρ 14 0 0)), (1, .int x1), (2, .int x2), (3, .int x3), (4, .int x4), (5, .int x5)] [.int y1, .ref (ρ 14 0 0)] X := by
  rw [fX9_begin_51] at hf
  refine v_iconst (v := 3) C dX9_begin_51 (by decide) ?_
  obtain ⟨r1, hc2, hf⟩ := bs_bind hf
  refine v_callVi (y := yX9_refuse) (As := [.int y1, .int (3 : Int32)]) (rest := []) C (cX9_refuse_ok  hc2) ml_X9_40 wyX9_refuse (bsm_X9) (bsc_X9) rfl dpX9_refuse ⟨Nat.le_of_ble_eq_true rfl, Nat.le_of_ble_eq_true rfl⟩ ⟨rfl, rfl⟩ ⟨Nat.le_of_ble_eq_true rfl, Nat.le_of_ble_eq_true rfl⟩ rfl (Nat.le_of_ble_eq_true rfl) dX9_begin_52 ?_
  refine v_if_eq (tgt := 60) C dX9_begin_55 (by decide) (fun h16 => ?_) (fun h16 => ?_)
  · replace hf := bs_pos h16 hf
    refine v_aload_n C dX9_begin_60 rfl rfl ?_
    obtain ⟨r3, hc4, hf⟩ := bs_bind hf
    refine v_callVv (y := yX9_keepsAll) (As := []) (rest := []) C (cX9_keepsAll_ok  hc4) ml_X9_357 wyX9_keepsAll (bsm_X9) (bsc_X9) rfl dpX9_keepsAll ⟨Nat.le_of_ble_eq_true rfl, Nat.le_of_ble_eq_true rfl⟩ ⟨rfl, rfl⟩ ⟨Nat.le_of_ble_eq_true rfl, Nat.le_of_ble_eq_true rfl⟩ rfl (Nat.le_of_ble_eq_true rfl) dX9_begin_61 ?_
    refine v_aload_n C dX9_begin_64 rfl rfl ?_
    refine v_iload_n C dX9_begin_65 rfl rfl ?_
    obtain ⟨r5, hc6, hf⟩ := bs_bind hf
    refine v_callVv (y := yX9_empties) (As := [.int x1]) (rest := []) C (cX9_empties_ok  hc6) ml_X9_309 wyX9_empties (bsm_X9) (bsc_X9) rfl dpX9_empties ⟨Nat.le_of_ble_eq_true rfl, Nat.le_of_ble_eq_true rfl⟩ ⟨rfl, rfl⟩ ⟨Nat.le_of_ble_eq_true rfl, Nat.le_of_ble_eq_true rfl⟩ rfl (Nat.le_of_ble_eq_true rfl) dX9_begin_66 ?_
    refine v_aload_n C dX9_begin_69 rfl rfl ?_
    refine gf_X9_7 C dX9_begin_70 ?_
    refine v_bipush (v := 20) C dX9_begin_73 (by decide) ?_
    refine v_iload_n C dX9_begin_75 rfl rfl ?_
    obtain ⟨hi7, hf⟩ := bs_if hf
    refine v_iast (n := 160) C bsm_14_1 (fun _ => bsc_14_1) hi7 dX9_begin_76 ?_
    refine v_aload_n C dX9_begin_77 rfl rfl ?_
    refine gf_X9_7 C dX9_begin_78 ?_
    refine v_bipush (v := 21) C dX9_begin_81 (by decide) ?_
    refine v_iload C dX9_begin_83 rfl ?_
    obtain ⟨hi8, hf⟩ := bs_if hf
    refine v_iast (n := 160) C bsm_14_1 (fun _ => bsc_14_1) hi8 dX9_begin_85 ?_
    refine v_aload_n C dX9_begin_86 rfl rfl ?_
    refine gf_X9_7 C dX9_begin_87 ?_
    refine v_bipush (v := 22) C dX9_begin_90 (by decide) ?_
    refine v_iload_n C dX9_begin_92 rfl rfl ?_
    obtain ⟨hi9, hf⟩ := bs_if hf
    refine v_iast (n := 160) C bsm_14_1 (fun _ => bsc_14_1) hi9 dX9_begin_93 ?_
    refine v_aload_n C dX9_begin_94 rfl rfl ?_
    refine gf_X9_7 C dX9_begin_95 ?_
    refine v_bipush (v := 23) C dX9_begin_98 (by decide) ?_
    refine v_iload_n C dX9_begin_100 rfl rfl ?_
    obtain ⟨hi10, hf⟩ := bs_if hf
    refine v_iast (n := 160) C bsm_14_1 (fun _ => bsc_14_1) hi10 dX9_begin_101 ?_
    refine v_aload_n C dX9_begin_102 rfl rfl ?_
    refine gf_X9_7 C dX9_begin_103 ?_
    refine v_bipush (v := 24) C dX9_begin_106 (by decide) ?_
    refine v_iload C dX9_begin_108 rfl ?_
    obtain ⟨hi11, hf⟩ := bs_if hf
    refine v_iast (n := 160) C bsm_14_1 (fun _ => bsc_14_1) hi11 dX9_begin_110 ?_
    refine v_aload_n C dX9_begin_111 rfl rfl ?_
    refine gf_X9_7 C dX9_begin_112 ?_
    refine v_bipush (v := 25) C dX9_begin_115 (by decide) ?_
    refine v_iconst (v := 0) C dX9_begin_117 (by decide) ?_
    obtain ⟨hi12, hf⟩ := bs_if hf
    refine v_iast (n := 160) C bsm_14_1 (fun _ => bsc_14_1) hi12 dX9_begin_118 ?_
    refine v_aload_n C dX9_begin_119 rfl rfl ?_
    refine gf_X9_7 C dX9_begin_120 ?_
    refine v_bipush (v := 26) C dX9_begin_123 (by decide) ?_
    refine v_iconst (v := 0) C dX9_begin_125 (by decide) ?_
    obtain ⟨hi13, hf⟩ := bs_if hf
    refine v_iast (n := 160) C bsm_14_1 (fun _ => bsc_14_1) hi13 dX9_begin_126 ?_
    refine v_aload_n C dX9_begin_127 rfl rfl ?_
    refine gf_X9_7 C dX9_begin_128 ?_
    refine v_bipush (v := 27) C dX9_begin_131 (by decide) ?_
    refine v_iconst (v := 3) C dX9_begin_133 (by decide) ?_
    obtain ⟨hi14, hf⟩ := bs_if hf
    refine v_iast (n := 160) C bsm_14_1 (fun _ => bsc_14_1) hi14 dX9_begin_134 ?_
    refine v_aload_n C dX9_begin_135 rfl rfl ?_
    refine gf_X9_7 C dX9_begin_136 ?_
    refine v_iconst (v := 1) C dX9_begin_139 (by decide) ?_
    obtain ⟨hi15, hf⟩ := bs_if hf
    refine v_iald (n := 160) C bsm_14_1 bsc_14_1 hi15 dX9_begin_140 ?_
    refine v_iload C dX9_begin_141 rfl ?_
    refine v_iadd C dX9_begin_143 ?_
    exact v_iret C hf dX9_begin_144
  · replace hf := bs_neg h16 hf
    refine v_iconst (v := 0) C dX9_begin_58 (by decide) ?_
    exact v_iret C hf dX9_begin_59
set_option maxHeartbeats 4000000 in
set_option maxRecDepth 100000 in
theorem wX9_begin_46 {p : Program} {l : Launch} {e : Env} {s : State} {m : MethodId} {args : Array Value} {below : List Frame} {meth : Method} {c : Code} {ρ : bsR} {cA : Nat → ClassId} {dC : Nat → ClassId} {dI : Nat → Nat → Nat} {Rz : va_W} {Ts : List Cond}   {z : (Int32 × bsX)} (C : bsCx p m c cX9_begin 6 s args Ts RX9 ρ cA dC dI Rz meth (some .int)) (x1 : Int32) (x2 : Int32) (x3 : Int32) (x4 : Int32) (x5 : Int32) (X : bsX) (hf : fX9_begin_46 x1 x2 x3 x4 x5 X = some z) : bsV p l e rmX9_begin s m args below meth c 0 0 (MQ below (bsQi ρ cA dC dI Rz z s.heap.size) args s 0 0 (bsA ρ cA Rz s.heap.size)) ρ cA dC dI Rz 6 46 [(0, .ref (ρ 14 0 0)), (1, .int x1), (2, .int x2), (3, .int x3), (4, .int x4), (5, .int x5)] [.ref (ρ 14 0 0)] X := by
  rw [fX9_begin_46] at hf
  refine v_iconst (v := 1) C dX9_begin_46 (by decide) ?_
  refine v_goto (tgt := 51) C dX9_begin_47 (by decide) ?_
  refine v_sub [0, 1, 2, 3, 4, 5] rfl ?_
  exact wX9_begin_51   C  _ _ _ _ _ _ _  hf
set_option maxHeartbeats 4000000 in
set_option maxRecDepth 100000 in
theorem cX9_begin_ok {l : Launch} {ρ : bsR} {cA : Nat → ClassId} {dC : Nat → ClassId} {dI : Nat → Nat → Nat} {Rz : va_W}  {a1 : Int32} {a2 : Int32} {a3 : Int32} {a4 : Int32} {a5 : Int32} {X : bsX} {z : (Int32 × bsX)} (hf : fX9_begin a1 a2 a3 a4 a5 X = some z) : bsMi l yX9_begin cX9_begin 6 (some .int) rmX9_begin ρ cA dC dI Rz [.ref (ρ 14 0 0), .int a1, .int a2, .int a3, .int a4, .int a5] X z := by
  refine bsMi_of (by decide) (Nat.le_of_ble_eq_true rfl) (fun p e s m args below meth c C => ?_)
  have C : bsCx p m c cX9_begin 6 s args (Cond.code yX9_begin cX9_begin 6 (some .int) :: bsG) RX9 ρ cA dC dI Rz meth (some .int) := C
  rw [fX9_begin] at hf
  refine v_sub [0, 1, 2, 3, 4, 5] rfl ?_
  refine v_aload_n C dX9_begin_0 rfl rfl ?_
  refine v_iload_n C dX9_begin_1 rfl rfl ?_
  obtain ⟨r17, hc18, hf⟩ := bs_bind hf
  refine v_callVi (y := yX9_noSlot) (As := [.int a1]) (rest := []) C (cX9_noSlot_ok  hc18) ml_X9_260 wyX9_noSlot (bsm_X9) (bsc_X9) rfl dpX9_noSlot ⟨Nat.le_of_ble_eq_true rfl, Nat.le_of_ble_eq_true rfl⟩ ⟨rfl, rfl⟩ ⟨Nat.le_of_ble_eq_true rfl, Nat.le_of_ble_eq_true rfl⟩ rfl (Nat.le_of_ble_eq_true rfl) dX9_begin_2 ?_
  refine v_if_ne (tgt := 58) C dX9_begin_5 (by decide) (fun h30 => ?_) (fun h30 => ?_)
  · replace hf := bs_neg h30 hf
    refine v_iconst (v := 0) C dX9_begin_58 (by decide) ?_
    exact v_iret C hf dX9_begin_59
  · replace hf := bs_pos h30 hf
    refine v_aload_n C dX9_begin_8 rfl rfl ?_
    refine v_iload_n C dX9_begin_9 rfl rfl ?_
    refine v_iload_n C dX9_begin_10 rfl rfl ?_
    refine v_iload C dX9_begin_11 rfl ?_
    refine v_iload C dX9_begin_13 rfl ?_
    obtain ⟨r19, hc20, hf⟩ := bs_bind hf
    refine v_callSi (y := yX9_areNumbers) (As := [.int a2, .int a3, .int a4, .int a5]) (rest := [.ref (ρ 14 0 0)]) C (cX9_areNumbers_ok  hc20) ml_X9_360 wzX9_areNumbers dpX9_areNumbers ⟨Nat.le_of_ble_eq_true rfl, Nat.le_of_ble_eq_true rfl⟩ ⟨rfl, rfl⟩ ⟨Nat.le_of_ble_eq_true rfl, Nat.le_of_ble_eq_true rfl⟩ rfl (Nat.le_of_ble_eq_true rfl) dX9_begin_15 ?_
    refine v_if_eq (tgt := 46) C dX9_begin_18 (by decide) (fun h29 => ?_) (fun h29 => ?_)
    · replace hf := bs_pos h29 hf
      refine v_sub [0, 1, 2, 3, 4, 5] rfl ?_
      exact wX9_begin_46   C  _ _ _ _ _ _  hf
    · replace hf := bs_neg h29 hf
      refine v_aload_n C dX9_begin_21 rfl rfl ?_
      refine v_iload_n C dX9_begin_22 rfl rfl ?_
      obtain ⟨r21, hc22, hf⟩ := bs_bind hf
      refine v_callVi (y := yX9_isOn) (As := [.int a1]) (rest := [.ref (ρ 14 0 0)]) C (cX9_isOn_ok  hc22) ml_X9_272 wyX9_isOn (bsm_X9) (bsc_X9) rfl dpX9_isOn ⟨Nat.le_of_ble_eq_true rfl, Nat.le_of_ble_eq_true rfl⟩ ⟨rfl, rfl⟩ ⟨Nat.le_of_ble_eq_true rfl, Nat.le_of_ble_eq_true rfl⟩ rfl (Nat.le_of_ble_eq_true rfl) dX9_begin_23 ?_
      refine v_if_ne (tgt := 46) C dX9_begin_26 (by decide) (fun h28 => ?_) (fun h28 => ?_)
      · replace hf := bs_neg h28 hf
        refine v_sub [0, 1, 2, 3, 4, 5] rfl ?_
        exact wX9_begin_46   C  _ _ _ _ _ _  hf
      · replace hf := bs_pos h28 hf
        refine v_aload_n C dX9_begin_29 rfl rfl ?_
        obtain ⟨r23, hc24, hf⟩ := bs_bind hf
        refine v_callVi (y := yX9_hasInstall) (As := []) (rest := [.ref (ρ 14 0 0)]) C (cX9_hasInstall_ok  hc24) ml_X9_127 wyX9_hasInstall (bsm_X9) (bsc_X9) rfl dpX9_hasInstall ⟨Nat.le_of_ble_eq_true rfl, Nat.le_of_ble_eq_true rfl⟩ ⟨rfl, rfl⟩ ⟨Nat.le_of_ble_eq_true rfl, Nat.le_of_ble_eq_true rfl⟩ rfl (Nat.le_of_ble_eq_true rfl) dX9_begin_30 ?_
        refine v_if_ne (tgt := 46) C dX9_begin_33 (by decide) (fun h27 => ?_) (fun h27 => ?_)
        · replace hf := bs_neg h27 hf
          refine v_sub [0, 1, 2, 3, 4, 5] rfl ?_
          exact wX9_begin_46   C  _ _ _ _ _ _  hf
        · replace hf := bs_pos h27 hf
          refine v_aload_n C dX9_begin_36 rfl rfl ?_
          refine gf_X9_7 C dX9_begin_37 ?_
          refine v_bipush (v := 6) C dX9_begin_40 (by decide) ?_
          obtain ⟨hi25, hf⟩ := bs_if hf
          refine v_iald (n := 160) C bsm_14_1 bsc_14_1 hi25 dX9_begin_42 ?_
          refine v_if_ne (tgt := 50) C dX9_begin_43 (by decide) (fun h26 => ?_) (fun h26 => ?_)
          · replace hf := bs_neg h26 hf
            refine v_iconst (v := 0) C dX9_begin_50 (by decide) ?_
            refine v_sub [0, 1, 2, 3, 4, 5] rfl ?_
            exact wX9_begin_51   C  _ _ _ _ _ _ _  hf
          · replace hf := bs_pos h26 hf
            refine v_sub [0, 1, 2, 3, 4, 5] rfl ?_
            exact wX9_begin_46   C  _ _ _ _ _ _  hf
/-! BootSlotsModel.spoil(II)I -/
def fX9_spoil_144 (x4 : Int32) (y1 : Int32) (y2 : Int32) (X : bsX) : Option (Int32 × bsX) := if bsIn y1 160 then (if bsIn x4 160 then (if bsIn (x4 + (1 : Int32)) 160 then (some ((((bsWr X 14 1 0 (bsIx y1) y2) 14 1 0 (bsIx x4)) + ((2 : Int32) * ((bsWr X 14 1 0 (bsIx y1) y2) 14 1 0 (bsIx (x4 + (1 : Int32)))))), (bsWr X 14 1 0 (bsIx y1) y2))) else none) else none) else none
def fX9_spoil_118 (x2 : Int32) (x4 : Int32) (y1 : Int32) (y2 : Int32) (X : bsX) : Option (Int32 × bsX) := if bsIn y1 160 then (if x2 = 0 then (if bsIn (x4 + (1 : Int32)) 160 then (fX9_spoil_144   x4 (x4 + (1 : Int32)) ((bsWr X 14 1 0 (bsIx y1) y2) 14 1 0 (bsIx (x4 + (1 : Int32)))) (bsWr X 14 1 0 (bsIx y1) y2)) else none) else (fX9_spoil_144   x4 (x4 + (1 : Int32)) (1 : Int32) (bsWr X 14 1 0 (bsIx y1) y2))) else none
def fX9_spoil_94 (x2 : Int32) (y0 : Int32) (X : bsX) : Option (Int32 × bsX) := if x2 = (1 : Int32) then (if bsIn y0 160 then (fX9_spoil_118   x2 y0 y0 (X 14 1 0 (bsIx y0)) X) else none) else (fX9_spoil_118   x2 y0 y0 (1 : Int32) X)
def fX9_spoil_62 (x1 : Int32) (x2 : Int32) (x3 : Int32) (y1 : Int32) (X : bsX) : Option (Int32 × bsX) := (fX9_refuse  y1 (3 : Int32) X).bind fun r19 => if r19.1 = 0 then ((fX9_keepsAll   r19.2).bind fun r21 => if x3 = 0 then (fX9_spoil_94   x2 (((80 : Int32) + ((13 : Int32) * x1)) + (11 : Int32)) r21) else (fX9_spoil_94   x2 (25 : Int32) r21)) else (some ((0 : Int32), r19.2))
def fX9_spoil_57 (x1 : Int32) (x2 : Int32) (x3 : Int32) (X : bsX) : Option (Int32 × bsX) := fX9_spoil_62   x1 x2 x3 (1 : Int32) X
def fX9_spoil_61 (x1 : Int32) (x2 : Int32) (x3 : Int32) (X : bsX) : Option (Int32 × bsX) := fX9_spoil_62   x1 x2 x3 (0 : Int32) X
def fX9_spoil_23 (x1 : Int32) (x2 : Int32) (y0 : Int32) (X : bsX) : Option (Int32 × bsX) := (fX9_noSlot  x1 X).bind fun r6 => if r6.1 = 0 then ((fX9_in  x2.toInt64 (0 : Int64) (2 : Int64) r6.2).bind fun r8 => if r8.1 = 0 then (fX9_spoil_57   x1 x2 y0 r8.2) else ((fX9_has  x1 r8.2).bind fun r10 => if r10.1 = 0 then (if y0 = 0 then (fX9_spoil_57   x1 x2 y0 r10.2) else (fX9_spoil_61   x1 x2 y0 r10.2)) else (fX9_spoil_61   x1 x2 y0 r10.2))) else (some ((0 : Int32), r6.2))
def fX9_spoil_22 (x1 : Int32) (x2 : Int32) (X : bsX) : Option (Int32 × bsX) := fX9_spoil_23   x1 x2 (0 : Int32) X
def fX9_spoil (a1 : Int32) (a2 : Int32) (X : bsX) : Option (Int32 × bsX) := if (X 14 0 0 1) = 0 then (fX9_spoil_22   a1 a2 X) else (if bsIn (20 : Int32) 160 then (if (X 14 1 0 (bsIx (20 : Int32))) = a1 then (fX9_spoil_23   a1 a2 (1 : Int32) X) else (fX9_spoil_22   a1 a2 X)) else none)
abbrev rmX9_spoil : Room := { frames := 3, cells := 0, slots := 0, locals := 67 }
set_option maxHeartbeats 4000000 in
set_option maxRecDepth 100000 in
theorem wX9_spoil_144 {p : Program} {l : Launch} {e : Env} {s : State} {m : MethodId} {args : Array Value} {below : List Frame} {meth : Method} {c : Code} {ρ : bsR} {cA : Nat → ClassId} {dC : Nat → ClassId} {dI : Nat → Nat → Nat} {Rz : va_W} {Ts : List Cond}   {z : (Int32 × bsX)} (C : bsCx p m c cX9_spoil 5 s args Ts RX9 ρ cA dC dI Rz meth (some .int)) (x4 : Int32) (y1 : Int32) (y2 : Int32) (X : bsX) (hf : fX9_spoil_144 x4 y1 y2 X = some z) : bsV p l e rmX9_spoil s m args below meth c 0 0 (MQ below (bsQi ρ cA dC dI Rz z s.heap.size) args s 0 0 (bsA ρ cA Rz s.heap.size)) ρ cA dC dI Rz 5 144 [(0, .ref (ρ 14 0 0)), (4, .int x4)] [.int y2, .int y1, .ref (ρ 14 1 0)] X := by
  rw [fX9_spoil_144] at hf
  obtain ⟨hi1, hf⟩ := bs_if hf
  refine v_iast (n := 160) C bsm_14_1 (fun _ => bsc_14_1) hi1 dX9_spoil_144 ?_
  refine v_aload_n C dX9_spoil_145 rfl rfl ?_
  refine gf_X9_7 C dX9_spoil_146 ?_
  refine v_iload C dX9_spoil_149 rfl ?_
  obtain ⟨hi2, hf⟩ := bs_if hf
  refine v_iald (n := 160) C bsm_14_1 bsc_14_1 hi2 dX9_spoil_151 ?_
  refine v_iconst (v := 2) C dX9_spoil_152 (by decide) ?_
  refine v_aload_n C dX9_spoil_153 rfl rfl ?_
  refine gf_X9_7 C dX9_spoil_154 ?_
  refine v_iload C dX9_spoil_157 rfl ?_
  refine v_iconst (v := 1) C dX9_spoil_159 (by decide) ?_
  refine v_iadd C dX9_spoil_160 ?_
  obtain ⟨hi3, hf⟩ := bs_if hf
  refine v_iald (n := 160) C bsm_14_1 bsc_14_1 hi3 dX9_spoil_161 ?_
  refine v_imul C dX9_spoil_162 ?_
  refine v_iadd C dX9_spoil_163 ?_
  exact v_iret C hf dX9_spoil_164
set_option maxHeartbeats 4000000 in
set_option maxRecDepth 100000 in
theorem wX9_spoil_118 {p : Program} {l : Launch} {e : Env} {s : State} {m : MethodId} {args : Array Value} {below : List Frame} {meth : Method} {c : Code} {ρ : bsR} {cA : Nat → ClassId} {dC : Nat → ClassId} {dI : Nat → Nat → Nat} {Rz : va_W} {Ts : List Cond}   {z : (Int32 × bsX)} (C : bsCx p m c cX9_spoil 5 s args Ts RX9 ρ cA dC dI Rz meth (some .int)) (x2 : Int32) (x4 : Int32) (y1 : Int32) (y2 : Int32) (X : bsX) (hf : fX9_spoil_118 x2 x4 y1 y2 X = some z) : bsV p l e rmX9_spoil s m args below meth c 0 0 (MQ below (bsQi ρ cA dC dI Rz z s.heap.size) args s 0 0 (bsA ρ cA Rz s.heap.size)) ρ cA dC dI Rz 5 118 [(0, .ref (ρ 14 0 0)), (2, .int x2), (4, .int x4)] [.int y2, .int y1, .ref (ρ 14 1 0)] X := by
  rw [fX9_spoil_118] at hf
  obtain ⟨hi16, hf⟩ := bs_if hf
  refine v_iast (n := 160) C bsm_14_1 (fun _ => bsc_14_1) hi16 dX9_spoil_118 ?_
  refine v_aload_n C dX9_spoil_119 rfl rfl ?_
  refine gf_X9_7 C dX9_spoil_120 ?_
  refine v_iload C dX9_spoil_123 rfl ?_
  refine v_iconst (v := 1) C dX9_spoil_125 (by decide) ?_
  refine v_iadd C dX9_spoil_126 ?_
  refine v_iload_n C dX9_spoil_127 rfl rfl ?_
  refine v_if_ne (tgt := 143) C dX9_spoil_128 (by decide) (fun h18 => ?_) (fun h18 => ?_)
  · replace hf := bs_neg h18 hf
    refine v_iconst (v := 1) C dX9_spoil_143 (by decide) ?_
    refine v_sub [0, 2] rfl ?_
    exact wX9_spoil_144   C  _ _ _ _  hf
  · replace hf := bs_pos h18 hf
    refine v_aload_n C dX9_spoil_131 rfl rfl ?_
    refine gf_X9_7 C dX9_spoil_132 ?_
    refine v_iload C dX9_spoil_135 rfl ?_
    refine v_iconst (v := 1) C dX9_spoil_137 (by decide) ?_
    refine v_iadd C dX9_spoil_138 ?_
    obtain ⟨hi17, hf⟩ := bs_if hf
    refine v_iald (n := 160) C bsm_14_1 bsc_14_1 hi17 dX9_spoil_139 ?_
    refine v_goto (tgt := 144) C dX9_spoil_140 (by decide) ?_
    refine v_sub [0, 2] rfl ?_
    exact wX9_spoil_144   C  _ _ _ _  hf
set_option maxHeartbeats 4000000 in
set_option maxRecDepth 100000 in
theorem wX9_spoil_94 {p : Program} {l : Launch} {e : Env} {s : State} {m : MethodId} {args : Array Value} {below : List Frame} {meth : Method} {c : Code} {ρ : bsR} {cA : Nat → ClassId} {dC : Nat → ClassId} {dI : Nat → Nat → Nat} {Rz : va_W} {Ts : List Cond}   {z : (Int32 × bsX)} (C : bsCx p m c cX9_spoil 5 s args Ts RX9 ρ cA dC dI Rz meth (some .int)) (x2 : Int32) (y0 : Int32) (X : bsX) (hf : fX9_spoil_94 x2 y0 X = some z) : bsV p l e rmX9_spoil s m args below meth c 0 0 (MQ below (bsQi ρ cA dC dI Rz z s.heap.size) args s 0 0 (bsA ρ cA Rz s.heap.size)) ρ cA dC dI Rz 5 94 [(0, .ref (ρ 14 0 0)), (2, .int x2)] [.int y0] X := by
  rw [fX9_spoil_94] at hf
  refine v_istore (lv' := [(4, .int y0), (0, .ref (ρ 14 0 0)), (2, .int x2)]) C dX9_spoil_94 (by decide) rfl ?_
  refine v_aload_n C dX9_spoil_96 rfl rfl ?_
  refine gf_X9_7 C dX9_spoil_97 ?_
  refine v_iload C dX9_spoil_100 rfl ?_
  refine v_iload_n C dX9_spoil_102 rfl rfl ?_
  refine v_iconst (v := 1) C dX9_spoil_103 (by decide) ?_
  refine v_icmp_ne (tgt := 117) C dX9_spoil_104 (by decide) (fun h5 => ?_) (fun h5 => ?_)
  · replace hf := bs_neg h5 hf
    refine v_iconst (v := 1) C dX9_spoil_117 (by decide) ?_
    refine v_sub [1, 2, 0] rfl ?_
    exact wX9_spoil_118   C  _ _ _ _ _  hf
  · replace hf := bs_pos h5 hf
    refine v_aload_n C dX9_spoil_107 rfl rfl ?_
    refine gf_X9_7 C dX9_spoil_108 ?_
    refine v_iload C dX9_spoil_111 rfl ?_
    obtain ⟨hi4, hf⟩ := bs_if hf
    refine v_iald (n := 160) C bsm_14_1 bsc_14_1 hi4 dX9_spoil_113 ?_
    refine v_goto (tgt := 118) C dX9_spoil_114 (by decide) ?_
    refine v_sub [1, 2, 0] rfl ?_
    exact wX9_spoil_118   C  _ _ _ _ _  hf
set_option maxHeartbeats 4000000 in
set_option maxRecDepth 100000 in
theorem wX9_spoil_62 {p : Program} {l : Launch} {e : Env} {s : State} {m : MethodId} {args : Array Value} {below : List Frame} {meth : Method} {c : Code} {ρ : bsR} {cA : Nat → ClassId} {dC : Nat → ClassId} {dI : Nat → Nat → Nat} {Rz : va_W} {Ts : List Cond}   {z : (Int32 × bsX)} (C : bsCx p m c cX9_spoil 5 s args Ts RX9 ρ cA dC dI Rz meth (some .int)) (x1 : Int32) (x2 : Int32) (x3 : Int32) (y1 : Int32) (X : bsX) (hf : fX9_spoil_62 x1 x2 x3 y1 X = some z) : bsV p l e rmX9_spoil s m args below meth c 0 0 (MQ below (bsQi ρ cA dC dI Rz z s.heap.size) args s 0 0 (bsA ρ cA Rz s.heap.size)) ρ cA dC dI Rz 5 62 [(0, .ref (ρ 14 0 0)), (1, .int x1), (2, .int x2), (3, .int x3)] [.int y1, .ref (ρ 14 0 0)] X := by
  rw [fX9_spoil_62] at hf
  refine v_iconst (v := 3) C dX9_spoil_62 (by decide) ?_
  obtain ⟨r19, hc20, hf⟩ := bs_bind hf
  refine v_callVi (y := yX9_refuse) (As := [.int y1, .int (3 : Int32)]) (rest := []) C (cX9_refuse_ok  hc20) ml_X9_40 wyX9_refuse (bsm_X9) (bsc_X9) rfl dpX9_refuse ⟨Nat.le_of_ble_eq_true rfl, Nat.le_of_ble_eq_true rfl⟩ ⟨rfl, rfl⟩ ⟨Nat.le_of_ble_eq_true rfl, Nat.le_of_ble_eq_true rfl⟩ rfl (Nat.le_of_ble_eq_true rfl) dX9_spoil_63 ?_
  refine v_if_eq (tgt := 71) C dX9_spoil_66 (by decide) (fun h24 => ?_) (fun h24 => ?_)
  · replace hf := bs_pos h24 hf
    refine v_aload_n C dX9_spoil_71 rfl rfl ?_
    obtain ⟨r21, hc22, hf⟩ := bs_bind hf
    refine v_callVv (y := yX9_keepsAll) (As := []) (rest := []) C (cX9_keepsAll_ok  hc22) ml_X9_357 wyX9_keepsAll (bsm_X9) (bsc_X9) rfl dpX9_keepsAll ⟨Nat.le_of_ble_eq_true rfl, Nat.le_of_ble_eq_true rfl⟩ ⟨rfl, rfl⟩ ⟨Nat.le_of_ble_eq_true rfl, Nat.le_of_ble_eq_true rfl⟩ rfl (Nat.le_of_ble_eq_true rfl) dX9_spoil_72 ?_
    refine v_iload_n C dX9_spoil_75 rfl rfl ?_
    refine v_if_eq (tgt := 84) C dX9_spoil_76 (by decide) (fun h23 => ?_) (fun h23 => ?_)
    · replace hf := bs_pos h23 hf
      refine v_bipush (v := 80) C dX9_spoil_84 (by decide) ?_
      refine v_bipush (v := 13) C dX9_spoil_86 (by decide) ?_
      refine v_iload_n C dX9_spoil_88 rfl rfl ?_
      refine v_imul C dX9_spoil_89 ?_
      refine v_iadd C dX9_spoil_90 ?_
      refine v_bipush (v := 11) C dX9_spoil_91 (by decide) ?_
      refine v_iadd C dX9_spoil_93 ?_
      refine v_sub [0, 2] rfl ?_
      exact wX9_spoil_94   C  _ _ _  hf
    · replace hf := bs_neg h23 hf
      refine v_bipush (v := 25) C dX9_spoil_79 (by decide) ?_
      refine v_goto (tgt := 94) C dX9_spoil_81 (by decide) ?_
      refine v_sub [0, 2] rfl ?_
      exact wX9_spoil_94   C  _ _ _  hf
  · replace hf := bs_neg h24 hf
    refine v_iconst (v := 0) C dX9_spoil_69 (by decide) ?_
    exact v_iret C hf dX9_spoil_70
set_option maxHeartbeats 4000000 in
set_option maxRecDepth 100000 in
theorem wX9_spoil_57 {p : Program} {l : Launch} {e : Env} {s : State} {m : MethodId} {args : Array Value} {below : List Frame} {meth : Method} {c : Code} {ρ : bsR} {cA : Nat → ClassId} {dC : Nat → ClassId} {dI : Nat → Nat → Nat} {Rz : va_W} {Ts : List Cond}   {z : (Int32 × bsX)} (C : bsCx p m c cX9_spoil 5 s args Ts RX9 ρ cA dC dI Rz meth (some .int)) (x1 : Int32) (x2 : Int32) (x3 : Int32) (X : bsX) (hf : fX9_spoil_57 x1 x2 x3 X = some z) : bsV p l e rmX9_spoil s m args below meth c 0 0 (MQ below (bsQi ρ cA dC dI Rz z s.heap.size) args s 0 0 (bsA ρ cA Rz s.heap.size)) ρ cA dC dI Rz 5 57 [(0, .ref (ρ 14 0 0)), (1, .int x1), (2, .int x2), (3, .int x3)] [.ref (ρ 14 0 0)] X := by
  rw [fX9_spoil_57] at hf
  refine v_iconst (v := 1) C dX9_spoil_57 (by decide) ?_
  refine v_goto (tgt := 62) C dX9_spoil_58 (by decide) ?_
  refine v_sub [0, 1, 2, 3] rfl ?_
  exact wX9_spoil_62   C  _ _ _ _ _  hf
set_option maxHeartbeats 4000000 in
set_option maxRecDepth 100000 in
theorem wX9_spoil_61 {p : Program} {l : Launch} {e : Env} {s : State} {m : MethodId} {args : Array Value} {below : List Frame} {meth : Method} {c : Code} {ρ : bsR} {cA : Nat → ClassId} {dC : Nat → ClassId} {dI : Nat → Nat → Nat} {Rz : va_W} {Ts : List Cond}   {z : (Int32 × bsX)} (C : bsCx p m c cX9_spoil 5 s args Ts RX9 ρ cA dC dI Rz meth (some .int)) (x1 : Int32) (x2 : Int32) (x3 : Int32) (X : bsX) (hf : fX9_spoil_61 x1 x2 x3 X = some z) : bsV p l e rmX9_spoil s m args below meth c 0 0 (MQ below (bsQi ρ cA dC dI Rz z s.heap.size) args s 0 0 (bsA ρ cA Rz s.heap.size)) ρ cA dC dI Rz 5 61 [(0, .ref (ρ 14 0 0)), (1, .int x1), (2, .int x2), (3, .int x3)] [.ref (ρ 14 0 0)] X := by
  rw [fX9_spoil_61] at hf
  refine v_iconst (v := 0) C dX9_spoil_61 (by decide) ?_
  refine v_sub [0, 1, 2, 3] rfl ?_
  exact wX9_spoil_62   C  _ _ _ _ _  hf
set_option maxHeartbeats 4000000 in
set_option maxRecDepth 100000 in
theorem wX9_spoil_23 {p : Program} {l : Launch} {e : Env} {s : State} {m : MethodId} {args : Array Value} {below : List Frame} {meth : Method} {c : Code} {ρ : bsR} {cA : Nat → ClassId} {dC : Nat → ClassId} {dI : Nat → Nat → Nat} {Rz : va_W} {Ts : List Cond}   {z : (Int32 × bsX)} (C : bsCx p m c cX9_spoil 5 s args Ts RX9 ρ cA dC dI Rz meth (some .int)) (x1 : Int32) (x2 : Int32) (y0 : Int32) (X : bsX) (hf : fX9_spoil_23 x1 x2 y0 X = some z) : bsV p l e rmX9_spoil s m args below meth c 0 0 (MQ below (bsQi ρ cA dC dI Rz z s.heap.size) args s 0 0 (bsA ρ cA Rz s.heap.size)) ρ cA dC dI Rz 5 23 [(0, .ref (ρ 14 0 0)), (1, .int x1), (2, .int x2)] [.int y0] X := by
  rw [fX9_spoil_23] at hf
  refine v_istore_n (lv' := [(3, .int y0), (0, .ref (ρ 14 0 0)), (1, .int x1), (2, .int x2)]) C dX9_spoil_23 rfl (by decide) rfl ?_
  refine v_aload_n C dX9_spoil_24 rfl rfl ?_
  refine v_iload_n C dX9_spoil_25 rfl rfl ?_
  obtain ⟨r6, hc7, hf⟩ := bs_bind hf
  refine v_callVi (y := yX9_noSlot) (As := [.int x1]) (rest := []) C (cX9_noSlot_ok  hc7) ml_X9_260 wyX9_noSlot (bsm_X9) (bsc_X9) rfl dpX9_noSlot ⟨Nat.le_of_ble_eq_true rfl, Nat.le_of_ble_eq_true rfl⟩ ⟨rfl, rfl⟩ ⟨Nat.le_of_ble_eq_true rfl, Nat.le_of_ble_eq_true rfl⟩ rfl (Nat.le_of_ble_eq_true rfl) dX9_spoil_26 ?_
  refine v_if_ne (tgt := 69) C dX9_spoil_29 (by decide) (fun h15 => ?_) (fun h15 => ?_)
  · replace hf := bs_neg h15 hf
    refine v_iconst (v := 0) C dX9_spoil_69 (by decide) ?_
    exact v_iret C hf dX9_spoil_70
  · replace hf := bs_pos h15 hf
    refine v_aload_n C dX9_spoil_32 rfl rfl ?_
    refine v_iload_n C dX9_spoil_33 rfl rfl ?_
    refine v_i2l C dX9_spoil_34 ?_
    refine v_lconst (v := (0 : Int64)) C dX9_spoil_35 (by decide) ?_
    refine v_ldc2 (v := (2 : Int64)) C (bsG_in 2022 (by decide +kernel) rfl) dX9_spoil_36 ?_
    obtain ⟨r8, hc9, hf⟩ := bs_bind hf
    refine v_callSi (y := yX9_in) (As := [.long x2.toInt64, .long (0 : Int64), .long (2 : Int64)]) (rest := [.ref (ρ 14 0 0)]) C (cX9_in_ok  hc9) ml_X9_44 wzX9_in dpX9_in ⟨Nat.le_of_ble_eq_true rfl, Nat.le_of_ble_eq_true rfl⟩ ⟨rfl, rfl⟩ ⟨Nat.le_of_ble_eq_true rfl, Nat.le_of_ble_eq_true rfl⟩ rfl (Nat.le_of_ble_eq_true rfl) dX9_spoil_39 ?_
    refine v_if_eq (tgt := 57) C dX9_spoil_42 (by decide) (fun h14 => ?_) (fun h14 => ?_)
    · replace hf := bs_pos h14 hf
      refine v_sub [1, 2, 3, 0] rfl ?_
      exact wX9_spoil_57   C  _ _ _ _  hf
    · replace hf := bs_neg h14 hf
      refine v_aload_n C dX9_spoil_45 rfl rfl ?_
      refine v_iload_n C dX9_spoil_46 rfl rfl ?_
      obtain ⟨r10, hc11, hf⟩ := bs_bind hf
      refine v_callVi (y := yX9_has) (As := [.int x1]) (rest := [.ref (ρ 14 0 0)]) C (cX9_has_ok  hc11) ml_X9_60 wyX9_has (bsm_X9) (bsc_X9) rfl dpX9_has ⟨Nat.le_of_ble_eq_true rfl, Nat.le_of_ble_eq_true rfl⟩ ⟨rfl, rfl⟩ ⟨Nat.le_of_ble_eq_true rfl, Nat.le_of_ble_eq_true rfl⟩ rfl (Nat.le_of_ble_eq_true rfl) dX9_spoil_47 ?_
      refine v_if_ne (tgt := 61) C dX9_spoil_50 (by decide) (fun h13 => ?_) (fun h13 => ?_)
      · replace hf := bs_neg h13 hf
        refine v_sub [1, 2, 3, 0] rfl ?_
        exact wX9_spoil_61   C  _ _ _ _  hf
      · replace hf := bs_pos h13 hf
        refine v_iload_n C dX9_spoil_53 rfl rfl ?_
        refine v_if_ne (tgt := 61) C dX9_spoil_54 (by decide) (fun h12 => ?_) (fun h12 => ?_)
        · replace hf := bs_neg h12 hf
          refine v_sub [1, 2, 3, 0] rfl ?_
          exact wX9_spoil_61   C  _ _ _ _  hf
        · replace hf := bs_pos h12 hf
          refine v_sub [1, 2, 3, 0] rfl ?_
          exact wX9_spoil_57   C  _ _ _ _  hf
set_option maxHeartbeats 4000000 in
set_option maxRecDepth 100000 in
theorem wX9_spoil_22 {p : Program} {l : Launch} {e : Env} {s : State} {m : MethodId} {args : Array Value} {below : List Frame} {meth : Method} {c : Code} {ρ : bsR} {cA : Nat → ClassId} {dC : Nat → ClassId} {dI : Nat → Nat → Nat} {Rz : va_W} {Ts : List Cond}   {z : (Int32 × bsX)} (C : bsCx p m c cX9_spoil 5 s args Ts RX9 ρ cA dC dI Rz meth (some .int)) (x1 : Int32) (x2 : Int32) (X : bsX) (hf : fX9_spoil_22 x1 x2 X = some z) : bsV p l e rmX9_spoil s m args below meth c 0 0 (MQ below (bsQi ρ cA dC dI Rz z s.heap.size) args s 0 0 (bsA ρ cA Rz s.heap.size)) ρ cA dC dI Rz 5 22 [(0, .ref (ρ 14 0 0)), (1, .int x1), (2, .int x2)] [] X := by
  rw [fX9_spoil_22] at hf
  refine v_iconst (v := 0) C dX9_spoil_22 (by decide) ?_
  refine v_sub [0, 1, 2] rfl ?_
  exact wX9_spoil_23   C  _ _ _ _  hf
set_option maxHeartbeats 4000000 in
set_option maxRecDepth 100000 in
theorem cX9_spoil_ok {l : Launch} {ρ : bsR} {cA : Nat → ClassId} {dC : Nat → ClassId} {dI : Nat → Nat → Nat} {Rz : va_W}  {a1 : Int32} {a2 : Int32} {X : bsX} {z : (Int32 × bsX)} (hf : fX9_spoil a1 a2 X = some z) : bsMi l yX9_spoil cX9_spoil 5 (some .int) rmX9_spoil ρ cA dC dI Rz [.ref (ρ 14 0 0), .int a1, .int a2] X z := by
  refine bsMi_of (by decide) (Nat.le_of_ble_eq_true rfl) (fun p e s m args below meth c C => ?_)
  have C : bsCx p m c cX9_spoil 5 s args (Cond.code yX9_spoil cX9_spoil 5 (some .int) :: bsG) RX9 ρ cA dC dI Rz meth (some .int) := C
  rw [fX9_spoil] at hf
  refine v_sub [0, 1, 2] rfl ?_
  refine v_aload_n C dX9_spoil_0 rfl rfl ?_
  refine gf_X9_36 C dX9_spoil_1 ?_
  refine v_if_eq (tgt := 22) C dX9_spoil_4 (by decide) (fun h27 => ?_) (fun h27 => ?_)
  · replace hf := bs_pos h27 hf
    refine v_sub [0, 1, 2] rfl ?_
    exact wX9_spoil_22   C  _ _ _  hf
  · replace hf := bs_neg h27 hf
    refine v_aload_n C dX9_spoil_7 rfl rfl ?_
    refine gf_X9_7 C dX9_spoil_8 ?_
    refine v_bipush (v := 20) C dX9_spoil_11 (by decide) ?_
    obtain ⟨hi25, hf⟩ := bs_if hf
    refine v_iald (n := 160) C bsm_14_1 bsc_14_1 hi25 dX9_spoil_13 ?_
    refine v_iload_n C dX9_spoil_14 rfl rfl ?_
    refine v_icmp_ne (tgt := 22) C dX9_spoil_15 (by decide) (fun h26 => ?_) (fun h26 => ?_)
    · replace hf := bs_neg h26 hf
      refine v_sub [0, 1, 2] rfl ?_
      exact wX9_spoil_22   C  _ _ _  hf
    · replace hf := bs_pos h26 hf
      refine v_iconst (v := 1) C dX9_spoil_18 (by decide) ?_
      refine v_goto (tgt := 23) C dX9_spoil_19 (by decide) ?_
      refine v_sub [0, 1, 2] rfl ?_
      exact wX9_spoil_23   C  _ _ _ _  hf
/-! BootSlotsModel.mark(III)I -/
def fX9_mark_46 (x1 : Int32) (x2 : Int32) (x3 : Int32) (y1 : Int32) (X : bsX) : Option (Int32 × bsX) := (fX9_refuse  y1 (3 : Int32) X).bind fun r1 => if r1.1 = 0 then ((fX9_keepsAll   r1.2).bind fun r3 => (fX9_of  x1 (1 : Int32) r3).bind fun r5 => (fX9_puts  x1 (1 : Int32) x2 r5.2).bind fun r7 => (fX9_puts  x1 (2 : Int32) x3 r7).bind fun r9 => some (r5.1, r9)) else (some ((0 : Int32), r1.2))
def fX9_mark_41 (x1 : Int32) (x2 : Int32) (x3 : Int32) (X : bsX) : Option (Int32 × bsX) := fX9_mark_46   x1 x2 x3 (1 : Int32) X
def fX9_mark (a1 : Int32) (a2 : Int32) (a3 : Int32) (X : bsX) : Option (Int32 × bsX) := (fX9_noSlot  a1 X).bind fun r12 => if r12.1 = 0 then ((fX9_in  a2.toInt64 (0 : Int64) (15 : Int64) r12.2).bind fun r14 => if r14.1 = 0 then (fX9_mark_41   a1 a2 a3 r14.2) else ((fX9_in  a3.toInt64 (0 : Int64) (7 : Int64) r14.2).bind fun r16 => if r16.1 = 0 then (fX9_mark_41   a1 a2 a3 r16.2) else ((fX9_has  a1 r16.2).bind fun r18 => if r18.1 = 0 then (fX9_mark_41   a1 a2 a3 r18.2) else (fX9_mark_46   a1 a2 a3 (0 : Int32) r18.2)))) else (some ((0 : Int32), r12.2))
abbrev rmX9_mark : Room := { frames := 3, cells := 0, slots := 0, locals := 67 }
set_option maxHeartbeats 4000000 in
set_option maxRecDepth 100000 in
theorem wX9_mark_46 {p : Program} {l : Launch} {e : Env} {s : State} {m : MethodId} {args : Array Value} {below : List Frame} {meth : Method} {c : Code} {ρ : bsR} {cA : Nat → ClassId} {dC : Nat → ClassId} {dI : Nat → Nat → Nat} {Rz : va_W} {Ts : List Cond}   {z : (Int32 × bsX)} (C : bsCx p m c cX9_mark 5 s args Ts RX9 ρ cA dC dI Rz meth (some .int)) (x1 : Int32) (x2 : Int32) (x3 : Int32) (y1 : Int32) (X : bsX) (hf : fX9_mark_46 x1 x2 x3 y1 X = some z) : bsV p l e rmX9_mark s m args below meth c 0 0 (MQ below (bsQi ρ cA dC dI Rz z s.heap.size) args s 0 0 (bsA ρ cA Rz s.heap.size)) ρ cA dC dI Rz 5 46 [(0, .ref (ρ 14 0 0)), (1, .int x1), (2, .int x2), (3, .int x3)] [.int y1, .ref (ρ 14 0 0)] X := by
  rw [fX9_mark_46] at hf
  refine v_iconst (v := 3) C dX9_mark_46 (by decide) ?_
  obtain ⟨r1, hc2, hf⟩ := bs_bind hf
  refine v_callVi (y := yX9_refuse) (As := [.int y1, .int (3 : Int32)]) (rest := []) C (cX9_refuse_ok  hc2) ml_X9_40 wyX9_refuse (bsm_X9) (bsc_X9) rfl dpX9_refuse ⟨Nat.le_of_ble_eq_true rfl, Nat.le_of_ble_eq_true rfl⟩ ⟨rfl, rfl⟩ ⟨Nat.le_of_ble_eq_true rfl, Nat.le_of_ble_eq_true rfl⟩ rfl (Nat.le_of_ble_eq_true rfl) dX9_mark_47 ?_
  refine v_if_eq (tgt := 55) C dX9_mark_50 (by decide) (fun h11 => ?_) (fun h11 => ?_)
  · replace hf := bs_pos h11 hf
    refine v_aload_n C dX9_mark_55 rfl rfl ?_
    obtain ⟨r3, hc4, hf⟩ := bs_bind hf
    refine v_callVv (y := yX9_keepsAll) (As := []) (rest := []) C (cX9_keepsAll_ok  hc4) ml_X9_357 wyX9_keepsAll (bsm_X9) (bsc_X9) rfl dpX9_keepsAll ⟨Nat.le_of_ble_eq_true rfl, Nat.le_of_ble_eq_true rfl⟩ ⟨rfl, rfl⟩ ⟨Nat.le_of_ble_eq_true rfl, Nat.le_of_ble_eq_true rfl⟩ rfl (Nat.le_of_ble_eq_true rfl) dX9_mark_56 ?_
    refine v_aload_n C dX9_mark_59 rfl rfl ?_
    refine v_iload_n C dX9_mark_60 rfl rfl ?_
    refine v_iconst (v := 1) C dX9_mark_61 (by decide) ?_
    obtain ⟨r5, hc6, hf⟩ := bs_bind hf
    refine v_callVi (y := yX9_of) (As := [.int x1, .int (1 : Int32)]) (rest := []) C (cX9_of_ok  hc6) ml_X9_56 wyX9_of (bsm_X9) (bsc_X9) rfl dpX9_of ⟨Nat.le_of_ble_eq_true rfl, Nat.le_of_ble_eq_true rfl⟩ ⟨rfl, rfl⟩ ⟨Nat.le_of_ble_eq_true rfl, Nat.le_of_ble_eq_true rfl⟩ rfl (Nat.le_of_ble_eq_true rfl) dX9_mark_62 ?_
    refine v_istore (lv' := [(4, .int r5.1), (0, .ref (ρ 14 0 0)), (1, .int x1), (2, .int x2), (3, .int x3)]) C dX9_mark_65 (by decide) rfl ?_
    refine v_aload_n C dX9_mark_67 rfl rfl ?_
    refine v_iload_n C dX9_mark_68 rfl rfl ?_
    refine v_iconst (v := 1) C dX9_mark_69 (by decide) ?_
    refine v_iload_n C dX9_mark_70 rfl rfl ?_
    obtain ⟨r7, hc8, hf⟩ := bs_bind hf
    refine v_callVv (y := yX9_puts) (As := [.int x1, .int (1 : Int32), .int x2]) (rest := []) C (cX9_puts_ok  hc8) ml_X9_77 wyX9_puts (bsm_X9) (bsc_X9) rfl dpX9_puts ⟨Nat.le_of_ble_eq_true rfl, Nat.le_of_ble_eq_true rfl⟩ ⟨rfl, rfl⟩ ⟨Nat.le_of_ble_eq_true rfl, Nat.le_of_ble_eq_true rfl⟩ rfl (Nat.le_of_ble_eq_true rfl) dX9_mark_71 ?_
    refine v_aload_n C dX9_mark_74 rfl rfl ?_
    refine v_iload_n C dX9_mark_75 rfl rfl ?_
    refine v_iconst (v := 2) C dX9_mark_76 (by decide) ?_
    refine v_iload_n C dX9_mark_77 rfl rfl ?_
    obtain ⟨r9, hc10, hf⟩ := bs_bind hf
    refine v_callVv (y := yX9_puts) (As := [.int x1, .int (2 : Int32), .int x3]) (rest := []) C (cX9_puts_ok  hc10) ml_X9_77 wyX9_puts (bsm_X9) (bsc_X9) rfl dpX9_puts ⟨Nat.le_of_ble_eq_true rfl, Nat.le_of_ble_eq_true rfl⟩ ⟨rfl, rfl⟩ ⟨Nat.le_of_ble_eq_true rfl, Nat.le_of_ble_eq_true rfl⟩ rfl (Nat.le_of_ble_eq_true rfl) dX9_mark_78 ?_
    refine v_iload C dX9_mark_81 rfl ?_
    exact v_iret C hf dX9_mark_83
  · replace hf := bs_neg h11 hf
    refine v_iconst (v := 0) C dX9_mark_53 (by decide) ?_
    exact v_iret C hf dX9_mark_54
set_option maxHeartbeats 4000000 in
set_option maxRecDepth 100000 in
theorem wX9_mark_41 {p : Program} {l : Launch} {e : Env} {s : State} {m : MethodId} {args : Array Value} {below : List Frame} {meth : Method} {c : Code} {ρ : bsR} {cA : Nat → ClassId} {dC : Nat → ClassId} {dI : Nat → Nat → Nat} {Rz : va_W} {Ts : List Cond}   {z : (Int32 × bsX)} (C : bsCx p m c cX9_mark 5 s args Ts RX9 ρ cA dC dI Rz meth (some .int)) (x1 : Int32) (x2 : Int32) (x3 : Int32) (X : bsX) (hf : fX9_mark_41 x1 x2 x3 X = some z) : bsV p l e rmX9_mark s m args below meth c 0 0 (MQ below (bsQi ρ cA dC dI Rz z s.heap.size) args s 0 0 (bsA ρ cA Rz s.heap.size)) ρ cA dC dI Rz 5 41 [(0, .ref (ρ 14 0 0)), (1, .int x1), (2, .int x2), (3, .int x3)] [.ref (ρ 14 0 0)] X := by
  rw [fX9_mark_41] at hf
  refine v_iconst (v := 1) C dX9_mark_41 (by decide) ?_
  refine v_goto (tgt := 46) C dX9_mark_42 (by decide) ?_
  refine v_sub [0, 1, 2, 3] rfl ?_
  exact wX9_mark_46   C  _ _ _ _ _  hf
set_option maxHeartbeats 4000000 in
set_option maxRecDepth 100000 in
theorem cX9_mark_ok {l : Launch} {ρ : bsR} {cA : Nat → ClassId} {dC : Nat → ClassId} {dI : Nat → Nat → Nat} {Rz : va_W}  {a1 : Int32} {a2 : Int32} {a3 : Int32} {X : bsX} {z : (Int32 × bsX)} (hf : fX9_mark a1 a2 a3 X = some z) : bsMi l yX9_mark cX9_mark 5 (some .int) rmX9_mark ρ cA dC dI Rz [.ref (ρ 14 0 0), .int a1, .int a2, .int a3] X z := by
  refine bsMi_of (by decide) (Nat.le_of_ble_eq_true rfl) (fun p e s m args below meth c C => ?_)
  have C : bsCx p m c cX9_mark 5 s args (Cond.code yX9_mark cX9_mark 5 (some .int) :: bsG) RX9 ρ cA dC dI Rz meth (some .int) := C
  rw [fX9_mark] at hf
  refine v_sub [0, 1, 2, 3] rfl ?_
  refine v_aload_n C dX9_mark_0 rfl rfl ?_
  refine v_iload_n C dX9_mark_1 rfl rfl ?_
  obtain ⟨r12, hc13, hf⟩ := bs_bind hf
  refine v_callVi (y := yX9_noSlot) (As := [.int a1]) (rest := []) C (cX9_noSlot_ok  hc13) ml_X9_260 wyX9_noSlot (bsm_X9) (bsc_X9) rfl dpX9_noSlot ⟨Nat.le_of_ble_eq_true rfl, Nat.le_of_ble_eq_true rfl⟩ ⟨rfl, rfl⟩ ⟨Nat.le_of_ble_eq_true rfl, Nat.le_of_ble_eq_true rfl⟩ rfl (Nat.le_of_ble_eq_true rfl) dX9_mark_2 ?_
  refine v_if_ne (tgt := 53) C dX9_mark_5 (by decide) (fun h23 => ?_) (fun h23 => ?_)
  · replace hf := bs_neg h23 hf
    refine v_iconst (v := 0) C dX9_mark_53 (by decide) ?_
    exact v_iret C hf dX9_mark_54
  · replace hf := bs_pos h23 hf
    refine v_aload_n C dX9_mark_8 rfl rfl ?_
    refine v_iload_n C dX9_mark_9 rfl rfl ?_
    refine v_i2l C dX9_mark_10 ?_
    refine v_lconst (v := (0 : Int64)) C dX9_mark_11 (by decide) ?_
    refine v_ldc2 (v := (15 : Int64)) C (bsG_in 2027 (by decide +kernel) rfl) dX9_mark_12 ?_
    obtain ⟨r14, hc15, hf⟩ := bs_bind hf
    refine v_callSi (y := yX9_in) (As := [.long a2.toInt64, .long (0 : Int64), .long (15 : Int64)]) (rest := [.ref (ρ 14 0 0)]) C (cX9_in_ok  hc15) ml_X9_44 wzX9_in dpX9_in ⟨Nat.le_of_ble_eq_true rfl, Nat.le_of_ble_eq_true rfl⟩ ⟨rfl, rfl⟩ ⟨Nat.le_of_ble_eq_true rfl, Nat.le_of_ble_eq_true rfl⟩ rfl (Nat.le_of_ble_eq_true rfl) dX9_mark_15 ?_
    refine v_if_eq (tgt := 41) C dX9_mark_18 (by decide) (fun h22 => ?_) (fun h22 => ?_)
    · replace hf := bs_pos h22 hf
      refine v_sub [0, 1, 2, 3] rfl ?_
      exact wX9_mark_41   C  _ _ _ _  hf
    · replace hf := bs_neg h22 hf
      refine v_iload_n C dX9_mark_21 rfl rfl ?_
      refine v_i2l C dX9_mark_22 ?_
      refine v_lconst (v := (0 : Int64)) C dX9_mark_23 (by decide) ?_
      refine v_ldc2 (v := (7 : Int64)) C (bsG_in 2028 (by decide +kernel) rfl) dX9_mark_24 ?_
      obtain ⟨r16, hc17, hf⟩ := bs_bind hf
      refine v_callSi (y := yX9_in) (As := [.long a3.toInt64, .long (0 : Int64), .long (7 : Int64)]) (rest := [.ref (ρ 14 0 0)]) C (cX9_in_ok  hc17) ml_X9_44 wzX9_in dpX9_in ⟨Nat.le_of_ble_eq_true rfl, Nat.le_of_ble_eq_true rfl⟩ ⟨rfl, rfl⟩ ⟨Nat.le_of_ble_eq_true rfl, Nat.le_of_ble_eq_true rfl⟩ rfl (Nat.le_of_ble_eq_true rfl) dX9_mark_27 ?_
      refine v_if_eq (tgt := 41) C dX9_mark_30 (by decide) (fun h21 => ?_) (fun h21 => ?_)
      · replace hf := bs_pos h21 hf
        refine v_sub [0, 1, 2, 3] rfl ?_
        exact wX9_mark_41   C  _ _ _ _  hf
      · replace hf := bs_neg h21 hf
        refine v_aload_n C dX9_mark_33 rfl rfl ?_
        refine v_iload_n C dX9_mark_34 rfl rfl ?_
        obtain ⟨r18, hc19, hf⟩ := bs_bind hf
        refine v_callVi (y := yX9_has) (As := [.int a1]) (rest := [.ref (ρ 14 0 0)]) C (cX9_has_ok  hc19) ml_X9_60 wyX9_has (bsm_X9) (bsc_X9) rfl dpX9_has ⟨Nat.le_of_ble_eq_true rfl, Nat.le_of_ble_eq_true rfl⟩ ⟨rfl, rfl⟩ ⟨Nat.le_of_ble_eq_true rfl, Nat.le_of_ble_eq_true rfl⟩ rfl (Nat.le_of_ble_eq_true rfl) dX9_mark_35 ?_
        refine v_if_ne (tgt := 45) C dX9_mark_38 (by decide) (fun h20 => ?_) (fun h20 => ?_)
        · replace hf := bs_neg h20 hf
          refine v_iconst (v := 0) C dX9_mark_45 (by decide) ?_
          refine v_sub [0, 1, 2, 3] rfl ?_
          exact wX9_mark_46   C  _ _ _ _ _  hf
        · replace hf := bs_pos h20 hf
          refine v_sub [0, 1, 2, 3] rfl ?_
          exact wX9_mark_41   C  _ _ _ _  hf
/-! BootSlotsModel.setNumber(II)I -/
def fX9_setNumber_60 (x1 : Int32) (x2 : Int32) (y1 : Int32) (X : bsX) : Option (Int32 × bsX) := (fX9_refuse  y1 (2 : Int32) X).bind fun r1 => if r1.1 = 0 then ((fX9_keepsAll   r1.2).bind fun r3 => if bsIn x1 160 then (some ((r3 14 1 0 (bsIx x1)), (bsWr r3 14 1 0 (bsIx x1) x2))) else none) else (some ((0 : Int32), r1.2))
def fX9_setNumber_55 (x1 : Int32) (x2 : Int32) (X : bsX) : Option (Int32 × bsX) := fX9_setNumber_60   x1 x2 (1 : Int32) X
def fX9_setNumber_59 (x1 : Int32) (x2 : Int32) (X : bsX) : Option (Int32 × bsX) := fX9_setNumber_60   x1 x2 (0 : Int32) X
def fX9_setNumber (a1 : Int32) (a2 : Int32) (X : bsX) : Option (Int32 × bsX) := (fX9_notLoaded   X).bind fun r8 => if r8.1 = 0 then ((fX9_in  a1.toInt64 (2 : Int64) (5 : Int64) r8.2).bind fun r10 => if r10.1 = 0 then (fX9_setNumber_55   a1 a2 r10.2) else ((fX9_least  a1 r10.2).bind fun r12 => (fX9_most  a1 r12.2).bind fun r14 => (fX9_in  a2.toInt64 r12.1.toInt64 r14.1.toInt64 r14.2).bind fun r16 => if r16.1 = 0 then (fX9_setNumber_55   a1 a2 r16.2) else (if a1 = (5 : Int32) then (if bsIn (5 : Int32) 160 then (if (r16.2 14 1 0 (bsIx (5 : Int32))) ≤ a2 then (fX9_setNumber_59   a1 a2 r16.2) else (fX9_setNumber_55   a1 a2 r16.2)) else none) else (fX9_setNumber_59   a1 a2 r16.2)))) else (some ((0 : Int32), r8.2))
abbrev rmX9_setNumber : Room := { frames := 2, cells := 0, slots := 0, locals := 45 }
set_option maxHeartbeats 4000000 in
set_option maxRecDepth 100000 in
theorem wX9_setNumber_60 {p : Program} {l : Launch} {e : Env} {s : State} {m : MethodId} {args : Array Value} {below : List Frame} {meth : Method} {c : Code} {ρ : bsR} {cA : Nat → ClassId} {dC : Nat → ClassId} {dI : Nat → Nat → Nat} {Rz : va_W} {Ts : List Cond}   {z : (Int32 × bsX)} (C : bsCx p m c cX9_setNumber 4 s args Ts RX9 ρ cA dC dI Rz meth (some .int)) (x1 : Int32) (x2 : Int32) (y1 : Int32) (X : bsX) (hf : fX9_setNumber_60 x1 x2 y1 X = some z) : bsV p l e rmX9_setNumber s m args below meth c 0 0 (MQ below (bsQi ρ cA dC dI Rz z s.heap.size) args s 0 0 (bsA ρ cA Rz s.heap.size)) ρ cA dC dI Rz 4 60 [(0, .ref (ρ 14 0 0)), (1, .int x1), (2, .int x2)] [.int y1, .ref (ρ 14 0 0)] X := by
  rw [fX9_setNumber_60] at hf
  refine v_iconst (v := 2) C dX9_setNumber_60 (by decide) ?_
  obtain ⟨r1, hc2, hf⟩ := bs_bind hf
  refine v_callVi (y := yX9_refuse) (As := [.int y1, .int (2 : Int32)]) (rest := []) C (cX9_refuse_ok  hc2) ml_X9_40 wyX9_refuse (bsm_X9) (bsc_X9) rfl dpX9_refuse ⟨Nat.le_of_ble_eq_true rfl, Nat.le_of_ble_eq_true rfl⟩ ⟨rfl, rfl⟩ ⟨Nat.le_of_ble_eq_true rfl, Nat.le_of_ble_eq_true rfl⟩ rfl (Nat.le_of_ble_eq_true rfl) dX9_setNumber_61 ?_
  refine v_if_eq (tgt := 69) C dX9_setNumber_64 (by decide) (fun h7 => ?_) (fun h7 => ?_)
  · replace hf := bs_pos h7 hf
    refine v_aload_n C dX9_setNumber_69 rfl rfl ?_
    obtain ⟨r3, hc4, hf⟩ := bs_bind hf
    refine v_callVv (y := yX9_keepsAll) (As := []) (rest := []) C (cX9_keepsAll_ok  hc4) ml_X9_357 wyX9_keepsAll (bsm_X9) (bsc_X9) rfl dpX9_keepsAll ⟨Nat.le_of_ble_eq_true rfl, Nat.le_of_ble_eq_true rfl⟩ ⟨rfl, rfl⟩ ⟨Nat.le_of_ble_eq_true rfl, Nat.le_of_ble_eq_true rfl⟩ rfl (Nat.le_of_ble_eq_true rfl) dX9_setNumber_70 ?_
    refine v_aload_n C dX9_setNumber_73 rfl rfl ?_
    refine gf_X9_7 C dX9_setNumber_74 ?_
    refine v_iload_n C dX9_setNumber_77 rfl rfl ?_
    obtain ⟨hi5, hf⟩ := bs_if hf
    refine v_iald (n := 160) C bsm_14_1 bsc_14_1 hi5 dX9_setNumber_78 ?_
    refine v_istore_n (lv' := [(3, .int (r3 14 1 0 (bsIx x1))), (0, .ref (ρ 14 0 0)), (1, .int x1), (2, .int x2)]) C dX9_setNumber_79 rfl (by decide) rfl ?_
    refine v_aload_n C dX9_setNumber_80 rfl rfl ?_
    refine gf_X9_7 C dX9_setNumber_81 ?_
    refine v_iload_n C dX9_setNumber_84 rfl rfl ?_
    refine v_iload_n C dX9_setNumber_85 rfl rfl ?_
    refine v_iast (n := 160) C bsm_14_1 (fun _ => bsc_14_1) hi5 dX9_setNumber_86 ?_
    refine v_iload_n C dX9_setNumber_87 rfl rfl ?_
    exact v_iret C hf dX9_setNumber_88
  · replace hf := bs_neg h7 hf
    refine v_iconst (v := 0) C dX9_setNumber_67 (by decide) ?_
    exact v_iret C hf dX9_setNumber_68
set_option maxHeartbeats 4000000 in
set_option maxRecDepth 100000 in
theorem wX9_setNumber_55 {p : Program} {l : Launch} {e : Env} {s : State} {m : MethodId} {args : Array Value} {below : List Frame} {meth : Method} {c : Code} {ρ : bsR} {cA : Nat → ClassId} {dC : Nat → ClassId} {dI : Nat → Nat → Nat} {Rz : va_W} {Ts : List Cond}   {z : (Int32 × bsX)} (C : bsCx p m c cX9_setNumber 4 s args Ts RX9 ρ cA dC dI Rz meth (some .int)) (x1 : Int32) (x2 : Int32) (X : bsX) (hf : fX9_setNumber_55 x1 x2 X = some z) : bsV p l e rmX9_setNumber s m args below meth c 0 0 (MQ below (bsQi ρ cA dC dI Rz z s.heap.size) args s 0 0 (bsA ρ cA Rz s.heap.size)) ρ cA dC dI Rz 4 55 [(0, .ref (ρ 14 0 0)), (1, .int x1), (2, .int x2)] [.ref (ρ 14 0 0)] X := by
  rw [fX9_setNumber_55] at hf
  refine v_iconst (v := 1) C dX9_setNumber_55 (by decide) ?_
  refine v_goto (tgt := 60) C dX9_setNumber_56 (by decide) ?_
  refine v_sub [0, 1, 2] rfl ?_
  exact wX9_setNumber_60   C  _ _ _ _  hf
set_option maxHeartbeats 4000000 in
set_option maxRecDepth 100000 in
theorem wX9_setNumber_59 {p : Program} {l : Launch} {e : Env} {s : State} {m : MethodId} {args : Array Value} {below : List Frame} {meth : Method} {c : Code} {ρ : bsR} {cA : Nat → ClassId} {dC : Nat → ClassId} {dI : Nat → Nat → Nat} {Rz : va_W} {Ts : List Cond}   {z : (Int32 × bsX)} (C : bsCx p m c cX9_setNumber 4 s args Ts RX9 ρ cA dC dI Rz meth (some .int)) (x1 : Int32) (x2 : Int32) (X : bsX) (hf : fX9_setNumber_59 x1 x2 X = some z) : bsV p l e rmX9_setNumber s m args below meth c 0 0 (MQ below (bsQi ρ cA dC dI Rz z s.heap.size) args s 0 0 (bsA ρ cA Rz s.heap.size)) ρ cA dC dI Rz 4 59 [(0, .ref (ρ 14 0 0)), (1, .int x1), (2, .int x2)] [.ref (ρ 14 0 0)] X := by
  rw [fX9_setNumber_59] at hf
  refine v_iconst (v := 0) C dX9_setNumber_59 (by decide) ?_
  refine v_sub [0, 1, 2] rfl ?_
  exact wX9_setNumber_60   C  _ _ _ _  hf
set_option maxHeartbeats 4000000 in
set_option maxRecDepth 100000 in
theorem cX9_setNumber_ok {l : Launch} {ρ : bsR} {cA : Nat → ClassId} {dC : Nat → ClassId} {dI : Nat → Nat → Nat} {Rz : va_W}  {a1 : Int32} {a2 : Int32} {X : bsX} {z : (Int32 × bsX)} (hf : fX9_setNumber a1 a2 X = some z) : bsMi l yX9_setNumber cX9_setNumber 4 (some .int) rmX9_setNumber ρ cA dC dI Rz [.ref (ρ 14 0 0), .int a1, .int a2] X z := by
  refine bsMi_of (by decide) (Nat.le_of_ble_eq_true rfl) (fun p e s m args below meth c C => ?_)
  have C : bsCx p m c cX9_setNumber 4 s args (Cond.code yX9_setNumber cX9_setNumber 4 (some .int) :: bsG) RX9 ρ cA dC dI Rz meth (some .int) := C
  rw [fX9_setNumber] at hf
  refine v_sub [0, 1, 2] rfl ?_
  refine v_aload_n C dX9_setNumber_0 rfl rfl ?_
  obtain ⟨r8, hc9, hf⟩ := bs_bind hf
  refine v_callVi (y := yX9_notLoaded) (As := []) (rest := []) C (cX9_notLoaded_ok  hc9) ml_X9_48 wyX9_notLoaded (bsm_X9) (bsc_X9) rfl dpX9_notLoaded ⟨Nat.le_of_ble_eq_true rfl, Nat.le_of_ble_eq_true rfl⟩ ⟨rfl, rfl⟩ ⟨Nat.le_of_ble_eq_true rfl, Nat.le_of_ble_eq_true rfl⟩ rfl (Nat.le_of_ble_eq_true rfl) dX9_setNumber_1 ?_
  refine v_if_ne (tgt := 67) C dX9_setNumber_4 (by decide) (fun h23 => ?_) (fun h23 => ?_)
  · replace hf := bs_neg h23 hf
    refine v_iconst (v := 0) C dX9_setNumber_67 (by decide) ?_
    exact v_iret C hf dX9_setNumber_68
  · replace hf := bs_pos h23 hf
    refine v_aload_n C dX9_setNumber_7 rfl rfl ?_
    refine v_iload_n C dX9_setNumber_8 rfl rfl ?_
    refine v_i2l C dX9_setNumber_9 ?_
    refine v_ldc2 (v := (2 : Int64)) C (bsG_in 2022 (by decide +kernel) rfl) dX9_setNumber_10 ?_
    refine v_ldc2 (v := (5 : Int64)) C (bsG_in 2033 (by decide +kernel) rfl) dX9_setNumber_13 ?_
    obtain ⟨r10, hc11, hf⟩ := bs_bind hf
    refine v_callSi (y := yX9_in) (As := [.long a1.toInt64, .long (2 : Int64), .long (5 : Int64)]) (rest := [.ref (ρ 14 0 0)]) C (cX9_in_ok  hc11) ml_X9_44 wzX9_in dpX9_in ⟨Nat.le_of_ble_eq_true rfl, Nat.le_of_ble_eq_true rfl⟩ ⟨rfl, rfl⟩ ⟨Nat.le_of_ble_eq_true rfl, Nat.le_of_ble_eq_true rfl⟩ rfl (Nat.le_of_ble_eq_true rfl) dX9_setNumber_16 ?_
    refine v_if_eq (tgt := 55) C dX9_setNumber_19 (by decide) (fun h22 => ?_) (fun h22 => ?_)
    · replace hf := bs_pos h22 hf
      refine v_sub [0, 1, 2] rfl ?_
      exact wX9_setNumber_55   C  _ _ _  hf
    · replace hf := bs_neg h22 hf
      refine v_iload_n C dX9_setNumber_22 rfl rfl ?_
      refine v_i2l C dX9_setNumber_23 ?_
      refine v_iload_n C dX9_setNumber_24 rfl rfl ?_
      obtain ⟨r12, hc13, hf⟩ := bs_bind hf
      refine v_callSi (y := yX9_least) (As := [.int a1]) (rest := [.long a2.toInt64, .ref (ρ 14 0 0)]) C (cX9_least_ok  hc13) ml_X9_233 wzX9_least dpX9_least ⟨Nat.le_of_ble_eq_true rfl, Nat.le_of_ble_eq_true rfl⟩ ⟨rfl, rfl⟩ ⟨Nat.le_of_ble_eq_true rfl, Nat.le_of_ble_eq_true rfl⟩ rfl (Nat.le_of_ble_eq_true rfl) dX9_setNumber_25 ?_
      refine v_i2l C dX9_setNumber_28 ?_
      refine v_iload_n C dX9_setNumber_29 rfl rfl ?_
      obtain ⟨r14, hc15, hf⟩ := bs_bind hf
      refine v_callSi (y := yX9_most) (As := [.int a1]) (rest := [.long r12.1.toInt64, .long a2.toInt64, .ref (ρ 14 0 0)]) C (cX9_most_ok  hc15) ml_X9_236 wzX9_most dpX9_most ⟨Nat.le_of_ble_eq_true rfl, Nat.le_of_ble_eq_true rfl⟩ ⟨rfl, rfl⟩ ⟨Nat.le_of_ble_eq_true rfl, Nat.le_of_ble_eq_true rfl⟩ rfl (Nat.le_of_ble_eq_true rfl) dX9_setNumber_30 ?_
      refine v_i2l C dX9_setNumber_33 ?_
      obtain ⟨r16, hc17, hf⟩ := bs_bind hf
      refine v_callSi (y := yX9_in) (As := [.long a2.toInt64, .long r12.1.toInt64, .long r14.1.toInt64]) (rest := [.ref (ρ 14 0 0)]) C (cX9_in_ok  hc17) ml_X9_44 wzX9_in dpX9_in ⟨Nat.le_of_ble_eq_true rfl, Nat.le_of_ble_eq_true rfl⟩ ⟨rfl, rfl⟩ ⟨Nat.le_of_ble_eq_true rfl, Nat.le_of_ble_eq_true rfl⟩ rfl (Nat.le_of_ble_eq_true rfl) dX9_setNumber_34 ?_
      refine v_if_eq (tgt := 55) C dX9_setNumber_37 (by decide) (fun h21 => ?_) (fun h21 => ?_)
      · replace hf := bs_pos h21 hf
        refine v_sub [0, 1, 2] rfl ?_
        exact wX9_setNumber_55   C  _ _ _  hf
      · replace hf := bs_neg h21 hf
        refine v_iload_n C dX9_setNumber_40 rfl rfl ?_
        refine v_iconst (v := 5) C dX9_setNumber_41 (by decide) ?_
        refine v_icmp_ne (tgt := 59) C dX9_setNumber_42 (by decide) (fun h20 => ?_) (fun h20 => ?_)
        · replace hf := bs_neg h20 hf
          refine v_sub [0, 1, 2] rfl ?_
          exact wX9_setNumber_59   C  _ _ _  hf
        · replace hf := bs_pos h20 hf
          refine v_iload_n C dX9_setNumber_45 rfl rfl ?_
          refine v_aload_n C dX9_setNumber_46 rfl rfl ?_
          refine gf_X9_7 C dX9_setNumber_47 ?_
          refine v_iconst (v := 5) C dX9_setNumber_50 (by decide) ?_
          obtain ⟨hi18, hf⟩ := bs_if hf
          refine v_iald (n := 160) C bsm_14_1 bsc_14_1 hi18 dX9_setNumber_51 ?_
          refine v_icmp_ge (tgt := 59) C dX9_setNumber_52 (by decide) (fun h19 => ?_) (fun h19 => ?_)
          · replace hf := bs_pos h19 hf
            refine v_sub [0, 1, 2] rfl ?_
            exact wX9_setNumber_59   C  _ _ _  hf
          · replace hf := bs_neg h19 hf
            refine v_sub [0, 1, 2] rfl ?_
            exact wX9_setNumber_55   C  _ _ _  hf
/-! BootSlotsModel.undo()I -/
def fX9_undo_18 (y1 : Int32) (X : bsX) : Option (Int32 × bsX) := (fX9_refuse  y1 (1 : Int32) X).bind fun r1 => if r1.1 = 0 then ((fX9_copies 2 1760 1 160 ((160 : Int32) * ((0 : Int32) + ((bsWr r1.2 14 0 0 4 ((r1.2 14 0 0 4) - (1 : Int32))) 14 0 0 4))) (0 : Int32) (bsWr r1.2 14 0 0 4 ((r1.2 14 0 0 4) - (1 : Int32)))).bind fun r3 => some ((r3 14 0 0 4), r3)) else (some ((0 : Int32), r1.2))
def fX9_undo (X : bsX) : Option (Int32 × bsX) := if ((bsWr X 14 0 0 0 (0 : Int32)) 14 0 0 4) = 0 then (fX9_undo_18   (1 : Int32) (bsWr X 14 0 0 0 (0 : Int32))) else (fX9_undo_18   (0 : Int32) (bsWr X 14 0 0 0 (0 : Int32)))
abbrev rmX9_undo : Room := { frames := 1, cells := 0, slots := 0, locals := 24 }
set_option maxHeartbeats 4000000 in
set_option maxRecDepth 100000 in
theorem wX9_undo_18 {p : Program} {l : Launch} {e : Env} {s : State} {m : MethodId} {args : Array Value} {below : List Frame} {meth : Method} {c : Code} {ρ : bsR} {cA : Nat → ClassId} {dC : Nat → ClassId} {dI : Nat → Nat → Nat} {Rz : va_W} {Ts : List Cond}   {z : (Int32 × bsX)} (C : bsCx p m c cX9_undo 1 s args Ts RX9 ρ cA dC dI Rz meth (some .int)) (y1 : Int32) (X : bsX) (hf : fX9_undo_18 y1 X = some z) : bsV p l e rmX9_undo s m args below meth c 0 0 (MQ below (bsQi ρ cA dC dI Rz z s.heap.size) args s 0 0 (bsA ρ cA Rz s.heap.size)) ρ cA dC dI Rz 1 18 [(0, .ref (ρ 14 0 0))] [.int y1, .ref (ρ 14 0 0)] X := by
  rw [fX9_undo_18] at hf
  refine v_iconst (v := 1) C dX9_undo_18 (by decide) ?_
  obtain ⟨r1, hc2, hf⟩ := bs_bind hf
  refine v_callVi (y := yX9_refuse) (As := [.int y1, .int (1 : Int32)]) (rest := []) C (cX9_refuse_ok  hc2) ml_X9_40 wyX9_refuse (bsm_X9) (bsc_X9) rfl dpX9_refuse ⟨Nat.le_of_ble_eq_true rfl, Nat.le_of_ble_eq_true rfl⟩ ⟨rfl, rfl⟩ ⟨Nat.le_of_ble_eq_true rfl, Nat.le_of_ble_eq_true rfl⟩ rfl (Nat.le_of_ble_eq_true rfl) dX9_undo_19 ?_
  refine v_if_eq (tgt := 27) C dX9_undo_22 (by decide) (fun h5 => ?_) (fun h5 => ?_)
  · replace hf := bs_pos h5 hf
    refine v_aload_n C dX9_undo_27 rfl rfl ?_
    refine v_dup C dX9_undo_28 rfl ?_
    refine gf_X9_249 C dX9_undo_29 ?_
    refine v_iconst (v := 1) C dX9_undo_32 (by decide) ?_
    refine v_isub C dX9_undo_33 ?_
    refine pf_X9_249 C dX9_undo_34 ?_
    refine v_aload_n C dX9_undo_37 rfl rfl ?_
    refine gf_X9_13 C dX9_undo_38 ?_
    refine v_sipush (v := 160) C dX9_undo_41 (by decide) ?_
    refine v_iconst (v := 0) C dX9_undo_44 (by decide) ?_
    refine v_aload_n C dX9_undo_45 rfl rfl ?_
    refine gf_X9_249 C dX9_undo_46 ?_
    refine v_iadd C dX9_undo_49 ?_
    refine v_imul C dX9_undo_50 ?_
    refine v_aload_n C dX9_undo_51 rfl rfl ?_
    refine gf_X9_7 C dX9_undo_52 ?_
    refine v_iconst (v := 0) C dX9_undo_55 (by decide) ?_
    obtain ⟨r3, hc4, hf⟩ := bs_bind hf
    refine v_callSv (y := yX9_copies) (As := [.ref (ρ 14 2 0), .int ((160 : Int32) * ((0 : Int32) + ((bsWr r1.2 14 0 0 4 ((r1.2 14 0 0 4) - (1 : Int32))) 14 0 0 4))), .ref (ρ 14 1 0), .int (0 : Int32)]) (rest := []) C (cX9_copies_ok bsm_14_2 (fun _ _ _ => bsc_14_2) bsm_14_1 (fun _ _ _ => bsc_14_1) hc4) ml_X9_242 wzX9_copies dpX9_copies ⟨Nat.le_of_ble_eq_true rfl, Nat.le_of_ble_eq_true rfl⟩ ⟨rfl, rfl⟩ ⟨Nat.le_of_ble_eq_true rfl, Nat.le_of_ble_eq_true rfl⟩ rfl (Nat.le_of_ble_eq_true rfl) dX9_undo_56 ?_
    refine v_aload_n C dX9_undo_59 rfl rfl ?_
    refine gf_X9_249 C dX9_undo_60 ?_
    exact v_iret C hf dX9_undo_63
  · replace hf := bs_neg h5 hf
    refine v_iconst (v := 0) C dX9_undo_25 (by decide) ?_
    exact v_iret C hf dX9_undo_26
set_option maxHeartbeats 4000000 in
set_option maxRecDepth 100000 in
theorem cX9_undo_ok {l : Launch} {ρ : bsR} {cA : Nat → ClassId} {dC : Nat → ClassId} {dI : Nat → Nat → Nat} {Rz : va_W}  {X : bsX} {z : (Int32 × bsX)} (hf : fX9_undo  X = some z) : bsMi l yX9_undo cX9_undo 1 (some .int) rmX9_undo ρ cA dC dI Rz [.ref (ρ 14 0 0)] X z := by
  refine bsMi_of (by decide) (Nat.le_of_ble_eq_true rfl) (fun p e s m args below meth c C => ?_)
  have C : bsCx p m c cX9_undo 1 s args (Cond.code yX9_undo cX9_undo 1 (some .int) :: bsG) RX9 ρ cA dC dI Rz meth (some .int) := C
  rw [fX9_undo] at hf
  refine v_sub [0] rfl ?_
  refine v_aload_n C dX9_undo_0 rfl rfl ?_
  refine v_iconst (v := 0) C dX9_undo_1 (by decide) ?_
  refine pf_X9_33 C dX9_undo_2 ?_
  refine v_aload_n C dX9_undo_5 rfl rfl ?_
  refine v_aload_n C dX9_undo_6 rfl rfl ?_
  refine gf_X9_249 C dX9_undo_7 ?_
  refine v_if_ne (tgt := 17) C dX9_undo_10 (by decide) (fun h6 => ?_) (fun h6 => ?_)
  · replace hf := bs_neg h6 hf
    refine v_iconst (v := 0) C dX9_undo_17 (by decide) ?_
    refine v_sub [0] rfl ?_
    exact wX9_undo_18   C  _ _  hf
  · replace hf := bs_pos h6 hf
    refine v_iconst (v := 1) C dX9_undo_13 (by decide) ?_
    refine v_goto (tgt := 18) C dX9_undo_14 (by decide) ?_
    refine v_sub [0] rfl ?_
    exact wX9_undo_18   C  _ _  hf
/-! BootSlotsModel.undoable()I -/
def fX9_undoable (X : bsX) : Option (Int32 × bsX) := some (((bsWr X 14 0 0 0 (0 : Int32)) 14 0 0 4), (bsWr X 14 0 0 0 (0 : Int32)))
abbrev rmX9_undoable : Room := { frames := 0, cells := 0, slots := 0, locals := 0 }
set_option maxHeartbeats 4000000 in
set_option maxRecDepth 100000 in
theorem cX9_undoable_ok {l : Launch} {ρ : bsR} {cA : Nat → ClassId} {dC : Nat → ClassId} {dI : Nat → Nat → Nat} {Rz : va_W}  {X : bsX} {z : (Int32 × bsX)} (hf : fX9_undoable  X = some z) : bsMi l yX9_undoable cX9_undoable 1 (some .int) rmX9_undoable ρ cA dC dI Rz [.ref (ρ 14 0 0)] X z := by
  refine bsMi_of (by decide) (Nat.le_of_ble_eq_true rfl) (fun p e s m args below meth c C => ?_)
  have C : bsCx p m c cX9_undoable 1 s args (Cond.code yX9_undoable cX9_undoable 1 (some .int) :: bsG) RX9 ρ cA dC dI Rz meth (some .int) := C
  rw [fX9_undoable] at hf
  refine v_sub [0] rfl ?_
  refine v_aload_n C dX9_undoable_0 rfl rfl ?_
  refine v_iconst (v := 0) C dX9_undoable_1 (by decide) ?_
  refine pf_X9_33 C dX9_undoable_2 ?_
  refine v_aload_n C dX9_undoable_5 rfl rfl ?_
  refine gf_X9_249 C dX9_undoable_6 ?_
  exact v_iret C hf dX9_undoable_9
/-! BootSlotsModel.save(I)I -/
def fX9_save_23 (x1 : Int32) (y1 : Int32) (X : bsX) : Option (Int32 × bsX) := (fX9_refuse  y1 (2 : Int32) X).bind fun r1 => if r1.1 = 0 then ((fX9_copies 1 160 2 1760 (0 : Int32) ((160 : Int32) * ((8 : Int32) + x1)) r1.2).bind fun r3 => if bsIn x1 2 then (if bsIn (1 : Int32) 160 then (some (((bsWr r3 14 3 0 (bsIx x1) (vp_nar .boolean (1 : Int32))) 14 1 0 (bsIx (1 : Int32))), (bsWr r3 14 3 0 (bsIx x1) (vp_nar .boolean (1 : Int32))))) else none) else none) else (some ((0 : Int32), r1.2))
def fX9_save (a1 : Int32) (X : bsX) : Option (Int32 × bsX) := (fX9_notLoaded   X).bind fun r8 => if r8.1 = 0 then ((fX9_in  a1.toInt64 (0 : Int64) (1 : Int64) r8.2).bind fun r10 => if r10.1 = 0 then (fX9_save_23   a1 (1 : Int32) r10.2) else (fX9_save_23   a1 (0 : Int32) r10.2)) else (some ((0 : Int32), r8.2))
abbrev rmX9_save : Room := { frames := 2, cells := 0, slots := 0, locals := 42 }
set_option maxHeartbeats 4000000 in
set_option maxRecDepth 100000 in
theorem wX9_save_23 {p : Program} {l : Launch} {e : Env} {s : State} {m : MethodId} {args : Array Value} {below : List Frame} {meth : Method} {c : Code} {ρ : bsR} {cA : Nat → ClassId} {dC : Nat → ClassId} {dI : Nat → Nat → Nat} {Rz : va_W} {Ts : List Cond}   {z : (Int32 × bsX)} (C : bsCx p m c cX9_save 2 s args Ts RX9 ρ cA dC dI Rz meth (some .int)) (x1 : Int32) (y1 : Int32) (X : bsX) (hf : fX9_save_23 x1 y1 X = some z) : bsV p l e rmX9_save s m args below meth c 0 0 (MQ below (bsQi ρ cA dC dI Rz z s.heap.size) args s 0 0 (bsA ρ cA Rz s.heap.size)) ρ cA dC dI Rz 2 23 [(0, .ref (ρ 14 0 0)), (1, .int x1)] [.int y1, .ref (ρ 14 0 0)] X := by
  rw [fX9_save_23] at hf
  refine v_iconst (v := 2) C dX9_save_23 (by decide) ?_
  obtain ⟨r1, hc2, hf⟩ := bs_bind hf
  refine v_callVi (y := yX9_refuse) (As := [.int y1, .int (2 : Int32)]) (rest := []) C (cX9_refuse_ok  hc2) ml_X9_40 wyX9_refuse (bsm_X9) (bsc_X9) rfl dpX9_refuse ⟨Nat.le_of_ble_eq_true rfl, Nat.le_of_ble_eq_true rfl⟩ ⟨rfl, rfl⟩ ⟨Nat.le_of_ble_eq_true rfl, Nat.le_of_ble_eq_true rfl⟩ rfl (Nat.le_of_ble_eq_true rfl) dX9_save_24 ?_
  refine v_if_eq (tgt := 32) C dX9_save_27 (by decide) (fun h7 => ?_) (fun h7 => ?_)
  · replace hf := bs_pos h7 hf
    refine v_aload_n C dX9_save_32 rfl rfl ?_
    refine gf_X9_7 C dX9_save_33 ?_
    refine v_iconst (v := 0) C dX9_save_36 (by decide) ?_
    refine v_aload_n C dX9_save_37 rfl rfl ?_
    refine gf_X9_13 C dX9_save_38 ?_
    refine v_sipush (v := 160) C dX9_save_41 (by decide) ?_
    refine v_bipush (v := 8) C dX9_save_44 (by decide) ?_
    refine v_iload_n C dX9_save_46 rfl rfl ?_
    refine v_iadd C dX9_save_47 ?_
    refine v_imul C dX9_save_48 ?_
    obtain ⟨r3, hc4, hf⟩ := bs_bind hf
    refine v_callSv (y := yX9_copies) (As := [.ref (ρ 14 1 0), .int (0 : Int32), .ref (ρ 14 2 0), .int ((160 : Int32) * ((8 : Int32) + x1))]) (rest := []) C (cX9_copies_ok bsm_14_1 (fun _ _ _ => bsc_14_1) bsm_14_2 (fun _ _ _ => bsc_14_2) hc4) ml_X9_242 wzX9_copies dpX9_copies ⟨Nat.le_of_ble_eq_true rfl, Nat.le_of_ble_eq_true rfl⟩ ⟨rfl, rfl⟩ ⟨Nat.le_of_ble_eq_true rfl, Nat.le_of_ble_eq_true rfl⟩ rfl (Nat.le_of_ble_eq_true rfl) dX9_save_49 ?_
    refine v_aload_n C dX9_save_52 rfl rfl ?_
    refine gf_X9_16 C dX9_save_53 ?_
    refine v_iload_n C dX9_save_56 rfl rfl ?_
    refine v_iconst (v := 1) C dX9_save_57 (by decide) ?_
    obtain ⟨hi5, hf⟩ := bs_if hf
    refine v_zast (n := 2) C bsm_14_3 (fun _ => bsc_14_3) hi5 dX9_save_58 ?_
    refine v_aload_n C dX9_save_59 rfl rfl ?_
    refine gf_X9_7 C dX9_save_60 ?_
    refine v_iconst (v := 1) C dX9_save_63 (by decide) ?_
    obtain ⟨hi6, hf⟩ := bs_if hf
    refine v_iald (n := 160) C bsm_14_1 bsc_14_1 hi6 dX9_save_64 ?_
    exact v_iret C hf dX9_save_65
  · replace hf := bs_neg h7 hf
    refine v_iconst (v := 0) C dX9_save_30 (by decide) ?_
    exact v_iret C hf dX9_save_31
set_option maxHeartbeats 4000000 in
set_option maxRecDepth 100000 in
theorem cX9_save_ok {l : Launch} {ρ : bsR} {cA : Nat → ClassId} {dC : Nat → ClassId} {dI : Nat → Nat → Nat} {Rz : va_W}  {a1 : Int32} {X : bsX} {z : (Int32 × bsX)} (hf : fX9_save a1 X = some z) : bsMi l yX9_save cX9_save 2 (some .int) rmX9_save ρ cA dC dI Rz [.ref (ρ 14 0 0), .int a1] X z := by
  refine bsMi_of (by decide) (Nat.le_of_ble_eq_true rfl) (fun p e s m args below meth c C => ?_)
  have C : bsCx p m c cX9_save 2 s args (Cond.code yX9_save cX9_save 2 (some .int) :: bsG) RX9 ρ cA dC dI Rz meth (some .int) := C
  rw [fX9_save] at hf
  refine v_sub [0, 1] rfl ?_
  refine v_aload_n C dX9_save_0 rfl rfl ?_
  obtain ⟨r8, hc9, hf⟩ := bs_bind hf
  refine v_callVi (y := yX9_notLoaded) (As := []) (rest := []) C (cX9_notLoaded_ok  hc9) ml_X9_48 wyX9_notLoaded (bsm_X9) (bsc_X9) rfl dpX9_notLoaded ⟨Nat.le_of_ble_eq_true rfl, Nat.le_of_ble_eq_true rfl⟩ ⟨rfl, rfl⟩ ⟨Nat.le_of_ble_eq_true rfl, Nat.le_of_ble_eq_true rfl⟩ rfl (Nat.le_of_ble_eq_true rfl) dX9_save_1 ?_
  refine v_if_ne (tgt := 30) C dX9_save_4 (by decide) (fun h13 => ?_) (fun h13 => ?_)
  · replace hf := bs_neg h13 hf
    refine v_iconst (v := 0) C dX9_save_30 (by decide) ?_
    exact v_iret C hf dX9_save_31
  · replace hf := bs_pos h13 hf
    refine v_aload_n C dX9_save_7 rfl rfl ?_
    refine v_iload_n C dX9_save_8 rfl rfl ?_
    refine v_i2l C dX9_save_9 ?_
    refine v_lconst (v := (0 : Int64)) C dX9_save_10 (by decide) ?_
    refine v_lconst (v := (1 : Int64)) C dX9_save_11 (by decide) ?_
    obtain ⟨r10, hc11, hf⟩ := bs_bind hf
    refine v_callSi (y := yX9_in) (As := [.long a1.toInt64, .long (0 : Int64), .long (1 : Int64)]) (rest := [.ref (ρ 14 0 0)]) C (cX9_in_ok  hc11) ml_X9_44 wzX9_in dpX9_in ⟨Nat.le_of_ble_eq_true rfl, Nat.le_of_ble_eq_true rfl⟩ ⟨rfl, rfl⟩ ⟨Nat.le_of_ble_eq_true rfl, Nat.le_of_ble_eq_true rfl⟩ rfl (Nat.le_of_ble_eq_true rfl) dX9_save_12 ?_
    refine v_if_ne (tgt := 22) C dX9_save_15 (by decide) (fun h12 => ?_) (fun h12 => ?_)
    · replace hf := bs_neg h12 hf
      refine v_iconst (v := 0) C dX9_save_22 (by decide) ?_
      refine v_sub [0, 1] rfl ?_
      exact wX9_save_23   C  _ _ _  hf
    · replace hf := bs_pos h12 hf
      refine v_iconst (v := 1) C dX9_save_18 (by decide) ?_
      refine v_goto (tgt := 23) C dX9_save_19 (by decide) ?_
      refine v_sub [0, 1] rfl ?_
      exact wX9_save_23   C  _ _ _  hf
/-! BootSlotsModel.restore(I)I -/
def fX9_restore_43 (x1 : Int32) (y1 : Int32) (X : bsX) : Option (Int32 × bsX) := (fX9_refuse  y1 (2 : Int32) X).bind fun r1 => if r1.1 = 0 then ((fX9_copies 2 1760 1 160 ((160 : Int32) * ((8 : Int32) + x1)) (0 : Int32) r1.2).bind fun r3 => if bsIn (1 : Int32) 160 then (some (((bsWr r3 14 0 0 4 (0 : Int32)) 14 1 0 (bsIx (1 : Int32))), (bsWr r3 14 0 0 4 (0 : Int32)))) else none) else (some ((0 : Int32), r1.2))
def fX9_restore_21 (x1 : Int32) (y1 : Int32) (X : bsX) : Option (Int32 × bsX) := (fX9_refuse  y1 (1 : Int32) X).bind fun r7 => if r7.1 = 0 then (if bsIn x1 2 then (if (r7.2 14 3 0 (bsIx x1)) = 0 then (fX9_restore_43   x1 (1 : Int32) r7.2) else (fX9_restore_43   x1 (0 : Int32) r7.2)) else none) else (some ((0 : Int32), r7.2))
def fX9_restore (a1 : Int32) (X : bsX) : Option (Int32 × bsX) := (fX9_in  a1.toInt64 (0 : Int64) (1 : Int64) (bsWr X 14 0 0 0 (0 : Int32))).bind fun r12 => if r12.1 = 0 then (fX9_restore_21   a1 (1 : Int32) r12.2) else (fX9_restore_21   a1 (0 : Int32) r12.2)
abbrev rmX9_restore : Room := { frames := 1, cells := 0, slots := 0, locals := 25 }
set_option maxHeartbeats 4000000 in
set_option maxRecDepth 100000 in
theorem wX9_restore_43 {p : Program} {l : Launch} {e : Env} {s : State} {m : MethodId} {args : Array Value} {below : List Frame} {meth : Method} {c : Code} {ρ : bsR} {cA : Nat → ClassId} {dC : Nat → ClassId} {dI : Nat → Nat → Nat} {Rz : va_W} {Ts : List Cond}   {z : (Int32 × bsX)} (C : bsCx p m c cX9_restore 2 s args Ts RX9 ρ cA dC dI Rz meth (some .int)) (x1 : Int32) (y1 : Int32) (X : bsX) (hf : fX9_restore_43 x1 y1 X = some z) : bsV p l e rmX9_restore s m args below meth c 0 0 (MQ below (bsQi ρ cA dC dI Rz z s.heap.size) args s 0 0 (bsA ρ cA Rz s.heap.size)) ρ cA dC dI Rz 2 43 [(0, .ref (ρ 14 0 0)), (1, .int x1)] [.int y1, .ref (ρ 14 0 0)] X := by
  rw [fX9_restore_43] at hf
  refine v_iconst (v := 2) C dX9_restore_43 (by decide) ?_
  obtain ⟨r1, hc2, hf⟩ := bs_bind hf
  refine v_callVi (y := yX9_refuse) (As := [.int y1, .int (2 : Int32)]) (rest := []) C (cX9_refuse_ok  hc2) ml_X9_40 wyX9_refuse (bsm_X9) (bsc_X9) rfl dpX9_refuse ⟨Nat.le_of_ble_eq_true rfl, Nat.le_of_ble_eq_true rfl⟩ ⟨rfl, rfl⟩ ⟨Nat.le_of_ble_eq_true rfl, Nat.le_of_ble_eq_true rfl⟩ rfl (Nat.le_of_ble_eq_true rfl) dX9_restore_44 ?_
  refine v_if_eq (tgt := 52) C dX9_restore_47 (by decide) (fun h6 => ?_) (fun h6 => ?_)
  · replace hf := bs_pos h6 hf
    refine v_aload_n C dX9_restore_52 rfl rfl ?_
    refine gf_X9_13 C dX9_restore_53 ?_
    refine v_sipush (v := 160) C dX9_restore_56 (by decide) ?_
    refine v_bipush (v := 8) C dX9_restore_59 (by decide) ?_
    refine v_iload_n C dX9_restore_61 rfl rfl ?_
    refine v_iadd C dX9_restore_62 ?_
    refine v_imul C dX9_restore_63 ?_
    refine v_aload_n C dX9_restore_64 rfl rfl ?_
    refine gf_X9_7 C dX9_restore_65 ?_
    refine v_iconst (v := 0) C dX9_restore_68 (by decide) ?_
    obtain ⟨r3, hc4, hf⟩ := bs_bind hf
    refine v_callSv (y := yX9_copies) (As := [.ref (ρ 14 2 0), .int ((160 : Int32) * ((8 : Int32) + x1)), .ref (ρ 14 1 0), .int (0 : Int32)]) (rest := []) C (cX9_copies_ok bsm_14_2 (fun _ _ _ => bsc_14_2) bsm_14_1 (fun _ _ _ => bsc_14_1) hc4) ml_X9_242 wzX9_copies dpX9_copies ⟨Nat.le_of_ble_eq_true rfl, Nat.le_of_ble_eq_true rfl⟩ ⟨rfl, rfl⟩ ⟨Nat.le_of_ble_eq_true rfl, Nat.le_of_ble_eq_true rfl⟩ rfl (Nat.le_of_ble_eq_true rfl) dX9_restore_69 ?_
    refine v_aload_n C dX9_restore_72 rfl rfl ?_
    refine v_iconst (v := 0) C dX9_restore_73 (by decide) ?_
    refine pf_X9_249 C dX9_restore_74 ?_
    refine v_aload_n C dX9_restore_77 rfl rfl ?_
    refine gf_X9_7 C dX9_restore_78 ?_
    refine v_iconst (v := 1) C dX9_restore_81 (by decide) ?_
    obtain ⟨hi5, hf⟩ := bs_if hf
    refine v_iald (n := 160) C bsm_14_1 bsc_14_1 hi5 dX9_restore_82 ?_
    exact v_iret C hf dX9_restore_83
  · replace hf := bs_neg h6 hf
    refine v_iconst (v := 0) C dX9_restore_50 (by decide) ?_
    exact v_iret C hf dX9_restore_51
set_option maxHeartbeats 4000000 in
set_option maxRecDepth 100000 in
theorem wX9_restore_21 {p : Program} {l : Launch} {e : Env} {s : State} {m : MethodId} {args : Array Value} {below : List Frame} {meth : Method} {c : Code} {ρ : bsR} {cA : Nat → ClassId} {dC : Nat → ClassId} {dI : Nat → Nat → Nat} {Rz : va_W} {Ts : List Cond}   {z : (Int32 × bsX)} (C : bsCx p m c cX9_restore 2 s args Ts RX9 ρ cA dC dI Rz meth (some .int)) (x1 : Int32) (y1 : Int32) (X : bsX) (hf : fX9_restore_21 x1 y1 X = some z) : bsV p l e rmX9_restore s m args below meth c 0 0 (MQ below (bsQi ρ cA dC dI Rz z s.heap.size) args s 0 0 (bsA ρ cA Rz s.heap.size)) ρ cA dC dI Rz 2 21 [(0, .ref (ρ 14 0 0)), (1, .int x1)] [.int y1, .ref (ρ 14 0 0)] X := by
  rw [fX9_restore_21] at hf
  refine v_iconst (v := 1) C dX9_restore_21 (by decide) ?_
  obtain ⟨r7, hc8, hf⟩ := bs_bind hf
  refine v_callVi (y := yX9_refuse) (As := [.int y1, .int (1 : Int32)]) (rest := []) C (cX9_refuse_ok  hc8) ml_X9_40 wyX9_refuse (bsm_X9) (bsc_X9) rfl dpX9_refuse ⟨Nat.le_of_ble_eq_true rfl, Nat.le_of_ble_eq_true rfl⟩ ⟨rfl, rfl⟩ ⟨Nat.le_of_ble_eq_true rfl, Nat.le_of_ble_eq_true rfl⟩ rfl (Nat.le_of_ble_eq_true rfl) dX9_restore_22 ?_
  refine v_if_ne (tgt := 50) C dX9_restore_25 (by decide) (fun h11 => ?_) (fun h11 => ?_)
  · replace hf := bs_neg h11 hf
    refine v_iconst (v := 0) C dX9_restore_50 (by decide) ?_
    exact v_iret C hf dX9_restore_51
  · replace hf := bs_pos h11 hf
    refine v_aload_n C dX9_restore_28 rfl rfl ?_
    refine v_aload_n C dX9_restore_29 rfl rfl ?_
    refine gf_X9_16 C dX9_restore_30 ?_
    refine v_iload_n C dX9_restore_33 rfl rfl ?_
    obtain ⟨hi9, hf⟩ := bs_if hf
    refine v_zald (n := 2) C bsm_14_3 bsc_14_3 hi9 dX9_restore_34 ?_
    refine v_if_ne (tgt := 42) C dX9_restore_35 (by decide) (fun h10 => ?_) (fun h10 => ?_)
    · replace hf := bs_neg h10 hf
      refine v_iconst (v := 0) C dX9_restore_42 (by decide) ?_
      refine v_sub [0, 1] rfl ?_
      exact wX9_restore_43   C  _ _ _  hf
    · replace hf := bs_pos h10 hf
      refine v_iconst (v := 1) C dX9_restore_38 (by decide) ?_
      refine v_goto (tgt := 43) C dX9_restore_39 (by decide) ?_
      refine v_sub [0, 1] rfl ?_
      exact wX9_restore_43   C  _ _ _  hf
set_option maxHeartbeats 4000000 in
set_option maxRecDepth 100000 in
theorem cX9_restore_ok {l : Launch} {ρ : bsR} {cA : Nat → ClassId} {dC : Nat → ClassId} {dI : Nat → Nat → Nat} {Rz : va_W}  {a1 : Int32} {X : bsX} {z : (Int32 × bsX)} (hf : fX9_restore a1 X = some z) : bsMi l yX9_restore cX9_restore 2 (some .int) rmX9_restore ρ cA dC dI Rz [.ref (ρ 14 0 0), .int a1] X z := by
  refine bsMi_of (by decide) (Nat.le_of_ble_eq_true rfl) (fun p e s m args below meth c C => ?_)
  have C : bsCx p m c cX9_restore 2 s args (Cond.code yX9_restore cX9_restore 2 (some .int) :: bsG) RX9 ρ cA dC dI Rz meth (some .int) := C
  rw [fX9_restore] at hf
  refine v_sub [0, 1] rfl ?_
  refine v_aload_n C dX9_restore_0 rfl rfl ?_
  refine v_iconst (v := 0) C dX9_restore_1 (by decide) ?_
  refine pf_X9_33 C dX9_restore_2 ?_
  refine v_aload_n C dX9_restore_5 rfl rfl ?_
  refine v_iload_n C dX9_restore_6 rfl rfl ?_
  refine v_i2l C dX9_restore_7 ?_
  refine v_lconst (v := (0 : Int64)) C dX9_restore_8 (by decide) ?_
  refine v_lconst (v := (1 : Int64)) C dX9_restore_9 (by decide) ?_
  obtain ⟨r12, hc13, hf⟩ := bs_bind hf
  refine v_callSi (y := yX9_in) (As := [.long a1.toInt64, .long (0 : Int64), .long (1 : Int64)]) (rest := [.ref (ρ 14 0 0)]) C (cX9_in_ok  hc13) ml_X9_44 wzX9_in dpX9_in ⟨Nat.le_of_ble_eq_true rfl, Nat.le_of_ble_eq_true rfl⟩ ⟨rfl, rfl⟩ ⟨Nat.le_of_ble_eq_true rfl, Nat.le_of_ble_eq_true rfl⟩ rfl (Nat.le_of_ble_eq_true rfl) dX9_restore_10 ?_
  refine v_if_ne (tgt := 20) C dX9_restore_13 (by decide) (fun h14 => ?_) (fun h14 => ?_)
  · replace hf := bs_neg h14 hf
    refine v_iconst (v := 0) C dX9_restore_20 (by decide) ?_
    refine v_sub [0, 1] rfl ?_
    exact wX9_restore_21   C  _ _ _  hf
  · replace hf := bs_pos h14 hf
    refine v_iconst (v := 1) C dX9_restore_16 (by decide) ?_
    refine v_goto (tgt := 21) C dX9_restore_17 (by decide) ?_
    refine v_sub [0, 1] rfl ?_
    exact wX9_restore_21   C  _ _ _  hf
