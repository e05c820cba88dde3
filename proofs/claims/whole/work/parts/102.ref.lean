theorem ml_X9_272 : Cond.methodLink RX9 272 yX9_isOn ∈ bsG := bsG_in 1713 (by decide +kernel) rfl
theorem ml_X9_275 : Cond.methodLink RX9 275 yX9_hurt ∈ bsG := bsG_in 1717 (by decide +kernel) rfl
theorem ml_X9_280 : Cond.methodLink RX9 280 yX9_laysAside ∈ bsG := bsG_in 1771 (by decide +kernel) rfl
theorem ml_X9_283 : Cond.methodLink RX9 283 yX9_ticksAll ∈ bsG := bsG_in 1775 (by decide +kernel) rfl
theorem ml_X9_286 : Cond.methodLink RX9 286 yX9_back ∈ bsG := bsG_in 1823 (by decide +kernel) rfl
theorem ml_X9_289 : Cond.methodLink RX9 289 yX9_noTicks ∈ bsG := bsG_in 1762 (by decide +kernel) rfl
theorem ml_X9_292 : Cond.methodLink RX9 292 yX9_numberIn ∈ bsG := bsG_in 1767 (by decide +kernel) rfl
theorem ml_X9_295 : Cond.methodLink RX9 295 yX9_rescueNow ∈ bsG := bsG_in 1843 (by decide +kernel) rfl
theorem ml_X9_298 : Cond.methodLink RX9 298 yX9_goodNow ∈ bsG := bsG_in 1851 (by decide +kernel) rfl
theorem ml_X9_301 : Cond.methodLink RX9 301 yX9_calmNow ∈ bsG := bsG_in 1859 (by decide +kernel) rfl
theorem ml_X9_304 : Cond.methodLink RX9 304 yX9_newerNow ∈ bsG := bsG_in 1879 (by decide +kernel) rfl
theorem ml_X9_309 : Cond.methodLink RX9 309 yX9_empties ∈ bsG := bsG_in 1888 (by decide +kernel) rfl
theorem ml_X9_312 : Cond.methodLink RX9 312 yX9_settles ∈ bsG := bsG_in 1892 (by decide +kernel) rfl
theorem dpX9_back : (parseMethodDescriptor yX9_back.desc).map (fun d => d.parameters.length) = some 1 := by decide +kernel
theorem wyX9_back : bsWy yX9_back cX9_back 2 (some .int) := ⟨bsG_in 1825 (by decide +kernel) rfl, bsG_in 85 (by decide +kernel) rfl, bsG_in 111 (by decide +kernel) rfl, bsG_in 1826 (by decide +kernel) rfl, by decide +kernel, by decide +kernel⟩
theorem dpX9_calmNow : (parseMethodDescriptor yX9_calmNow.desc).map (fun d => d.parameters.length) = some 0 := by decide +kernel
theorem wyX9_calmNow : bsWy yX9_calmNow cX9_calmNow 4 (some .int) := ⟨bsG_in 1861 (by decide +kernel) rfl, bsG_in 88 (by decide +kernel) rfl, bsG_in 111 (by decide +kernel) rfl, bsG_in 1862 (by decide +kernel) rfl, by decide +kernel, by decide +kernel⟩
theorem dpX9_empties : (parseMethodDescriptor yX9_empties.desc).map (fun d => d.parameters.length) = some 1 := by decide +kernel
theorem wyX9_empties : bsWy yX9_empties cX9_empties 3 none := ⟨bsG_in 1890 (by decide +kernel) rfl, bsG_in 90 (by decide +kernel) rfl, bsG_in 111 (by decide +kernel) rfl, bsG_in 1891 (by decide +kernel) rfl, by decide +kernel, by decide +kernel⟩
theorem dpX9_goodNow : (parseMethodDescriptor yX9_goodNow.desc).map (fun d => d.parameters.length) = some 1 := by decide +kernel
theorem wyX9_goodNow : bsWy yX9_goodNow cX9_goodNow 3 (some .int) := ⟨bsG_in 1853 (by decide +kernel) rfl, bsG_in 87 (by decide +kernel) rfl, bsG_in 111 (by decide +kernel) rfl, bsG_in 1854 (by decide +kernel) rfl, by decide +kernel, by decide +kernel⟩
theorem dpX9_hurt : (parseMethodDescriptor yX9_hurt.desc).map (fun d => d.parameters.length) = some 1 := by decide +kernel
theorem wyX9_hurt : bsWy yX9_hurt cX9_hurt 2 (some .int) := ⟨bsG_in 1719 (by decide +kernel) rfl, bsG_in 68 (by decide +kernel) rfl, bsG_in 111 (by decide +kernel) rfl, bsG_in 1720 (by decide +kernel) rfl, by decide +kernel, by decide +kernel⟩
theorem dpX9_isOn : (parseMethodDescriptor yX9_isOn.desc).map (fun d => d.parameters.length) = some 1 := by decide +kernel
theorem wyX9_isOn : bsWy yX9_isOn cX9_isOn 2 (some .boolean) := ⟨bsG_in 1715 (by decide +kernel) rfl, bsG_in 67 (by decide +kernel) rfl, bsG_in 111 (by decide +kernel) rfl, bsG_in 1716 (by decide +kernel) rfl, by decide +kernel, by decide +kernel⟩
theorem dpX9_laysAside : (parseMethodDescriptor yX9_laysAside.desc).map (fun d => d.parameters.length) = some 0 := by decide +kernel
theorem wyX9_laysAside : bsWy yX9_laysAside cX9_laysAside 1 none := ⟨bsG_in 1773 (by decide +kernel) rfl, bsG_in 72 (by decide +kernel) rfl, bsG_in 111 (by decide +kernel) rfl, bsG_in 1774 (by decide +kernel) rfl, by decide +kernel, by decide +kernel⟩
theorem dpX9_newerNow : (parseMethodDescriptor yX9_newerNow.desc).map (fun d => d.parameters.length) = some 1 := by decide +kernel
theorem wyX9_newerNow : bsWy yX9_newerNow cX9_newerNow 3 (some .int) := ⟨bsG_in 1881 (by decide +kernel) rfl, bsG_in 89 (by decide +kernel) rfl, bsG_in 111 (by decide +kernel) rfl, bsG_in 1882 (by decide +kernel) rfl, by decide +kernel, by decide +kernel⟩
theorem dpX9_noTicks : (parseMethodDescriptor yX9_noTicks.desc).map (fun d => d.parameters.length) = some 2 := by decide +kernel
theorem wyX9_noTicks : bsWy yX9_noTicks cX9_noTicks 3 (some .boolean) := ⟨bsG_in 1764 (by decide +kernel) rfl, bsG_in 70 (by decide +kernel) rfl, bsG_in 111 (by decide +kernel) rfl, bsG_in 1765 (by decide +kernel) rfl, by decide +kernel, by decide +kernel⟩
theorem dpX9_numberIn : (parseMethodDescriptor yX9_numberIn.desc).map (fun d => d.parameters.length) = some 2 := by decide +kernel
theorem wyX9_numberIn : bsWy yX9_numberIn cX9_numberIn 3 (some .int) := ⟨bsG_in 1769 (by decide +kernel) rfl, bsG_in 71 (by decide +kernel) rfl, bsG_in 111 (by decide +kernel) rfl, bsG_in 1770 (by decide +kernel) rfl, by decide +kernel, by decide +kernel⟩
theorem dpX9_rescueNow : (parseMethodDescriptor yX9_rescueNow.desc).map (fun d => d.parameters.length) = some 0 := by decide +kernel
theorem wyX9_rescueNow : bsWy yX9_rescueNow cX9_rescueNow 2 (some .int) := ⟨bsG_in 1845 (by decide +kernel) rfl, bsG_in 86 (by decide +kernel) rfl, bsG_in 111 (by decide +kernel) rfl, bsG_in 1846 (by decide +kernel) rfl, by decide +kernel, by decide +kernel⟩
theorem dpX9_settles : (parseMethodDescriptor yX9_settles.desc).map (fun d => d.parameters.length) = some 0 := by decide +kernel
theorem wyX9_settles : bsWy yX9_settles cX9_settles 2 (some .int) := ⟨bsG_in 1894 (by decide +kernel) rfl, bsG_in 91 (by decide +kernel) rfl, bsG_in 111 (by decide +kernel) rfl, bsG_in 1895 (by decide +kernel) rfl, by decide +kernel, by decide +kernel⟩
theorem dpX9_ticksAll : (parseMethodDescriptor yX9_ticksAll.desc).map (fun d => d.parameters.length) = some 1 := by decide +kernel
theorem wyX9_ticksAll : bsWy yX9_ticksAll cX9_ticksAll 3 none := ⟨bsG_in 1777 (by decide +kernel) rfl, bsG_in 73 (by decide +kernel) rfl, bsG_in 111 (by decide +kernel) rfl, bsG_in 1778 (by decide +kernel) rfl, by decide +kernel, by decide +kernel⟩
/-! BootSlotsModel.hurt(I)I -/
def fX9_hurt (a1 : Int32) (X : bsX) : Option (Int32 × bsX) := (fX9_has  a1 X).bind fun r1 => if r1.1 = 0 then (some ((0 : Int32), r1.2)) else ((fX9_canBoot  a1 r1.2).bind fun r3 => if r3.1 = 0 then (some ((1 : Int32), r3.2)) else ((fX9_placeOf  a1 r3.2).bind fun r5 => some (((8 : Int32) - r5.1), r5.2)))
abbrev rmX9_hurt : Room := { frames := 5, cells := 0, slots := 0, locals := 108 }
set_option maxHeartbeats 4000000 in
set_option maxRecDepth 100000 in
theorem cX9_hurt_ok {l : Launch} {ρ : bsR} {cA : Nat → ClassId} {dC : Nat → ClassId} {dI : Nat → Nat → Nat} {Rz : va_W}  {a1 : Int32} {X : bsX} {z : (Int32 × bsX)} (hf : fX9_hurt a1 X = some z) : bsMi l yX9_hurt cX9_hurt 2 (some .int) rmX9_hurt ρ cA dC dI Rz [.ref (ρ 14 0 0), .int a1] X z := by
  refine bsMi_of (by decide) (Nat.le_of_ble_eq_true rfl) (fun p e s m args below meth c C => ?_)
  have C : bsCx p m c cX9_hurt 2 s args (Cond.code yX9_hurt cX9_hurt 2 (some .int) :: bsG) RX9 ρ cA dC dI Rz meth (some .int) := C
  rw [fX9_hurt] at hf
  refine v_sub [0, 1] rfl ?_
  refine v_aload_n C dX9_hurt_0 rfl rfl ?_
  refine v_iload_n C dX9_hurt_1 rfl rfl ?_
  obtain ⟨r1, hc2, hf⟩ := bs_bind hf
  refine v_callVi (y := yX9_has) (As := [.int a1]) (rest := []) C (cX9_has_ok  hc2) ml_X9_60 wyX9_has (bsm_X9) (bsc_X9) rfl dpX9_has ⟨Nat.le_of_ble_eq_true rfl, Nat.le_of_ble_eq_true rfl⟩ ⟨rfl, rfl⟩ ⟨Nat.le_of_ble_eq_true rfl, Nat.le_of_ble_eq_true rfl⟩ rfl (Nat.le_of_ble_eq_true rfl) dX9_hurt_2 ?_
  refine v_if_ne (tgt := 12) C dX9_hurt_5 (by decide) (fun h8 => ?_) (fun h8 => ?_)
  · replace hf := bs_neg h8 hf
    refine v_aload_n C dX9_hurt_12 rfl rfl ?_
    refine v_iload_n C dX9_hurt_13 rfl rfl ?_
    obtain ⟨r3, hc4, hf⟩ := bs_bind hf
    refine v_callVi (y := yX9_canBoot) (As := [.int a1]) (rest := []) C (cX9_canBoot_ok  hc4) ml_X9_70 wyX9_canBoot (bsm_X9) (bsc_X9) rfl dpX9_canBoot ⟨Nat.le_of_ble_eq_true rfl, Nat.le_of_ble_eq_true rfl⟩ ⟨rfl, rfl⟩ ⟨Nat.le_of_ble_eq_true rfl, Nat.le_of_ble_eq_true rfl⟩ rfl (Nat.le_of_ble_eq_true rfl) dX9_hurt_14 ?_
    refine v_if_ne (tgt := 24) C dX9_hurt_17 (by decide) (fun h7 => ?_) (fun h7 => ?_)
    · replace hf := bs_neg h7 hf
      refine v_bipush (v := 8) C dX9_hurt_24 (by decide) ?_
      refine v_aload_n C dX9_hurt_26 rfl rfl ?_
      refine v_iload_n C dX9_hurt_27 rfl rfl ?_
      obtain ⟨r5, hc6, hf⟩ := bs_bind hf
      refine v_callVi (y := yX9_placeOf) (As := [.int a1]) (rest := [.int (8 : Int32)]) C (cX9_placeOf_ok  hc6) ml_X9_269 wyX9_placeOf (bsm_X9) (bsc_X9) rfl dpX9_placeOf ⟨Nat.le_of_ble_eq_true rfl, Nat.le_of_ble_eq_true rfl⟩ ⟨rfl, rfl⟩ ⟨Nat.le_of_ble_eq_true rfl, Nat.le_of_ble_eq_true rfl⟩ rfl (Nat.le_of_ble_eq_true rfl) dX9_hurt_28 ?_
      refine v_isub C dX9_hurt_31 ?_
      exact v_iret C hf dX9_hurt_32
    · replace hf := bs_pos h7 hf
      refine v_iconst (v := 1) C dX9_hurt_20 (by decide) ?_
      refine v_goto (tgt := 32) C dX9_hurt_21 (by decide) ?_
      exact v_iret C hf dX9_hurt_32
  · replace hf := bs_pos h8 hf
    refine v_iconst (v := 0) C dX9_hurt_8 (by decide) ?_
    refine v_goto (tgt := 32) C dX9_hurt_9 (by decide) ?_
    exact v_iret C hf dX9_hurt_32
/-! BootSlotsModel.spare()I -/
def fX9_spare_62 (k13 : Int32 → Int32 → bsX → Option (Int32 × bsX)) (x1 : Int32) (x2 : Int32) (X : bsX) : Option (Int32 × bsX) := k13 x1 (x2 + (1 : Int32)) X
def fX9_spare_60 (k13 : Int32 → Int32 → bsX → Option (Int32 × bsX)) (x2 : Int32) (X : bsX) : Option (Int32 × bsX) := fX9_spare_62  k13 x2 x2 X
def fX9_spare_13 : Nat → Int32 → Int32 → bsX → Option (Int32 × bsX)
  | 0, _, _, _ => none
  | n + 1, x1, x2, X => if bsIn (0 : Int32) 160 then (if (X 14 1 0 (bsIx (0 : Int32))) ≤ x2 then (some (x1, X)) else ((fX9_isOn  x2 X).bind fun r2 => if r2.1 = 0 then (if bsIn (20 : Int32) 160 then (if (r2.2 14 1 0 (bsIx (20 : Int32))) = x2 then (fX9_spare_62  (fX9_spare_13  n) x1 x2 r2.2) else (if x1 = (-1 : Int32) then (fX9_spare_60  (fX9_spare_13  n) x2 r2.2) else ((fX9_hurt  x2 r2.2).bind fun r5 => (fX9_hurt  x1 r5.2).bind fun r7 => if r7.1 ≤ r5.1 then (fX9_spare_62  (fX9_spare_13  n) x1 x2 r7.2) else (fX9_spare_60  (fX9_spare_13  n) x2 r7.2)))) else none) else (fX9_spare_62  (fX9_spare_13  n) x1 x2 r2.2))) else none
def fX9_spare (X : bsX) : Option (Int32 × bsX) := (fX9_notLoaded   X).bind fun r14 => if r14.1 = 0 then (fX9_spare_13   bsF (-1 : Int32) (0 : Int32) r14.2) else (some ((0 : Int32), r14.2))
abbrev rmX9_spare : Room := { frames := 6, cells := 0, slots := 0, locals := 129 }
set_option maxHeartbeats 4000000 in
set_option maxRecDepth 100000 in
theorem wX9_spare_62 {p : Program} {l : Launch} {e : Env} {s : State} {m : MethodId} {args : Array Value} {below : List Frame} {meth : Method} {c : Code} {ρ : bsR} {cA : Nat → ClassId} {dC : Nat → ClassId} {dI : Nat → Nat → Nat} {Rz : va_W} {Ts : List Cond}  (k13 : Int32 → Int32 → bsX → Option (Int32 × bsX))  {z : (Int32 × bsX)} (C : bsCx p m c cX9_spare 3 s args Ts RX9 ρ cA dC dI Rz meth (some .int)) (hk13 : ∀ (x1 : Int32) (x2 : Int32) (X : bsX), k13 x1 x2 X = some z → bsV p l e rmX9_spare s m args below meth c 0 0 (MQ below (bsQi ρ cA dC dI Rz z s.heap.size) args s 0 0 (bsA ρ cA Rz s.heap.size)) ρ cA dC dI Rz 3 13 [(0, .ref (ρ 14 0 0)), (1, .int x1), (2, .int x2)] [] X)  (x1 : Int32) (x2 : Int32) (X : bsX) (hf : fX9_spare_62 k13 x1 x2 X = some z) : bsV p l e rmX9_spare s m args below meth c 0 0 (MQ below (bsQi ρ cA dC dI Rz z s.heap.size) args s 0 0 (bsA ρ cA Rz s.heap.size)) ρ cA dC dI Rz 3 62 [(0, .ref (ρ 14 0 0)), (1, .int x1), (2, .int x2)] [] X := by
  rw [fX9_spare_62] at hf
  refine v_iinc (k0 := 2) (v := (x2 + (1 : Int32))) (lv' := [(2, .int (x2 + (1 : Int32))), (0, .ref (ρ 14 0 0)), (1, .int x1)]) C dX9_spare_62 rfl rfl (by decide) rfl ?_
  refine v_goto (tgt := 13) C dX9_spare_65 (by decide) ?_
  refine v_sub [1, 2, 0] rfl ?_
  exact hk13 _ _ _  hf
set_option maxHeartbeats 4000000 in
set_option maxRecDepth 100000 in
theorem wX9_spare_60 {p : Program} {l : Launch} {e : Env} {s : State} {m : MethodId} {args : Array Value} {below : List Frame} {meth : Method} {c : Code} {ρ : bsR} {cA : Nat → ClassId} {dC : Nat → ClassId} {dI : Nat → Nat → Nat} {Rz : va_W} {Ts : List Cond}  (k13 : Int32 → Int32 → bsX → Option (Int32 × bsX))  {z : (Int32 × bsX)} (C : bsCx p m c cX9_spare 3 s args Ts RX9 ρ cA dC dI Rz meth (some .int)) (hk13 : ∀ (x1 : Int32) (x2 : Int32) (X : bsX), k13 x1 x2 X = some z → bsV p l e rmX9_spare s m args below meth c 0 0 (MQ below (bsQi ρ cA dC dI Rz z s.heap.size) args s 0 0 (bsA ρ cA Rz s.heap.size)) ρ cA dC dI Rz 3 13 [(0, .ref (ρ 14 0 0)), (1, .int x1), (2, .int x2)] [] X)  (x2 : Int32) (X : bsX) (hf : fX9_spare_60 k13 x2 X = some z) : bsV p l e rmX9_spare s m args below meth c 0 0 (MQ below (bsQi ρ cA dC dI Rz z s.heap.size) args s 0 0 (bsA ρ cA Rz s.heap.size)) ρ cA dC dI Rz 3 60 [(0, .ref (ρ 14 0 0)), (2, .int x2)] [] X := by
  rw [fX9_spare_60] at hf
  refine v_iload_n C dX9_spare_60 rfl rfl ?_
  refine v_istore_n (lv' := [(1, .int x2), (0, .ref (ρ 14 0 0)), (2, .int x2)]) C dX9_spare_61 rfl (by decide) rfl ?_
  refine v_sub [1, 0, 2] rfl ?_
  exact wX9_spare_62  k13 C hk13 _ _ _  hf
set_option maxHeartbeats 4000000 in
set_option maxRecDepth 100000 in
theorem wX9_spare_13 {p : Program} {l : Launch} {e : Env} {s : State} {m : MethodId} {args : Array Value} {below : List Frame} {meth : Method} {c : Code} {ρ : bsR} {cA : Nat → ClassId} {dC : Nat → ClassId} {dI : Nat → Nat → Nat} {Rz : va_W} {Ts : List Cond}   {z : (Int32 × bsX)} (C : bsCx p m c cX9_spare 3 s args Ts RX9 ρ cA dC dI Rz meth (some .int)) : ∀ (n : Nat) (x1 : Int32) (x2 : Int32) (X : bsX), fX9_spare_13  n x1 x2 X = some z → bsV p l e rmX9_spare s m args below meth c 0 0 (MQ below (bsQi ρ cA dC dI Rz z s.heap.size) args s 0 0 (bsA ρ cA Rz s.heap.size)) ρ cA dC dI Rz 3 13 [(0, .ref (ρ 14 0 0)), (1, .int x1), (2, .int x2)] [] X := by
  intro n
  induction n with
  | zero => intro x1 x2 X hf; exact (nomatch hf)
  | succ n ih =>
    intro x1 x2 X hf
    rw [fX9_spare_13] at hf
    refine v_iload_n C dX9_spare_13 rfl rfl ?_
    refine v_aload_n C dX9_spare_14 rfl rfl ?_
    refine gf_X9_7 C dX9_spare_15 ?_
    refine v_iconst (v := 0) C dX9_spare_18 (by decide) ?_
    obtain ⟨hi1, hf⟩ := bs_if hf
    refine v_iald (n := 160) C bsm_14_1 bsc_14_1 hi1 dX9_spare_19 ?_
    refine v_icmp_ge (tgt := 68) C dX9_spare_20 (by decide) (fun h13 => ?_) (fun h13 => ?_)
    · replace hf := bs_pos h13 hf
      refine v_iload_n C dX9_spare_68 rfl rfl ?_
      exact v_iret C hf dX9_spare_69
    · replace hf := bs_neg h13 hf
      refine v_aload_n C dX9_spare_23 rfl rfl ?_
      refine v_iload_n C dX9_spare_24 rfl rfl ?_
      obtain ⟨r2, hc3, hf⟩ := bs_bind hf
      refine v_callVi (y := yX9_isOn) (As := [.int x2]) (rest := []) C (cX9_isOn_ok  hc3) ml_X9_272 wyX9_isOn (bsm_X9) (bsc_X9) rfl dpX9_isOn ⟨Nat.le_of_ble_eq_true rfl, Nat.le_of_ble_eq_true rfl⟩ ⟨rfl, rfl⟩ ⟨Nat.le_of_ble_eq_true rfl, Nat.le_of_ble_eq_true rfl⟩ rfl (Nat.le_of_ble_eq_true rfl) dX9_spare_25 ?_
      refine v_if_ne (tgt := 62) C dX9_spare_28 (by decide) (fun h12 => ?_) (fun h12 => ?_)
      · replace hf := bs_neg h12 hf
        refine v_sub [0, 1, 2] rfl ?_
        exact wX9_spare_62  (fX9_spare_13  n) C (fun b0 b1 X  h => ih b0 b1 X  h) _ _ _  hf
      · replace hf := bs_pos h12 hf
        refine v_aload_n C dX9_spare_31 rfl rfl ?_
        refine gf_X9_7 C dX9_spare_32 ?_
        refine v_bipush (v := 20) C dX9_spare_35 (by decide) ?_
        obtain ⟨hi4, hf⟩ := bs_if hf
        refine v_iald (n := 160) C bsm_14_1 bsc_14_1 hi4 dX9_spare_37 ?_
        refine v_iload_n C dX9_spare_38 rfl rfl ?_
        refine v_icmp_eq (tgt := 62) C dX9_spare_39 (by decide) (fun h11 => ?_) (fun h11 => ?_)
        · replace hf := bs_pos h11 hf
          refine v_sub [0, 1, 2] rfl ?_
          exact wX9_spare_62  (fX9_spare_13  n) C (fun b0 b1 X  h => ih b0 b1 X  h) _ _ _  hf
        · replace hf := bs_neg h11 hf
          refine v_iload_n C dX9_spare_42 rfl rfl ?_
          refine v_iconst (v := -1) C dX9_spare_43 (by decide) ?_
          refine v_icmp_eq (tgt := 60) C dX9_spare_44 (by decide) (fun h10 => ?_) (fun h10 => ?_)
          · replace hf := bs_pos h10 hf
            refine v_sub [0, 2] rfl ?_
            exact wX9_spare_60  (fX9_spare_13  n) C (fun b0 b1 X  h => ih b0 b1 X  h) _ _  hf
          · replace hf := bs_neg h10 hf
            refine v_aload_n C dX9_spare_47 rfl rfl ?_
            refine v_iload_n C dX9_spare_48 rfl rfl ?_
            obtain ⟨r5, hc6, hf⟩ := bs_bind hf
            refine v_callVi (y := yX9_hurt) (As := [.int x2]) (rest := []) C (cX9_hurt_ok  hc6) ml_X9_275 wyX9_hurt (bsm_X9) (bsc_X9) rfl dpX9_hurt ⟨Nat.le_of_ble_eq_true rfl, Nat.le_of_ble_eq_true rfl⟩ ⟨rfl, rfl⟩ ⟨Nat.le_of_ble_eq_true rfl, Nat.le_of_ble_eq_true rfl⟩ rfl (Nat.le_of_ble_eq_true rfl) dX9_spare_49 ?_
            refine v_aload_n C dX9_spare_52 rfl rfl ?_
            refine v_iload_n C dX9_spare_53 rfl rfl ?_
            obtain ⟨r7, hc8, hf⟩ := bs_bind hf
            refine v_callVi (y := yX9_hurt) (As := [.int x1]) (rest := [.int r5.1]) C (cX9_hurt_ok  hc8) ml_X9_275 wyX9_hurt (bsm_X9) (bsc_X9) rfl dpX9_hurt ⟨Nat.le_of_ble_eq_true rfl, Nat.le_of_ble_eq_true rfl⟩ ⟨rfl, rfl⟩ ⟨Nat.le_of_ble_eq_true rfl, Nat.le_of_ble_eq_true rfl⟩ rfl (Nat.le_of_ble_eq_true rfl) dX9_spare_54 ?_
            refine v_icmp_ge (tgt := 62) C dX9_spare_57 (by decide) (fun h9 => ?_) (fun h9 => ?_)
            · replace hf := bs_pos h9 hf
              refine v_sub [0, 1, 2] rfl ?_
              exact wX9_spare_62  (fX9_spare_13  n) C (fun b0 b1 X  h => ih b0 b1 X  h) _ _ _  hf
            · replace hf := bs_neg h9 hf
              refine v_sub [0, 2] rfl ?_
              exact wX9_spare_60  (fX9_spare_13  n) C (fun b0 b1 X  h => ih b0 b1 X  h) _ _  hf
set_option maxHeartbeats 4000000 in
set_option maxRecDepth 100000 in
theorem cX9_spare_ok {l : Launch} {ρ : bsR} {cA : Nat → ClassId} {dC : Nat → ClassId} {dI : Nat → Nat → Nat} {Rz : va_W}  {X : bsX} {z : (Int32 × bsX)} (hf : fX9_spare  X = some z) : bsMi l yX9_spare cX9_spare 3 (some .int) rmX9_spare ρ cA dC dI Rz [.ref (ρ 14 0 0)] X z := by
  refine bsMi_of (by decide) (Nat.le_of_ble_eq_true rfl) (fun p e s m args below meth c C => ?_)
  have C : bsCx p m c cX9_spare 3 s args (Cond.code yX9_spare cX9_spare 3 (some .int) :: bsG) RX9 ρ cA dC dI Rz meth (some .int) := C
  rw [fX9_spare] at hf
  refine v_sub [0] rfl ?_
  refine v_aload_n C dX9_spare_0 rfl rfl ?_
  obtain ⟨r14, hc15, hf⟩ := bs_bind hf
  refine v_callVi (y := yX9_notLoaded) (As := []) (rest := []) C (cX9_notLoaded_ok  hc15) ml_X9_48 wyX9_notLoaded (bsm_X9) (bsc_X9) rfl dpX9_notLoaded ⟨Nat.le_of_ble_eq_true rfl, Nat.le_of_ble_eq_true rfl⟩ ⟨rfl, rfl⟩ ⟨Nat.le_of_ble_eq_true rfl, Nat.le_of_ble_eq_true rfl⟩ rfl (Nat.le_of_ble_eq_true rfl) dX9_spare_1 ?_
  refine v_if_eq (tgt := 9) C dX9_spare_4 (by decide) (fun h16 => ?_) (fun h16 => ?_)
  · replace hf := bs_pos h16 hf
    refine v_iconst (v := -1) C dX9_spare_9 (by decide) ?_
    refine v_istore_n (lv' := [(1, .int (-1 : Int32)), (0, .ref (ρ 14 0 0))]) C dX9_spare_10 rfl (by decide) rfl ?_
    refine v_iconst (v := 0) C dX9_spare_11 (by decide) ?_
    refine v_istore_n (lv' := [(2, .int (0 : Int32)), (1, .int (-1 : Int32)), (0, .ref (ρ 14 0 0))]) C dX9_spare_12 rfl (by decide) rfl ?_
    refine v_sub [2, 1, 0] rfl ?_
    exact wX9_spare_13   C  bsF _ _ _  hf
  · replace hf := bs_neg h16 hf
    refine v_iconst (v := 0) C dX9_spare_7 (by decide) ?_
    exact v_iret C hf dX9_spare_8
/-! BootSlotsModel.sinking()I -/
def fX9_sinking_53 (k13 : Int32 → Int32 → bsX → Option (Int32 × bsX)) (x2 : Int32) (y0 : Int32) (y1 : Int32) (X : bsX) : Option (Int32 × bsX) := (fX9_flag  y1 X).bind fun r1 => k13 (y0 ||| (r1.1 <<< (x2 &&& 31))) (x2 + (1 : Int32)) r1.2
def fX9_sinking_52 (k13 : Int32 → Int32 → bsX → Option (Int32 × bsX)) (x2 : Int32) (y0 : Int32) (X : bsX) : Option (Int32 × bsX) := fX9_sinking_53  k13 x2 y0 (0 : Int32) X
def fX9_sinking_13 : Nat → Int32 → Int32 → bsX → Option (Int32 × bsX)
  | 0, _, _, _ => none
  | n + 1, x1, x2, X => if bsIn (0 : Int32) 160 then (if (X 14 1 0 (bsIx (0 : Int32))) ≤ x2 then (some (x1, X)) else ((fX9_has  x2 X).bind fun r4 => if r4.1 = 0 then (fX9_sinking_52  (fX9_sinking_13  n) x2 x1 r4.2) else ((fX9_of  x2 (8 : Int32) r4.2).bind fun r6 => if bsIn (5 : Int32) 160 then (if (r6.2 14 1 0 (bsIx (5 : Int32))) ≤ r6.1 then (fX9_sinking_52  (fX9_sinking_13  n) x2 x1 r6.2) else (fX9_sinking_53  (fX9_sinking_13  n) x2 x1 (1 : Int32) r6.2)) else none))) else none
def fX9_sinking (X : bsX) : Option (Int32 × bsX) := (fX9_notLoaded   X).bind fun r12 => if r12.1 = 0 then (fX9_sinking_13   bsF (0 : Int32) (0 : Int32) r12.2) else (some ((0 : Int32), r12.2))
abbrev rmX9_sinking : Room := { frames := 2, cells := 0, slots := 0, locals := 43 }
set_option maxHeartbeats 4000000 in
set_option maxRecDepth 100000 in
theorem wX9_sinking_53 {p : Program} {l : Launch} {e : Env} {s : State} {m : MethodId} {args : Array Value} {below : List Frame} {meth : Method} {c : Code} {ρ : bsR} {cA : Nat → ClassId} {dC : Nat → ClassId} {dI : Nat → Nat → Nat} {Rz : va_W} {Ts : List Cond}  (k13 : Int32 → Int32 → bsX → Option (Int32 × bsX))  {z : (Int32 × bsX)} (C : bsCx p m c cX9_sinking 3 s args Ts RX9 ρ cA dC dI Rz meth (some .int)) (hk13 : ∀ (x1 : Int32) (x2 : Int32) (X : bsX), k13 x1 x2 X = some z → bsV p l e rmX9_sinking s m args below meth c 0 0 (MQ below (bsQi ρ cA dC dI Rz z s.heap.size) args s 0 0 (bsA ρ cA Rz s.heap.size)) ρ cA dC dI Rz 3 13 [(0, .ref (ρ 14 0 0)), (1, .int x1), (2, .int x2)] [] X)  (x2 : Int32) (y0 : Int32) (y1 : Int32) (X : bsX) (hf : fX9_sinking_53 k13 x2 y0 y1 X = some z) : bsV p l e rmX9_sinking s m args below meth c 0 0 (MQ below (bsQi ρ cA dC dI Rz z s.heap.size) args s 0 0 (bsA ρ cA Rz s.heap.size)) ρ cA dC dI Rz 3 53 [(0, .ref (ρ 14 0 0)), (2, .int x2)] [.int y1, .int y0] X := by
  rw [fX9_sinking_53] at hf
  obtain ⟨r1, hc2, hf⟩ := bs_bind hf
  refine v_callSi (y := yX9_flag) (As := [.int y1]) (rest := [.int y0]) C (cX9_flag_ok  hc2) ml_X9_113 wzX9_flag dpX9_flag ⟨Nat.le_of_ble_eq_true rfl, Nat.le_of_ble_eq_true rfl⟩ ⟨rfl, rfl⟩ ⟨Nat.le_of_ble_eq_true rfl, Nat.le_of_ble_eq_true rfl⟩ rfl (Nat.le_of_ble_eq_true rfl) dX9_sinking_53 ?_
  refine v_iload_n C dX9_sinking_56 rfl rfl ?_
  refine v_ishl C dX9_sinking_57 ?_
  refine v_ior C dX9_sinking_58 ?_
  refine v_istore_n (lv' := [(1, .int (y0 ||| (r1.1 <<< (x2 &&& 31)))), (0, .ref (ρ 14 0 0)), (2, .int x2)]) C dX9_sinking_59 rfl (by decide) rfl ?_
  refine v_iinc (k0 := 2) (v := (x2 + (1 : Int32))) (lv' := [(2, .int (x2 + (1 : Int32))), (1, .int (y0 ||| (r1.1 <<< (x2 &&& 31)))), (0, .ref (ρ 14 0 0))]) C dX9_sinking_60 rfl rfl (by decide) rfl ?_
  refine v_goto (tgt := 13) C dX9_sinking_63 (by decide) ?_
  refine v_sub [2, 1, 0] rfl ?_
  exact hk13 _ _ _  hf
set_option maxHeartbeats 4000000 in
set_option maxRecDepth 100000 in
theorem wX9_sinking_52 {p : Program} {l : Launch} {e : Env} {s : State} {m : MethodId} {args : Array Value} {below : List Frame} {meth : Method} {c : Code} {ρ : bsR} {cA : Nat → ClassId} {dC : Nat → ClassId} {dI : Nat → Nat → Nat} {Rz : va_W} {Ts : List Cond}  (k13 : Int32 → Int32 → bsX → Option (Int32 × bsX))  {z : (Int32 × bsX)} (C : bsCx p m c cX9_sinking 3 s args Ts RX9 ρ cA dC dI Rz meth (some .int)) (hk13 : ∀ (x1 : Int32) (x2 : Int32) (X : bsX), k13 x1 x2 X = some z → bsV p l e rmX9_sinking s m args below meth c 0 0 (MQ below (bsQi ρ cA dC dI Rz z s.heap.size) args s 0 0 (bsA ρ cA Rz s.heap.size)) ρ cA dC dI Rz 3 13 [(0, .ref (ρ 14 0 0)), (1, .int x1), (2, .int x2)] [] X)  (x2 : Int32) (y0 : Int32) (X : bsX) (hf : fX9_sinking_52 k13 x2 y0 X = some z) : bsV p l e rmX9_sinking s m args below meth c 0 0 (MQ below (bsQi ρ cA dC dI Rz z s.heap.size) args s 0 0 (bsA ρ cA Rz s.heap.size)) ρ cA dC dI Rz 3 52 [(0, .ref (ρ 14 0 0)), (2, .int x2)] [.int y0] X := by
  rw [fX9_sinking_52] at hf
  refine v_iconst (v := 0) C dX9_sinking_52 (by decide) ?_
  refine v_sub [0, 1] rfl ?_
  exact wX9_sinking_53  k13 C hk13 _ _ _ _  hf
set_option maxHeartbeats 4000000 in
set_option maxRecDepth 100000 in
theorem wX9_sinking_13 {p : Program} {l : Launch} {e : Env} {s : State} {m : MethodId} {args : Array Value} {below : List Frame} {meth : Method} {c : Code} {ρ : bsR} {cA : Nat → ClassId} {dC : Nat → ClassId} {dI : Nat → Nat → Nat} {Rz : va_W} {Ts : List Cond}   {z : (Int32 × bsX)} (C : bsCx p m c cX9_sinking 3 s args Ts RX9 ρ cA dC dI Rz meth (some .int)) : ∀ (n : Nat) (x1 : Int32) (x2 : Int32) (X : bsX), fX9_sinking_13  n x1 x2 X = some z → bsV p l e rmX9_sinking s m args below meth c 0 0 (MQ below (bsQi ρ cA dC dI Rz z s.heap.size) args s 0 0 (bsA ρ cA Rz s.heap.size)) ρ cA dC dI Rz 3 13 [(0, .ref (ρ 14 0 0)), (1, .int x1), (2, .int x2)] [] X := by
  intro n
  induction n with
  | zero => intro x1 x2 X hf; exact (nomatch hf)
  | succ n ih =>
    intro x1 x2 X hf
    rw [fX9_sinking_13] at hf
    refine v_iload_n C dX9_sinking_13 rfl rfl ?_
    refine v_aload_n C dX9_sinking_14 rfl rfl ?_
    refine gf_X9_7 C dX9_sinking_15 ?_
    refine v_iconst (v := 0) C dX9_sinking_18 (by decide) ?_
    obtain ⟨hi3, hf⟩ := bs_if hf
    refine v_iald (n := 160) C bsm_14_1 bsc_14_1 hi3 dX9_sinking_19 ?_
    refine v_icmp_ge (tgt := 66) C dX9_sinking_20 (by decide) (fun h11 => ?_) (fun h11 => ?_)
    · replace hf := bs_pos h11 hf
      refine v_iload_n C dX9_sinking_66 rfl rfl ?_
      exact v_iret C hf dX9_sinking_67
    · replace hf := bs_neg h11 hf
      refine v_iload_n C dX9_sinking_23 rfl rfl ?_
      refine v_aload_n C dX9_sinking_24 rfl rfl ?_
      refine v_iload_n C dX9_sinking_25 rfl rfl ?_
      obtain ⟨r4, hc5, hf⟩ := bs_bind hf
      refine v_callVi (y := yX9_has) (As := [.int x2]) (rest := [.int x1]) C (cX9_has_ok  hc5) ml_X9_60 wyX9_has (bsm_X9) (bsc_X9) rfl dpX9_has ⟨Nat.le_of_ble_eq_true rfl, Nat.le_of_ble_eq_true rfl⟩ ⟨rfl, rfl⟩ ⟨Nat.le_of_ble_eq_true rfl, Nat.le_of_ble_eq_true rfl⟩ rfl (Nat.le_of_ble_eq_true rfl) dX9_sinking_26 ?_
      refine v_if_eq (tgt := 52) C dX9_sinking_29 (by decide) (fun h10 => ?_) (fun h10 => ?_)
      · replace hf := bs_pos h10 hf
        refine v_sub [0, 2] rfl ?_
        exact wX9_sinking_52  (fX9_sinking_13  n) C (fun b0 b1 X  h => ih b0 b1 X  h) _ _ _  hf
      · replace hf := bs_neg h10 hf
        refine v_aload_n C dX9_sinking_32 rfl rfl ?_
        refine v_iload_n C dX9_sinking_33 rfl rfl ?_
        refine v_bipush (v := 8) C dX9_sinking_34 (by decide) ?_
        obtain ⟨r6, hc7, hf⟩ := bs_bind hf
        refine v_callVi (y := yX9_of) (As := [.int x2, .int (8 : Int32)]) (rest := [.int x1]) C (cX9_of_ok  hc7) ml_X9_56 wyX9_of (bsm_X9) (bsc_X9) rfl dpX9_of ⟨Nat.le_of_ble_eq_true rfl, Nat.le_of_ble_eq_true rfl⟩ ⟨rfl, rfl⟩ ⟨Nat.le_of_ble_eq_true rfl, Nat.le_of_ble_eq_true rfl⟩ rfl (Nat.le_of_ble_eq_true rfl) dX9_sinking_36 ?_
        refine v_aload_n C dX9_sinking_39 rfl rfl ?_
        refine gf_X9_7 C dX9_sinking_40 ?_
        refine v_iconst (v := 5) C dX9_sinking_43 (by decide) ?_
        obtain ⟨hi8, hf⟩ := bs_if hf
        refine v_iald (n := 160) C bsm_14_1 bsc_14_1 hi8 dX9_sinking_44 ?_
        refine v_icmp_ge (tgt := 52) C dX9_sinking_45 (by decide) (fun h9 => ?_) (fun h9 => ?_)
        · replace hf := bs_pos h9 hf
          refine v_sub [0, 2] rfl ?_
          exact wX9_sinking_52  (fX9_sinking_13  n) C (fun b0 b1 X  h => ih b0 b1 X  h) _ _ _  hf
        · replace hf := bs_neg h9 hf
          refine v_iconst (v := 1) C dX9_sinking_48 (by decide) ?_
          refine v_goto (tgt := 53) C dX9_sinking_49 (by decide) ?_
          refine v_sub [0, 2] rfl ?_
          exact wX9_sinking_53  (fX9_sinking_13  n) C (fun b0 b1 X  h => ih b0 b1 X  h) _ _ _ _  hf
set_option maxHeartbeats 4000000 in
set_option maxRecDepth 100000 in
theorem cX9_sinking_ok {l : Launch} {ρ : bsR} {cA : Nat → ClassId} {dC : Nat → ClassId} {dI : Nat → Nat → Nat} {Rz : va_W}  {X : bsX} {z : (Int32 × bsX)} (hf : fX9_sinking  X = some z) : bsMi l yX9_sinking cX9_sinking 3 (some .int) rmX9_sinking ρ cA dC dI Rz [.ref (ρ 14 0 0)] X z := by
  refine bsMi_of (by decide) (Nat.le_of_ble_eq_true rfl) (fun p e s m args below meth c C => ?_)
  have C : bsCx p m c cX9_sinking 3 s args (Cond.code yX9_sinking cX9_sinking 3 (some .int) :: bsG) RX9 ρ cA dC dI Rz meth (some .int) := C
  rw [fX9_sinking] at hf
  refine v_sub [0] rfl ?_
  refine v_aload_n C dX9_sinking_0 rfl rfl ?_
  obtain ⟨r12, hc13, hf⟩ := bs_bind hf
  refine v_callVi (y := yX9_notLoaded) (As := []) (rest := []) C (cX9_notLoaded_ok  hc13) ml_X9_48 wyX9_notLoaded (bsm_X9) (bsc_X9) rfl dpX9_notLoaded ⟨Nat.le_of_ble_eq_true rfl, Nat.le_of_ble_eq_true rfl⟩ ⟨rfl, rfl⟩ ⟨Nat.le_of_ble_eq_true rfl, Nat.le_of_ble_eq_true rfl⟩ rfl (Nat.le_of_ble_eq_true rfl) dX9_sinking_1 ?_
  refine v_if_eq (tgt := 9) C dX9_sinking_4 (by decide) (fun h14 => ?_) (fun h14 => ?_)
  · replace hf := bs_pos h14 hf
    refine v_iconst (v := 0) C dX9_sinking_9 (by decide) ?_
    refine v_istore_n (lv' := [(1, .int (0 : Int32)), (0, .ref (ρ 14 0 0))]) C dX9_sinking_10 rfl (by decide) rfl ?_
    refine v_iconst (v := 0) C dX9_sinking_11 (by decide) ?_
    refine v_istore_n (lv' := [(2, .int (0 : Int32)), (1, .int (0 : Int32)), (0, .ref (ρ 14 0 0))]) C dX9_sinking_12 rfl (by decide) rfl ?_
    refine v_sub [2, 1, 0] rfl ?_
    exact wX9_sinking_13   C  bsF _ _ _  hf
  · replace hf := bs_neg h14 hf
    refine v_iconst (v := 0) C dX9_sinking_7 (by decide) ?_
    exact v_iret C hf dX9_sinking_8
/-! BootSlotsModel.floorWith(I)I -/
def fX9_floorWith (a1 : Int32) (X : bsX) : Option (Int32 × bsX) := (fX9_noSlot  a1 X).bind fun r1 => if r1.1 = 0 then ((fX9_has  a1 r1.2).bind fun r3 => if r3.1 = 0 then (if bsIn (5 : Int32) 160 then (some ((r3.2 14 1 0 (bsIx (5 : Int32))), r3.2)) else none) else (if bsIn (5 : Int32) 160 then ((fX9_leastGood  a1 r3.2).bind fun r7 => some ((bsMax (r3.2 14 1 0 (bsIx (5 : Int32))) r7.1), r7.2)) else none)) else (some ((0 : Int32), r1.2))
abbrev rmX9_floorWith : Room := { frames := 3, cells := 0, slots := 0, locals := 67 }
set_option maxHeartbeats 4000000 in
set_option maxRecDepth 100000 in
theorem cX9_floorWith_ok {l : Launch} {ρ : bsR} {cA : Nat → ClassId} {dC : Nat → ClassId} {dI : Nat → Nat → Nat} {Rz : va_W}  {a1 : Int32} {X : bsX} {z : (Int32 × bsX)} (hf : fX9_floorWith a1 X = some z) : bsMi l yX9_floorWith cX9_floorWith 2 (some .int) rmX9_floorWith ρ cA dC dI Rz [.ref (ρ 14 0 0), .int a1] X z := by
  refine bsMi_of (by decide) (Nat.le_of_ble_eq_true rfl) (fun p e s m args below meth c C => ?_)
  have C : bsCx p m c cX9_floorWith 2 s args (Cond.code yX9_floorWith cX9_floorWith 2 (some .int) :: bsG) RX9 ρ cA dC dI Rz meth (some .int) := C
  rw [fX9_floorWith] at hf
  refine v_sub [0, 1] rfl ?_
  refine v_aload_n C dX9_floorWith_0 rfl rfl ?_
  refine v_iload_n C dX9_floorWith_1 rfl rfl ?_
  obtain ⟨r1, hc2, hf⟩ := bs_bind hf
  refine v_callVi (y := yX9_noSlot) (As := [.int a1]) (rest := []) C (cX9_noSlot_ok  hc2) ml_X9_260 wyX9_noSlot (bsm_X9) (bsc_X9) rfl dpX9_noSlot ⟨Nat.le_of_ble_eq_true rfl, Nat.le_of_ble_eq_true rfl⟩ ⟨rfl, rfl⟩ ⟨Nat.le_of_ble_eq_true rfl, Nat.le_of_ble_eq_true rfl⟩ rfl (Nat.le_of_ble_eq_true rfl) dX9_floorWith_2 ?_
  refine v_if_eq (tgt := 10) C dX9_floorWith_5 (by decide) (fun h10 => ?_) (fun h10 => ?_)
  · replace hf := bs_pos h10 hf
    refine v_aload_n C dX9_floorWith_10 rfl rfl ?_
    refine v_iload_n C dX9_floorWith_11 rfl rfl ?_
    obtain ⟨r3, hc4, hf⟩ := bs_bind hf
    refine v_callVi (y := yX9_has) (As := [.int a1]) (rest := []) C (cX9_has_ok  hc4) ml_X9_60 wyX9_has (bsm_X9) (bsc_X9) rfl dpX9_has ⟨Nat.le_of_ble_eq_true rfl, Nat.le_of_ble_eq_true rfl⟩ ⟨rfl, rfl⟩ ⟨Nat.le_of_ble_eq_true rfl, Nat.le_of_ble_eq_true rfl⟩ rfl (Nat.le_of_ble_eq_true rfl) dX9_floorWith_12 ?_
    refine v_if_eq (tgt := 35) C dX9_floorWith_15 (by decide) (fun h9 => ?_) (fun h9 => ?_)
    · replace hf := bs_pos h9 hf
      refine v_aload_n C dX9_floorWith_35 rfl rfl ?_
      refine gf_X9_7 C dX9_floorWith_36 ?_
      refine v_iconst (v := 5) C dX9_floorWith_39 (by decide) ?_
      obtain ⟨hi5, hf⟩ := bs_if hf
      refine v_iald (n := 160) C bsm_14_1 bsc_14_1 hi5 dX9_floorWith_40 ?_
      exact v_iret C hf dX9_floorWith_41
    · replace hf := bs_neg h9 hf
      refine v_aload_n C dX9_floorWith_18 rfl rfl ?_
      refine gf_X9_7 C dX9_floorWith_19 ?_
      refine v_iconst (v := 5) C dX9_floorWith_22 (by decide) ?_
      obtain ⟨hi6, hf⟩ := bs_if hf
      refine v_iald (n := 160) C bsm_14_1 bsc_14_1 hi6 dX9_floorWith_23 ?_
      refine v_aload_n C dX9_floorWith_24 rfl rfl ?_
      refine v_iload_n C dX9_floorWith_25 rfl rfl ?_
      obtain ⟨r7, hc8, hf⟩ := bs_bind hf
      refine v_callVi (y := yX9_leastGood) (As := [.int a1]) (rest := [.int (r3.2 14 1 0 (bsIx (5 : Int32)))]) C (cX9_leastGood_ok  hc8) ml_X9_95 wyX9_leastGood (bsm_X9) (bsc_X9) rfl dpX9_leastGood ⟨Nat.le_of_ble_eq_true rfl, Nat.le_of_ble_eq_true rfl⟩ ⟨rfl, rfl⟩ ⟨Nat.le_of_ble_eq_true rfl, Nat.le_of_ble_eq_true rfl⟩ rfl (Nat.le_of_ble_eq_true rfl) dX9_floorWith_26 ?_
      refine v_mmax C (Nat.le_of_ble_eq_true rfl) (Nat.le_of_ble_eq_true rfl) (Nat.le_of_ble_eq_true rfl) (Nat.le_of_ble_eq_true rfl) (mm_X9_98) dX9_floorWith_29 ?_
      refine v_goto (tgt := 41) C dX9_floorWith_32 (by decide) ?_
      exact v_iret C hf dX9_floorWith_41
  · replace hf := bs_neg h10 hf
    refine v_iconst (v := 0) C dX9_floorWith_8 (by decide) ?_
    exact v_iret C hf dX9_floorWith_9
/-! BootSlotsModel.mayHold(I)Z -/
def fX9_mayHold_69 (X : bsX) : Option (Int32 × bsX) := some ((1 : Int32), X)
def fX9_mayHold_45 (x1 : Int32) (X : bsX) : Option (Int32 × bsX) := (fX9_isGood  x1 X).bind fun r1 => if r1.1 = 0 then ((fX9_of  x1 (9 : Int32) r1.2).bind fun r3 => if bsIn (2 : Int32) 160 then (if (r3.2 14 1 0 (bsIx (2 : Int32))) < r3.1 then (some ((0 : Int32), r3.2)) else (fX9_mayHold_69    r3.2)) else none) else (fX9_mayHold_69    r1.2)
def fX9_mayHold (a1 : Int32) (X : bsX) : Option (Int32 × bsX) := (fX9_noSlot  a1 X).bind fun r8 => if r8.1 = 0 then ((fX9_has  a1 r8.2).bind fun r10 => if r10.1 = 0 then (some ((0 : Int32), r10.2)) else ((fX9_of  a1 (10 : Int32) r10.2).bind fun r12 => if r12.1 = 0 then (fX9_mayHold_45   a1 r12.2) else ((fX9_of  a1 (10 : Int32) r12.2).bind fun r14 => (fX9_of  a1 (9 : Int32) r14.2).bind fun r16 => if r14.1 ≤ r16.1 then (some ((0 : Int32), r16.2)) else (fX9_mayHold_45   a1 r16.2)))) else (some ((0 : Int32), r8.2))
abbrev rmX9_mayHold : Room := { frames := 3, cells := 0, slots := 0, locals := 67 }
set_option maxHeartbeats 4000000 in
set_option maxRecDepth 100000 in
theorem wX9_mayHold_69 {p : Program} {l : Launch} {e : Env} {s : State} {m : MethodId} {args : Array Value} {below : List Frame} {meth : Method} {c : Code} {ρ : bsR} {cA : Nat → ClassId} {dC : Nat → ClassId} {dI : Nat → Nat → Nat} {Rz : va_W} {Ts : List Cond}   {z : (Int32 × bsX)} (C : bsCx p m c cX9_mayHold 2 s args Ts RX9 ρ cA dC dI Rz meth (some .boolean)) (X : bsX) (hf : fX9_mayHold_69  X = some z) : bsV p l e rmX9_mayHold s m args below meth c 0 0 (MQ below (bsQi ρ cA dC dI Rz z s.heap.size) args s 0 0 (bsA ρ cA Rz s.heap.size)) ρ cA dC dI Rz 2 69 [] [] X := by
  rw [fX9_mayHold_69] at hf
  refine v_iconst (v := 1) C dX9_mayHold_69 (by decide) ?_
  refine v_goto (tgt := 74) C dX9_mayHold_70 (by decide) ?_
  exact v_zret C (bsZ01 (by decide)).1 hf dX9_mayHold_74
set_option maxHeartbeats 4000000 in
set_option maxRecDepth 100000 in
theorem wX9_mayHold_45 {p : Program} {l : Launch} {e : Env} {s : State} {m : MethodId} {args : Array Value} {below : List Frame} {meth : Method} {c : Code} {ρ : bsR} {cA : Nat → ClassId} {dC : Nat → ClassId} {dI : Nat → Nat → Nat} {Rz : va_W} {Ts : List Cond}   {z : (Int32 × bsX)} (C : bsCx p m c cX9_mayHold 2 s args Ts RX9 ρ cA dC dI Rz meth (some .boolean)) (x1 : Int32) (X : bsX) (hf : fX9_mayHold_45 x1 X = some z) : bsV p l e rmX9_mayHold s m args below meth c 0 0 (MQ below (bsQi ρ cA dC dI Rz z s.heap.size) args s 0 0 (bsA ρ cA Rz s.heap.size)) ρ cA dC dI Rz 2 45 [(0, .ref (ρ 14 0 0)), (1, .int x1)] [] X := by
  rw [fX9_mayHold_45] at hf
  refine v_aload_n C dX9_mayHold_45 rfl rfl ?_
  refine v_iload_n C dX9_mayHold_46 rfl rfl ?_
  obtain ⟨r1, hc2, hf⟩ := bs_bind hf
  refine v_callVi (y := yX9_isGood) (As := [.int x1]) (rest := []) C (cX9_isGood_ok  hc2) ml_X9_63 wyX9_isGood (bsm_X9) (bsc_X9) rfl dpX9_isGood ⟨Nat.le_of_ble_eq_true rfl, Nat.le_of_ble_eq_true rfl⟩ ⟨rfl, rfl⟩ ⟨Nat.le_of_ble_eq_true rfl, Nat.le_of_ble_eq_true rfl⟩ rfl (Nat.le_of_ble_eq_true rfl) dX9_mayHold_47 ?_
  refine v_if_ne (tgt := 69) C dX9_mayHold_50 (by decide) (fun h7 => ?_) (fun h7 => ?_)
  · replace hf := bs_neg h7 hf
    refine v_sub [] rfl ?_
    exact wX9_mayHold_69   C  _  hf
  · replace hf := bs_pos h7 hf
    refine v_aload_n C dX9_mayHold_53 rfl rfl ?_
    refine v_iload_n C dX9_mayHold_54 rfl rfl ?_
    refine v_bipush (v := 9) C dX9_mayHold_55 (by decide) ?_
    obtain ⟨r3, hc4, hf⟩ := bs_bind hf
    refine v_callVi (y := yX9_of) (As := [.int x1, .int (9 : Int32)]) (rest := []) C (cX9_of_ok  hc4) ml_X9_56 wyX9_of (bsm_X9) (bsc_X9) rfl dpX9_of ⟨Nat.le_of_ble_eq_true rfl, Nat.le_of_ble_eq_true rfl⟩ ⟨rfl, rfl⟩ ⟨Nat.le_of_ble_eq_true rfl, Nat.le_of_ble_eq_true rfl⟩ rfl (Nat.le_of_ble_eq_true rfl) dX9_mayHold_57 ?_
    refine v_aload_n C dX9_mayHold_60 rfl rfl ?_
    refine gf_X9_7 C dX9_mayHold_61 ?_
    refine v_iconst (v := 2) C dX9_mayHold_64 (by decide) ?_
    obtain ⟨hi5, hf⟩ := bs_if hf
    refine v_iald (n := 160) C bsm_14_1 bsc_14_1 hi5 dX9_mayHold_65 ?_
    refine v_icmp_gt (tgt := 73) C dX9_mayHold_66 (by decide) (fun h6 => ?_) (fun h6 => ?_)
    · replace hf := bs_pos h6 hf
      refine v_iconst (v := 0) C dX9_mayHold_73 (by decide) ?_
      exact v_zret C (bsZ01 (by decide)).1 hf dX9_mayHold_74
    · replace hf := bs_neg h6 hf
      refine v_sub [] rfl ?_
      exact wX9_mayHold_69   C  _  hf
set_option maxHeartbeats 4000000 in
set_option maxRecDepth 100000 in
theorem cX9_mayHold_ok {l : Launch} {ρ : bsR} {cA : Nat → ClassId} {dC : Nat → ClassId} {dI : Nat → Nat → Nat} {Rz : va_W}  {a1 : Int32} {X : bsX} {z : (Int32 × bsX)} (hf : fX9_mayHold a1 X = some z) : bsMi l yX9_mayHold cX9_mayHold 2 (some .boolean) rmX9_mayHold ρ cA dC dI Rz [.ref (ρ 14 0 0), .int a1] X z := by
  refine bsMi_of (by decide) (Nat.le_of_ble_eq_true rfl) (fun p e s m args below meth c C => ?_)
  have C : bsCx p m c cX9_mayHold 2 s args (Cond.code yX9_mayHold cX9_mayHold 2 (some .boolean) :: bsG) RX9 ρ cA dC dI Rz meth (some .boolean) := C
  rw [fX9_mayHold] at hf
  refine v_sub [0, 1] rfl ?_
  refine v_aload_n C dX9_mayHold_0 rfl rfl ?_
  refine v_iload_n C dX9_mayHold_1 rfl rfl ?_
  obtain ⟨r8, hc9, hf⟩ := bs_bind hf
  refine v_callVi (y := yX9_noSlot) (As := [.int a1]) (rest := []) C (cX9_noSlot_ok  hc9) ml_X9_260 wyX9_noSlot (bsm_X9) (bsc_X9) rfl dpX9_noSlot ⟨Nat.le_of_ble_eq_true rfl, Nat.le_of_ble_eq_true rfl⟩ ⟨rfl, rfl⟩ ⟨Nat.le_of_ble_eq_true rfl, Nat.le_of_ble_eq_true rfl⟩ rfl (Nat.le_of_ble_eq_true rfl) dX9_mayHold_2 ?_
  refine v_if_ne (tgt := 16) C dX9_mayHold_5 (by decide) (fun h21 => ?_) (fun h21 => ?_)
  · replace hf := bs_neg h21 hf
    refine v_iconst (v := 0) C dX9_mayHold_16 (by decide) ?_
    exact v_zret C (bsZ01 (by decide)).1 hf dX9_mayHold_17
  · replace hf := bs_pos h21 hf
    refine v_aload_n C dX9_mayHold_8 rfl rfl ?_
    refine v_iload_n C dX9_mayHold_9 rfl rfl ?_
    obtain ⟨r10, hc11, hf⟩ := bs_bind hf
    refine v_callVi (y := yX9_has) (As := [.int a1]) (rest := []) C (cX9_has_ok  hc11) ml_X9_60 wyX9_has (bsm_X9) (bsc_X9) rfl dpX9_has ⟨Nat.le_of_ble_eq_true rfl, Nat.le_of_ble_eq_true rfl⟩ ⟨rfl, rfl⟩ ⟨Nat.le_of_ble_eq_true rfl, Nat.le_of_ble_eq_true rfl⟩ rfl (Nat.le_of_ble_eq_true rfl) dX9_mayHold_10 ?_
    refine v_if_ne (tgt := 18) C dX9_mayHold_13 (by decide) (fun h20 => ?_) (fun h20 => ?_)
    · replace hf := bs_neg h20 hf
      refine v_aload_n C dX9_mayHold_18 rfl rfl ?_
      refine v_iload_n C dX9_mayHold_19 rfl rfl ?_
      refine v_bipush (v := 10) C dX9_mayHold_20 (by decide) ?_
      obtain ⟨r12, hc13, hf⟩ := bs_bind hf
      refine v_callVi (y := yX9_of) (As := [.int a1, .int (10 : Int32)]) (rest := []) C (cX9_of_ok  hc13) ml_X9_56 wyX9_of (bsm_X9) (bsc_X9) rfl dpX9_of ⟨Nat.le_of_ble_eq_true rfl, Nat.le_of_ble_eq_true rfl⟩ ⟨rfl, rfl⟩ ⟨Nat.le_of_ble_eq_true rfl, Nat.le_of_ble_eq_true rfl⟩ rfl (Nat.le_of_ble_eq_true rfl) dX9_mayHold_22 ?_
      refine v_if_eq (tgt := 45) C dX9_mayHold_25 (by decide) (fun h19 => ?_) (fun h19 => ?_)
      · replace hf := bs_pos h19 hf
        refine v_sub [0, 1] rfl ?_
        exact wX9_mayHold_45   C  _ _  hf
      · replace hf := bs_neg h19 hf
        refine v_aload_n C dX9_mayHold_28 rfl rfl ?_
        refine v_iload_n C dX9_mayHold_29 rfl rfl ?_
        refine v_bipush (v := 10) C dX9_mayHold_30 (by decide) ?_
        obtain ⟨r14, hc15, hf⟩ := bs_bind hf
        refine v_callVi (y := yX9_of) (As := [.int a1, .int (10 : Int32)]) (rest := []) C (cX9_of_ok  hc15) ml_X9_56 wyX9_of (bsm_X9) (bsc_X9) rfl dpX9_of ⟨Nat.le_of_ble_eq_true rfl, Nat.le_of_ble_eq_true rfl⟩ ⟨rfl, rfl⟩ ⟨Nat.le_of_ble_eq_true rfl, Nat.le_of_ble_eq_true rfl⟩ rfl (Nat.le_of_ble_eq_true rfl) dX9_mayHold_32 ?_
        refine v_aload_n C dX9_mayHold_35 rfl rfl ?_
        refine v_iload_n C dX9_mayHold_36 rfl rfl ?_
        refine v_bipush (v := 9) C dX9_mayHold_37 (by decide) ?_
        obtain ⟨r16, hc17, hf⟩ := bs_bind hf
        refine v_callVi (y := yX9_of) (As := [.int a1, .int (9 : Int32)]) (rest := [.int r14.1]) C (cX9_of_ok  hc17) ml_X9_56 wyX9_of (bsm_X9) (bsc_X9) rfl dpX9_of ⟨Nat.le_of_ble_eq_true rfl, Nat.le_of_ble_eq_true rfl⟩ ⟨rfl, rfl⟩ ⟨Nat.le_of_ble_eq_true rfl, Nat.le_of_ble_eq_true rfl⟩ rfl (Nat.le_of_ble_eq_true rfl) dX9_mayHold_39 ?_
        refine v_icmp_le (tgt := 73) C dX9_mayHold_42 (by decide) (fun h18 => ?_) (fun h18 => ?_)
        · replace hf := bs_pos h18 hf
          refine v_iconst (v := 0) C dX9_mayHold_73 (by decide) ?_
          exact v_zret C (bsZ01 (by decide)).1 hf dX9_mayHold_74
        · replace hf := bs_neg h18 hf
          refine v_sub [0, 1] rfl ?_
          exact wX9_mayHold_45   C  _ _  hf
    · replace hf := bs_pos h20 hf
      refine v_iconst (v := 0) C dX9_mayHold_16 (by decide) ?_
      exact v_zret C (bsZ01 (by decide)).1 hf dX9_mayHold_17
/-! BootSlotsModel.mostBoots()I -/
def fX9_mostBoots_42 (k13 : Int32 → Int32 → bsX → Option (Int32 × bsX)) (x2 : Int32) (y0 : Int32) (y1 : Int32) (X : bsX) : Option (Int32 × bsX) := k13 (y0 + y1) (x2 + (1 : Int32)) X
def fX9_mostBoots_13 : Nat → Int32 → Int32 → bsX → Option (Int32 × bsX)
  | 0, _, _, _ => none
  | n + 1, x1, x2, X => if bsIn (0 : Int32) 160 then (if (X 14 1 0 (bsIx (0 : Int32))) ≤ x2 then (some (x1, X)) else ((fX9_canBoot  x2 X).bind fun r2 => if r2.1 = 0 then (fX9_mostBoots_42  (fX9_mostBoots_13  n) x2 x1 (0 : Int32) r2.2) else ((fX9_of  x2 (2 : Int32) r2.2).bind fun r4 => fX9_mostBoots_42  (fX9_mostBoots_13  n) x2 x1 r4.1 r4.2))) else none
def fX9_mostBoots (X : bsX) : Option (Int32 × bsX) := (fX9_notLoaded   X).bind fun r8 => if r8.1 = 0 then (fX9_mostBoots_13   bsF (0 : Int32) (0 : Int32) r8.2) else (some ((0 : Int32), r8.2))
abbrev rmX9_mostBoots : Room := { frames := 4, cells := 0, slots := 0, locals := 85 }
set_option maxHeartbeats 4000000 in
set_option maxRecDepth 100000 in
theorem wX9_mostBoots_42 {p : Program} {l : Launch} {e : Env} {s : State} {m : MethodId} {args : Array Value} {below : List Frame} {meth : Method} {c : Code} {ρ : bsR} {cA : Nat → ClassId} {dC : Nat → ClassId} {dI : Nat → Nat → Nat} {Rz : va_W} {Ts : List Cond}  (k13 : Int32 → Int32 → bsX → Option (Int32 × bsX))  {z : (Int32 × bsX)} (C : bsCx p m c cX9_mostBoots 3 s args Ts RX9 ρ cA dC dI Rz meth (some .int)) (hk13 : ∀ (x1 : Int32) (x2 : Int32) (X : bsX), k13 x1 x2 X = some z → bsV p l e rmX9_mostBoots s m args below meth c 0 0 (MQ below (bsQi ρ cA dC dI Rz z s.heap.size) args s 0 0 (bsA ρ cA Rz s.heap.size)) ρ cA dC dI Rz 3 13 [(0, .ref (ρ 14 0 0)), (1, .int x1), (2, .int x2)] [] X)  (x2 : Int32) (y0 : Int32) (y1 : Int32) (X : bsX) (hf : fX9_mostBoots_42 k13 x2 y0 y1 X = some z) : bsV p l e rmX9_mostBoots s m args below meth c 0 0 (MQ below (bsQi ρ cA dC dI Rz z s.heap.size) args s 0 0 (bsA ρ cA Rz s.heap.size)) ρ cA dC dI Rz 3 42 [(0, .ref (ρ 14 0 0)), (2, .int x2)] [.int y1, .int y0] X := by
  rw [fX9_mostBoots_42] at hf
  refine v_iadd C dX9_mostBoots_42 ?_
  refine v_istore_n (lv' := [(1, .int (y0 + y1)), (0, .ref (ρ 14 0 0)), (2, .int x2)]) C dX9_mostBoots_43 rfl (by decide) rfl ?_
  refine v_iinc (k0 := 2) (v := (x2 + (1 : Int32))) (lv' := [(2, .int (x2 + (1 : Int32))), (1, .int (y0 + y1)), (0, .ref (ρ 14 0 0))]) C dX9_mostBoots_44 rfl rfl (by decide) rfl ?_
  refine v_goto (tgt := 13) C dX9_mostBoots_47 (by decide) ?_
  refine v_sub [2, 1, 0] rfl ?_
  exact hk13 _ _ _  hf
set_option maxHeartbeats 4000000 in
set_option maxRecDepth 100000 in
theorem wX9_mostBoots_13 {p : Program} {l : Launch} {e : Env} {s : State} {m : MethodId} {args : Array Value} {below : List Frame} {meth : Method} {c : Code} {ρ : bsR} {cA : Nat → ClassId} {dC : Nat → ClassId} {dI : Nat → Nat → Nat} {Rz : va_W} {Ts : List Cond}   {z : (Int32 × bsX)} (C : bsCx p m c cX9_mostBoots 3 s args Ts RX9 ρ cA dC dI Rz meth (some .int)) : ∀ (n : Nat) (x1 : Int32) (x2 : Int32) (X : bsX), fX9_mostBoots_13  n x1 x2 X = some z → bsV p l e rmX9_mostBoots s m args below meth c 0 0 (MQ below (bsQi ρ cA dC dI Rz z s.heap.size) args s 0 0 (bsA ρ cA Rz s.heap.size)) ρ cA dC dI Rz 3 13 [(0, .ref (ρ 14 0 0)), (1, .int x1), (2, .int x2)] [] X := by
  intro n
  induction n with
  | zero => intro x1 x2 X hf; exact (nomatch hf)
  | succ n ih =>
    intro x1 x2 X hf
    rw [fX9_mostBoots_13] at hf
    refine v_iload_n C dX9_mostBoots_13 rfl rfl ?_
    refine v_aload_n C dX9_mostBoots_14 rfl rfl ?_
    refine gf_X9_7 C dX9_mostBoots_15 ?_
    refine v_iconst (v := 0) C dX9_mostBoots_18 (by decide) ?_
    obtain ⟨hi1, hf⟩ := bs_if hf
    refine v_iald (n := 160) C bsm_14_1 bsc_14_1 hi1 dX9_mostBoots_19 ?_
    refine v_icmp_ge (tgt := 50) C dX9_mostBoots_20 (by decide) (fun h7 => ?_) (fun h7 => ?_)
    · replace hf := bs_pos h7 hf
      refine v_iload_n C dX9_mostBoots_50 rfl rfl ?_
      exact v_iret C hf dX9_mostBoots_51
    · replace hf := bs_neg h7 hf
      refine v_iload_n C dX9_mostBoots_23 rfl rfl ?_
      refine v_aload_n C dX9_mostBoots_24 rfl rfl ?_
      refine v_iload_n C dX9_mostBoots_25 rfl rfl ?_
      obtain ⟨r2, hc3, hf⟩ := bs_bind hf
      refine v_callVi (y := yX9_canBoot) (As := [.int x2]) (rest := [.int x1]) C (cX9_canBoot_ok  hc3) ml_X9_70 wyX9_canBoot (bsm_X9) (bsc_X9) rfl dpX9_canBoot ⟨Nat.le_of_ble_eq_true rfl, Nat.le_of_ble_eq_true rfl⟩ ⟨rfl, rfl⟩ ⟨Nat.le_of_ble_eq_true rfl, Nat.le_of_ble_eq_true rfl⟩ rfl (Nat.le_of_ble_eq_true rfl) dX9_mostBoots_26 ?_
      refine v_if_eq (tgt := 41) C dX9_mostBoots_29 (by decide) (fun h6 => ?_) (fun h6 => ?_)
      · replace hf := bs_pos h6 hf
        refine v_iconst (v := 0) C dX9_mostBoots_41 (by decide) ?_
        refine v_sub [0, 2] rfl ?_
        exact wX9_mostBoots_42  (fX9_mostBoots_13  n) C (fun b0 b1 X  h => ih b0 b1 X  h) _ _ _ _  hf
      · replace hf := bs_neg h6 hf
        refine v_aload_n C dX9_mostBoots_32 rfl rfl ?_
        refine v_iload_n C dX9_mostBoots_33 rfl rfl ?_
        refine v_iconst (v := 2) C dX9_mostBoots_34 (by decide) ?_
        obtain ⟨r4, hc5, hf⟩ := bs_bind hf
        refine v_callVi (y := yX9_of) (As := [.int x2, .int (2 : Int32)]) (rest := [.int x1]) C (cX9_of_ok  hc5) ml_X9_56 wyX9_of (bsm_X9) (bsc_X9) rfl dpX9_of ⟨Nat.le_of_ble_eq_true rfl, Nat.le_of_ble_eq_true rfl⟩ ⟨rfl, rfl⟩ ⟨Nat.le_of_ble_eq_true rfl, Nat.le_of_ble_eq_true rfl⟩ rfl (Nat.le_of_ble_eq_true rfl) dX9_mostBoots_35 ?_
        refine v_goto (tgt := 42) C dX9_mostBoots_38 (by decide) ?_
        refine v_sub [0, 2] rfl ?_
        exact wX9_mostBoots_42  (fX9_mostBoots_13  n) C (fun b0 b1 X  h => ih b0 b1 X  h) _ _ _ _  hf
set_option maxHeartbeats 4000000 in
set_option maxRecDepth 100000 in
theorem cX9_mostBoots_ok {l : Launch} {ρ : bsR} {cA : Nat → ClassId} {dC : Nat → ClassId} {dI : Nat → Nat → Nat} {Rz : va_W}  {X : bsX} {z : (Int32 × bsX)} (hf : fX9_mostBoots  X = some z) : bsMi l yX9_mostBoots cX9_mostBoots 3 (some .int) rmX9_mostBoots ρ cA dC dI Rz [.ref (ρ 14 0 0)] X z := by
  refine bsMi_of (by decide) (Nat.le_of_ble_eq_true rfl) (fun p e s m args below meth c C => ?_)
  have C : bsCx p m c cX9_mostBoots 3 s args (Cond.code yX9_mostBoots cX9_mostBoots 3 (some .int) :: bsG) RX9 ρ cA dC dI Rz meth (some .int) := C
  rw [fX9_mostBoots] at hf
  refine v_sub [0] rfl ?_
  refine v_aload_n C dX9_mostBoots_0 rfl rfl ?_
  obtain ⟨r8, hc9, hf⟩ := bs_bind hf
  refine v_callVi (y := yX9_notLoaded) (As := []) (rest := []) C (cX9_notLoaded_ok  hc9) ml_X9_48 wyX9_notLoaded (bsm_X9) (bsc_X9) rfl dpX9_notLoaded ⟨Nat.le_of_ble_eq_true rfl, Nat.le_of_ble_eq_true rfl⟩ ⟨rfl, rfl⟩ ⟨Nat.le_of_ble_eq_true rfl, Nat.le_of_ble_eq_true rfl⟩ rfl (Nat.le_of_ble_eq_true rfl) dX9_mostBoots_1 ?_
  refine v_if_eq (tgt := 9) C dX9_mostBoots_4 (by decide) (fun h10 => ?_) (fun h10 => ?_)
  · replace hf := bs_pos h10 hf
    refine v_iconst (v := 0) C dX9_mostBoots_9 (by decide) ?_
    refine v_istore_n (lv' := [(1, .int (0 : Int32)), (0, .ref (ρ 14 0 0))]) C dX9_mostBoots_10 rfl (by decide) rfl ?_
    refine v_iconst (v := 0) C dX9_mostBoots_11 (by decide) ?_
    refine v_istore_n (lv' := [(2, .int (0 : Int32)), (1, .int (0 : Int32)), (0, .ref (ρ 14 0 0))]) C dX9_mostBoots_12 rfl (by decide) rfl ?_
    refine v_sub [2, 1, 0] rfl ?_
    exact wX9_mostBoots_13   C  bsF _ _ _  hf
  · replace hf := bs_neg h10 hf
    refine v_iconst (v := 0) C dX9_mostBoots_7 (by decide) ?_
    exact v_iret C hf dX9_mostBoots_8
/-! BootSlotsModel.bootsOf(I)I -/
def fX9_bootsOf_48 (k14 : Int32 → Int32 → Int32 → bsX → Option (Int32 × bsX)) (x1 : Int32) (x3 : Int32) (y0 : Int32) (y1 : Int32) (X : bsX) : Option (Int32 × bsX) := (fX9_flag  y1 X).bind fun r1 => k14 x1 (y0 + r1.1) (x3 + (1 : Int32)) r1.2
def fX9_bootsOf_14 : Nat → Int32 → Int32 → Int32 → bsX → Option (Int32 × bsX)
  | 0, _, _, _, _ => none
  | n + 1, x1, x2, x3, X => if bsIn (28 : Int32) 160 then (if (X 14 1 0 (bsIx (28 : Int32))) ≤ x3 then (some (x2, X)) else (if bsIn (((29 : Int32) + ((4 : Int32) * x3)) + (3 : Int32)) 160 then (if (X 14 1 0 (bsIx (((29 : Int32) + ((4 : Int32) * x3)) + (3 : Int32)))) = x1 then (fX9_bootsOf_48  (fX9_bootsOf_14  n) x1 x3 x2 (1 : Int32) X) else (fX9_bootsOf_48  (fX9_bootsOf_14  n) x1 x3 x2 (0 : Int32) X)) else none)) else none
def fX9_bootsOf (a1 : Int32) (X : bsX) : Option (Int32 × bsX) := (fX9_noSlot  a1 X).bind fun r7 => if r7.1 = 0 then (fX9_bootsOf_14   bsF a1 (0 : Int32) (0 : Int32) r7.2) else (some ((0 : Int32), r7.2))
abbrev rmX9_bootsOf : Room := { frames := 3, cells := 0, slots := 0, locals := 67 }
set_option maxHeartbeats 4000000 in
set_option maxRecDepth 100000 in
theorem wX9_bootsOf_48 {p : Program} {l : Launch} {e : Env} {s : State} {m : MethodId} {args : Array Value} {below : List Frame} {meth : Method} {c : Code} {ρ : bsR} {cA : Nat → ClassId} {dC : Nat → ClassId} {dI : Nat → Nat → Nat} {Rz : va_W} {Ts : List Cond}  (k14 : Int32 → Int32 → Int32 → bsX → Option (Int32 × bsX))  {z : (Int32 × bsX)} (C : bsCx p m c cX9_bootsOf 4 s args Ts RX9 ρ cA dC dI Rz meth (some .int)) (hk14 : ∀ (x1 : Int32) (x2 : Int32) (x3 : Int32) (X : bsX), k14 x1 x2 x3 X = some z → bsV p l e rmX9_bootsOf s m args below meth c 0 0 (MQ below (bsQi ρ cA dC dI Rz z s.heap.size) args s 0 0 (bsA ρ cA Rz s.heap.size)) ρ cA dC dI Rz 4 14 [(0, .ref (ρ 14 0 0)), (1, .int x1), (2, .int x2), (3, .int x3)] [] X)  (x1 : Int32) (x3 : Int32) (y0 : Int32) (y1 : Int32) (X : bsX) (hf : fX9_bootsOf_48 k14 x1 x3 y0 y1 X = some z) : bsV p l e rmX9_bootsOf s m args below meth c 0 0 (MQ below (bsQi ρ cA dC dI Rz z s.heap.size) args s 0 0 (bsA ρ cA Rz s.heap.size)) ρ cA dC dI Rz 4 48 [(0, .ref (ρ 14 0 0)), (1, .int x1), (3, .int x3)] [.int y1, .int y0] X := by
  rw [fX9_bootsOf_48] at hf
  obtain ⟨r1, hc2, hf⟩ := bs_bind hf
  refine v_callSi (y := yX9_flag) (As := [.int y1]) (rest := [.int y0]) C (cX9_flag_ok  hc2) ml_X9_113 wzX9_flag dpX9_flag ⟨Nat.le_of_ble_eq_true rfl, Nat.le_of_ble_eq_true rfl⟩ ⟨rfl, rfl⟩ ⟨Nat.le_of_ble_eq_true rfl, Nat.le_of_ble_eq_true rfl⟩ rfl (Nat.le_of_ble_eq_true rfl) dX9_bootsOf_48 ?_
  refine v_iadd C dX9_bootsOf_51 ?_
  refine v_istore_n (lv' := [(2, .int (y0 + r1.1)), (0, .ref (ρ 14 0 0)), (1, .int x1), (3, .int x3)]) C dX9_bootsOf_52 rfl (by decide) rfl ?_
  refine v_iinc (k0 := 3) (v := (x3 + (1 : Int32))) (lv' := [(3, .int (x3 + (1 : Int32))), (2, .int (y0 + r1.1)), (0, .ref (ρ 14 0 0)), (1, .int x1)]) C dX9_bootsOf_53 rfl rfl (by decide) rfl ?_
  refine v_goto (tgt := 14) C dX9_bootsOf_56 (by decide) ?_
  refine v_sub [2, 3, 1, 0] rfl ?_
  exact hk14 _ _ _ _  hf
set_option maxHeartbeats 4000000 in
set_option maxRecDepth 100000 in
theorem wX9_bootsOf_14 {p : Program} {l : Launch} {e : Env} {s : State} {m : MethodId} {args : Array Value} {below : List Frame} {meth : Method} {c : Code} {ρ : bsR} {cA : Nat → ClassId} {dC : Nat → ClassId} {dI : Nat → Nat → Nat} {Rz : va_W} {Ts : List Cond}   {z : (Int32 × bsX)} (C : bsCx p m c cX9_bootsOf 4 s args Ts RX9 ρ cA dC dI Rz meth (some .int)) : ∀ (n : Nat) (x1 : Int32) (x2 : Int32) (x3 : Int32) (X : bsX), fX9_bootsOf_14  n x1 x2 x3 X = some z → bsV p l e rmX9_bootsOf s m args below meth c 0 0 (MQ below (bsQi ρ cA dC dI Rz z s.heap.size) args s 0 0 (bsA ρ cA Rz s.heap.size)) ρ cA dC dI Rz 4 14 [(0, .ref (ρ 14 0 0)), (1, .int x1), (2, .int x2), (3, .int x3)] [] X := by
  intro n
  induction n with
  | zero => intro x1 x2 x3 X hf; exact (nomatch hf)
  | succ n ih =>
    intro x1 x2 x3 X hf
    rw [fX9_bootsOf_14] at hf
    refine v_iload_n C dX9_bootsOf_14 rfl rfl ?_
    refine v_aload_n C dX9_bootsOf_15 rfl rfl ?_
    refine gf_X9_7 C dX9_bootsOf_16 ?_
    refine v_bipush (v := 28) C dX9_bootsOf_19 (by decide) ?_
    obtain ⟨hi3, hf⟩ := bs_if hf
    refine v_iald (n := 160) C bsm_14_1 bsc_14_1 hi3 dX9_bootsOf_21 ?_
    refine v_icmp_ge (tgt := 59) C dX9_bootsOf_22 (by decide) (fun h6 => ?_) (fun h6 => ?_)
    · replace hf := bs_pos h6 hf
      refine v_iload_n C dX9_bootsOf_59 rfl rfl ?_
      exact v_iret C hf dX9_bootsOf_60
    · replace hf := bs_neg h6 hf
      refine v_iload_n C dX9_bootsOf_25 rfl rfl ?_
      refine v_aload_n C dX9_bootsOf_26 rfl rfl ?_
      refine gf_X9_7 C dX9_bootsOf_27 ?_
      refine v_bipush (v := 29) C dX9_bootsOf_30 (by decide) ?_
      refine v_iconst (v := 4) C dX9_bootsOf_32 (by decide) ?_
      refine v_iload_n C dX9_bootsOf_33 rfl rfl ?_
      refine v_imul C dX9_bootsOf_34 ?_
      refine v_iadd C dX9_bootsOf_35 ?_
      refine v_iconst (v := 3) C dX9_bootsOf_36 (by decide) ?_
      refine v_iadd C dX9_bootsOf_37 ?_
      obtain ⟨hi4, hf⟩ := bs_if hf
      refine v_iald (n := 160) C bsm_14_1 bsc_14_1 hi4 dX9_bootsOf_38 ?_
      refine v_iload_n C dX9_bootsOf_39 rfl rfl ?_
      refine v_icmp_ne (tgt := 47) C dX9_bootsOf_40 (by decide) (fun h5 => ?_) (fun h5 => ?_)
      · replace hf := bs_neg h5 hf
        refine v_iconst (v := 0) C dX9_bootsOf_47 (by decide) ?_
        refine v_sub [0, 1, 3] rfl ?_
        exact wX9_bootsOf_48  (fX9_bootsOf_14  n) C (fun b0 b1 b2 X  h => ih b0 b1 b2 X  h) _ _ _ _ _  hf
      · replace hf := bs_pos h5 hf
        refine v_iconst (v := 1) C dX9_bootsOf_43 (by decide) ?_
        refine v_goto (tgt := 48) C dX9_bootsOf_44 (by decide) ?_
        refine v_sub [0, 1, 3] rfl ?_
        exact wX9_bootsOf_48  (fX9_bootsOf_14  n) C (fun b0 b1 b2 X  h => ih b0 b1 b2 X  h) _ _ _ _ _  hf
set_option maxHeartbeats 4000000 in
set_option maxRecDepth 100000 in
theorem cX9_bootsOf_ok {l : Launch} {ρ : bsR} {cA : Nat → ClassId} {dC : Nat → ClassId} {dI : Nat → Nat → Nat} {Rz : va_W}  {a1 : Int32} {X : bsX} {z : (Int32 × bsX)} (hf : fX9_bootsOf a1 X = some z) : bsMi l yX9_bootsOf cX9_bootsOf 4 (some .int) rmX9_bootsOf ρ cA dC dI Rz [.ref (ρ 14 0 0), .int a1] X z := by
  refine bsMi_of (by decide) (Nat.le_of_ble_eq_true rfl) (fun p e s m args below meth c C => ?_)
  have C : bsCx p m c cX9_bootsOf 4 s args (Cond.code yX9_bootsOf cX9_bootsOf 4 (some .int) :: bsG) RX9 ρ cA dC dI Rz meth (some .int) := C
  rw [fX9_bootsOf] at hf
  refine v_sub [0, 1] rfl ?_
  refine v_aload_n C dX9_bootsOf_0 rfl rfl ?_
  refine v_iload_n C dX9_bootsOf_1 rfl rfl ?_
  obtain ⟨r7, hc8, hf⟩ := bs_bind hf
  refine v_callVi (y := yX9_noSlot) (As := [.int a1]) (rest := []) C (cX9_noSlot_ok  hc8) ml_X9_260 wyX9_noSlot (bsm_X9) (bsc_X9) rfl dpX9_noSlot ⟨Nat.le_of_ble_eq_true rfl, Nat.le_of_ble_eq_true rfl⟩ ⟨rfl, rfl⟩ ⟨Nat.le_of_ble_eq_true rfl, Nat.le_of_ble_eq_true rfl⟩ rfl (Nat.le_of_ble_eq_true rfl) dX9_bootsOf_2 ?_
  refine v_if_eq (tgt := 10) C dX9_bootsOf_5 (by decide) (fun h9 => ?_) (fun h9 => ?_)
  · replace hf := bs_pos h9 hf
    refine v_iconst (v := 0) C dX9_bootsOf_10 (by decide) ?_
    refine v_istore_n (lv' := [(2, .int (0 : Int32)), (0, .ref (ρ 14 0 0)), (1, .int a1)]) C dX9_bootsOf_11 rfl (by decide) rfl ?_
    refine v_iconst (v := 0) C dX9_bootsOf_12 (by decide) ?_
    refine v_istore_n (lv' := [(3, .int (0 : Int32)), (2, .int (0 : Int32)), (0, .ref (ρ 14 0 0)), (1, .int a1)]) C dX9_bootsOf_13 rfl (by decide) rfl ?_
    refine v_sub [2, 3, 1, 0] rfl ?_
    exact wX9_bootsOf_14   C  bsF _ _ _ _  hf
  · replace hf := bs_neg h9 hf
    refine v_iconst (v := 0) C dX9_bootsOf_8 (by decide) ?_
    exact v_iret C hf dX9_bootsOf_9
/-! BootSlotsModel.fallback()I -/
def fX9_fallback_18 (X : bsX) : Option (Int32 × bsX) := if (X 14 0 0 0) = 0 then (some ((-1 : Int32), X)) else (some ((0 : Int32), X))
def fX9_fallback_80 (k35 : Int32 → Int32 → bsX → Option (Int32 × bsX)) (x1 : Int32) (x2 : Int32) (X : bsX) : Option (Int32 × bsX) := k35 x1 (x2 + (1 : Int32)) X
def fX9_fallback_78 (k35 : Int32 → Int32 → bsX → Option (Int32 × bsX)) (x2 : Int32) (X : bsX) : Option (Int32 × bsX) := fX9_fallback_80  k35 x2 x2 X
def fX9_fallback_35 : Nat → Int32 → Int32 → bsX → Option (Int32 × bsX)
  | 0, _, _, _ => none
  | n + 1, x1, x2, X => if bsIn (0 : Int32) 160 then (if (X 14 1 0 (bsIx (0 : Int32))) ≤ x2 then (some (x1, X)) else (if bsIn (7 : Int32) 160 then (if x2 = (X 14 1 0 (bsIx (7 : Int32))) then (fX9_fallback_80  (fX9_fallback_35  n) x1 x2 X) else ((fX9_canBoot  x2 X).bind fun r4 => if r4.1 = 0 then (fX9_fallback_80  (fX9_fallback_35  n) x1 x2 r4.2) else (if x1 = (-1 : Int32) then (fX9_fallback_78  (fX9_fallback_35  n) x2 r4.2) else ((fX9_isAhead  x2 x1 r4.2).bind fun r6 => if r6.1 = 0 then (fX9_fallback_80  (fX9_fallback_35  n) x1 x2 r6.2) else (fX9_fallback_78  (fX9_fallback_35  n) x2 r6.2))))) else none)) else none
def fX9_fallback (X : bsX) : Option (Int32 × bsX) := (fX9_notLoaded   X).bind fun r13 => if r13.1 = 0 then (if bsIn (6 : Int32) 160 then (if (r13.2 14 1 0 (bsIx (6 : Int32))) = (1 : Int32) then (fX9_fallback_35   bsF (-1 : Int32) (0 : Int32) r13.2) else (fX9_fallback_18    r13.2)) else none) else (fX9_fallback_18    r13.2)
abbrev rmX9_fallback : Room := { frames := 4, cells := 0, slots := 0, locals := 85 }
set_option maxHeartbeats 4000000 in
set_option maxRecDepth 100000 in
theorem wX9_fallback_18 {p : Program} {l : Launch} {e : Env} {s : State} {m : MethodId} {args : Array Value} {below : List Frame} {meth : Method} {c : Code} {ρ : bsR} {cA : Nat → ClassId} {dC : Nat → ClassId} {dI : Nat → Nat → Nat} {Rz : va_W} {Ts : List Cond}   {z : (Int32 × bsX)} (C : bsCx p m c cX9_fallback 3 s args Ts RX9 ρ cA dC dI Rz meth (some .int)) (X : bsX) (hf : fX9_fallback_18  X = some z) : bsV p l e rmX9_fallback s m args below meth c 0 0 (MQ below (bsQi ρ cA dC dI Rz z s.heap.size) args s 0 0 (bsA ρ cA Rz s.heap.size)) ρ cA dC dI Rz 3 18 [(0, .ref (ρ 14 0 0))] [] X := by
  rw [fX9_fallback_18] at hf
  refine v_aload_n C dX9_fallback_18 rfl rfl ?_
  refine gf_X9_33 C dX9_fallback_19 ?_
  refine v_if_eq (tgt := 29) C dX9_fallback_22 (by decide) (fun h1 => ?_) (fun h1 => ?_)
  · replace hf := bs_pos h1 hf
    refine v_iconst (v := -1) C dX9_fallback_29 (by decide) ?_
    exact v_iret C hf dX9_fallback_30
  · replace hf := bs_neg h1 hf
    refine v_iconst (v := 0) C dX9_fallback_25 (by decide) ?_
    refine v_goto (tgt := 30) C dX9_fallback_26 (by decide) ?_
    exact v_iret C hf dX9_fallback_30
set_option maxHeartbeats 4000000 in
set_option maxRecDepth 100000 in
theorem wX9_fallback_80 {p : Program} {l : Launch} {e : Env} {s : State} {m : MethodId} {args : Array Value} {below : List Frame} {meth : Method} {c : Code} {ρ : bsR} {cA : Nat → ClassId} {dC : Nat → ClassId} {dI : Nat → Nat → Nat} {Rz : va_W} {Ts : List Cond}  (k35 : Int32 → Int32 → bsX → Option (Int32 × bsX))  {z : (Int32 × bsX)} (C : bsCx p m c cX9_fallback 3 s args Ts RX9 ρ cA dC dI Rz meth (some .int)) (hk35 : ∀ (x1 : Int32) (x2 : Int32) (X : bsX), k35 x1 x2 X = some z → bsV p l e rmX9_fallback s m args below meth c 0 0 (MQ below (bsQi ρ cA dC dI Rz z s.heap.size) args s 0 0 (bsA ρ cA Rz s.heap.size)) ρ cA dC dI Rz 3 35 [(0, .ref (ρ 14 0 0)), (1, .int x1), (2, .int x2)] [] X)  (x1 : Int32) (x2 : Int32) (X : bsX) (hf : fX9_fallback_80 k35 x1 x2 X = some z) : bsV p l e rmX9_fallback s m args below meth c 0 0 (MQ below (bsQi ρ cA dC dI Rz z s.heap.size) args s 0 0 (bsA ρ cA Rz s.heap.size)) ρ cA dC dI Rz 3 80 [(0, .ref (ρ 14 0 0)), (1, .int x1), (2, .int x2)] [] X := by
  rw [fX9_fallback_80] at hf
  refine v_iinc (k0 := 2) (v := (x2 + (1 : Int32))) (lv' := [(2, .int (x2 + (1 : Int32))), (0, .ref (ρ 14 0 0)), (1, .int x1)]) C dX9_fallback_80 rfl rfl (by decide) rfl ?_
  refine v_goto (tgt := 35) C dX9_fallback_83 (by decide) ?_
  refine v_sub [1, 2, 0] rfl ?_
  exact hk35 _ _ _  hf
set_option maxHeartbeats 4000000 in
set_option maxRecDepth 100000 in
theorem wX9_fallback_78 {p : Program} {l : Launch} {e : Env} {s : State} {m : MethodId} {args : Array Value} {below : List Frame} {meth : Method} {c : Code} {ρ : bsR} {cA : Nat → ClassId} {dC : Nat → ClassId} {dI : Nat → Nat → Nat} {Rz : va_W} {Ts : List Cond}  (k35 : Int32 → Int32 → bsX → Option (Int32 × bsX))  {z : (Int32 × bsX)} (C : bsCx p m c cX9_fallback 3 s args Ts RX9 ρ cA dC dI Rz meth (some .int)) (hk35 : ∀ (x1 : Int32) (x2 : Int32) (X : bsX), k35 x1 x2 X = some z → bsV p l e rmX9_fallback s m args below meth c 0 0 (MQ below (bsQi ρ cA dC dI Rz z s.heap.size) args s 0 0 (bsA ρ cA Rz s.heap.size)) ρ cA dC dI Rz 3 35 [(0, .ref (ρ 14 0 0)), (1, .int x1), (2, .int x2)] [] X)  (x2 : Int32) (X : bsX) (hf : fX9_fallback_78 k35 x2 X = some z) : bsV p l e rmX9_fallback s m args below meth c 0 0 (MQ below (bsQi ρ cA dC dI Rz z s.heap.size) args s 0 0 (bsA ρ cA Rz s.heap.size)) ρ cA dC dI Rz 3 78 [(0, .ref (ρ 14 0 0)), (2, .int x2)] [] X := by
  rw [fX9_fallback_78] at hf
  refine v_iload_n C dX9_fallback_78 rfl rfl ?_
  refine v_istore_n (lv' := [(1, .int x2), (0, .ref (ρ 14 0 0)), (2, .int x2)]) C dX9_fallback_79 rfl (by decide) rfl ?_
  refine v_sub [1, 0, 2] rfl ?_
  exact wX9_fallback_80  k35 C hk35 _ _ _  hf
set_option maxHeartbeats 4000000 in
set_option maxRecDepth 100000 in
theorem wX9_fallback_35 {p : Program} {l : Launch} {e : Env} {s : State} {m : MethodId} {args : Array Value} {below : List Frame} {meth : Method} {c : Code} {ρ : bsR} {cA : Nat → ClassId} {dC : Nat → ClassId} {dI : Nat → Nat → Nat} {Rz : va_W} {Ts : List Cond}   {z : (Int32 × bsX)} (C : bsCx p m c cX9_fallback 3 s args Ts RX9 ρ cA dC dI Rz meth (some .int)) : ∀ (n : Nat) (x1 : Int32) (x2 : Int32) (X : bsX), fX9_fallback_35  n x1 x2 X = some z → bsV p l e rmX9_fallback s m args below meth c 0 0 (MQ below (bsQi ρ cA dC dI Rz z s.heap.size) args s 0 0 (bsA ρ cA Rz s.heap.size)) ρ cA dC dI Rz 3 35 [(0, .ref (ρ 14 0 0)), (1, .int x1), (2, .int x2)] [] X := by
  intro n
  induction n with
  | zero => intro x1 x2 X hf; exact (nomatch hf)
  | succ n ih =>
    intro x1 x2 X hf
    rw [fX9_fallback_35] at hf
    refine v_iload_n C dX9_fallback_35 rfl rfl ?_
    refine v_aload_n C dX9_fallback_36 rfl rfl ?_
    refine gf_X9_7 C dX9_fallback_37 ?_
    refine v_iconst (v := 0) C dX9_fallback_40 (by decide) ?_
    obtain ⟨hi2, hf⟩ := bs_if hf
    refine v_iald (n := 160) C bsm_14_1 bsc_14_1 hi2 dX9_fallback_41 ?_
    refine v_icmp_ge (tgt := 86) C dX9_fallback_42 (by decide) (fun h12 => ?_) (fun h12 => ?_)
    · replace hf := bs_pos h12 hf
      refine v_iload_n C dX9_fallback_86 rfl rfl ?_
      exact v_iret C hf dX9_fallback_87
    · replace hf := bs_neg h12 hf
      refine v_iload_n C dX9_fallback_45 rfl rfl ?_
      refine v_aload_n C dX9_fallback_46 rfl rfl ?_
      refine gf_X9_7 C dX9_fallback_47 ?_
      refine v_bipush (v := 7) C dX9_fallback_50 (by decide) ?_
      obtain ⟨hi3, hf⟩ := bs_if hf
      refine v_iald (n := 160) C bsm_14_1 bsc_14_1 hi3 dX9_fallback_52 ?_
      refine v_icmp_eq (tgt := 80) C dX9_fallback_53 (by decide) (fun h11 => ?_) (fun h11 => ?_)
      · replace hf := bs_pos h11 hf
        refine v_sub [0, 1, 2] rfl ?_
        exact wX9_fallback_80  (fX9_fallback_35  n) C (fun b0 b1 X  h => ih b0 b1 X  h) _ _ _  hf
      · replace hf := bs_neg h11 hf
        refine v_aload_n C dX9_fallback_56 rfl rfl ?_
        refine v_iload_n C dX9_fallback_57 rfl rfl ?_
        obtain ⟨r4, hc5, hf⟩ := bs_bind hf
        refine v_callVi (y := yX9_canBoot) (As := [.int x2]) (rest := []) C (cX9_canBoot_ok  hc5) ml_X9_70 wyX9_canBoot (bsm_X9) (bsc_X9) rfl dpX9_canBoot ⟨Nat.le_of_ble_eq_true rfl, Nat.le_of_ble_eq_true rfl⟩ ⟨rfl, rfl⟩ ⟨Nat.le_of_ble_eq_true rfl, Nat.le_of_ble_eq_true rfl⟩ rfl (Nat.le_of_ble_eq_true rfl) dX9_fallback_58 ?_
        refine v_if_eq (tgt := 80) C dX9_fallback_61 (by decide) (fun h10 => ?_) (fun h10 => ?_)
        · replace hf := bs_pos h10 hf
          refine v_sub [0, 1, 2] rfl ?_
          exact wX9_fallback_80  (fX9_fallback_35  n) C (fun b0 b1 X  h => ih b0 b1 X  h) _ _ _  hf
        · replace hf := bs_neg h10 hf
          refine v_iload_n C dX9_fallback_64 rfl rfl ?_
          refine v_iconst (v := -1) C dX9_fallback_65 (by decide) ?_
          refine v_icmp_eq (tgt := 78) C dX9_fallback_66 (by decide) (fun h9 => ?_) (fun h9 => ?_)
          · replace hf := bs_pos h9 hf
            refine v_sub [0, 2] rfl ?_
            exact wX9_fallback_78  (fX9_fallback_35  n) C (fun b0 b1 X  h => ih b0 b1 X  h) _ _  hf
          · replace hf := bs_neg h9 hf
            refine v_aload_n C dX9_fallback_69 rfl rfl ?_
            refine v_iload_n C dX9_fallback_70 rfl rfl ?_
            refine v_iload_n C dX9_fallback_71 rfl rfl ?_
            obtain ⟨r6, hc7, hf⟩ := bs_bind hf
            refine v_callVi (y := yX9_isAhead) (As := [.int x2, .int x1]) (rest := []) C (cX9_isAhead_ok  hc7) ml_X9_73 wyX9_isAhead (bsm_X9) (bsc_X9) rfl dpX9_isAhead ⟨Nat.le_of_ble_eq_true rfl, Nat.le_of_ble_eq_true rfl⟩ ⟨rfl, rfl⟩ ⟨Nat.le_of_ble_eq_true rfl, Nat.le_of_ble_eq_true rfl⟩ rfl (Nat.le_of_ble_eq_true rfl) dX9_fallback_72 ?_
            refine v_if_eq (tgt := 80) C dX9_fallback_75 (by decide) (fun h8 => ?_) (fun h8 => ?_)
            · replace hf := bs_pos h8 hf
              refine v_sub [0, 1, 2] rfl ?_
              exact wX9_fallback_80  (fX9_fallback_35  n) C (fun b0 b1 X  h => ih b0 b1 X  h) _ _ _  hf
            · replace hf := bs_neg h8 hf
              refine v_sub [0, 2] rfl ?_
              exact wX9_fallback_78  (fX9_fallback_35  n) C (fun b0 b1 X  h => ih b0 b1 X  h) _ _  hf
set_option maxHeartbeats 4000000 in
set_option maxRecDepth 100000 in
theorem cX9_fallback_ok {l : Launch} {ρ : bsR} {cA : Nat → ClassId} {dC : Nat → ClassId} {dI : Nat → Nat → Nat} {Rz : va_W}  {X : bsX} {z : (Int32 × bsX)} (hf : fX9_fallback  X = some z) : bsMi l yX9_fallback cX9_fallback 3 (some .int) rmX9_fallback ρ cA dC dI Rz [.ref (ρ 14 0 0)] X z := by
  refine bsMi_of (by decide) (Nat.le_of_ble_eq_true rfl) (fun p e s m args below meth c C => ?_)
  have C : bsCx p m c cX9_fallback 3 s args (Cond.code yX9_fallback cX9_fallback 3 (some .int) :: bsG) RX9 ρ cA dC dI Rz meth (some .int) := C
  rw [fX9_fallback] at hf
  refine v_sub [0] rfl ?_
  refine v_aload_n C dX9_fallback_0 rfl rfl ?_
  obtain ⟨r13, hc14, hf⟩ := bs_bind hf
  refine v_callVi (y := yX9_notLoaded) (As := []) (rest := []) C (cX9_notLoaded_ok  hc14) ml_X9_48 wyX9_notLoaded (bsm_X9) (bsc_X9) rfl dpX9_notLoaded ⟨Nat.le_of_ble_eq_true rfl, Nat.le_of_ble_eq_true rfl⟩ ⟨rfl, rfl⟩ ⟨Nat.le_of_ble_eq_true rfl, Nat.le_of_ble_eq_true rfl⟩ rfl (Nat.le_of_ble_eq_true rfl) dX9_fallback_1 ?_
  refine v_if_ne (tgt := 18) C dX9_fallback_4 (by decide) (fun h17 => ?_) (fun h17 => ?_)
  · replace hf := bs_neg h17 hf
    refine v_sub [0] rfl ?_
    exact wX9_fallback_18   C  _  hf
  · replace hf := bs_pos h17 hf
    refine v_aload_n C dX9_fallback_7 rfl rfl ?_
    refine gf_X9_7 C dX9_fallback_8 ?_
    refine v_bipush (v := 6) C dX9_fallback_11 (by decide) ?_
    obtain ⟨hi15, hf⟩ := bs_if hf
    refine v_iald (n := 160) C bsm_14_1 bsc_14_1 hi15 dX9_fallback_13 ?_
    refine v_iconst (v := 1) C dX9_fallback_14 (by decide) ?_
    refine v_icmp_eq (tgt := 31) C dX9_fallback_15 (by decide) (fun h16 => ?_) (fun h16 => ?_)
    · replace hf := bs_pos h16 hf
      refine v_iconst (v := -1) C dX9_fallback_31 (by decide) ?_
      refine v_istore_n (lv' := [(1, .int (-1 : Int32)), (0, .ref (ρ 14 0 0))]) C dX9_fallback_32 rfl (by decide) rfl ?_
      refine v_iconst (v := 0) C dX9_fallback_33 (by decide) ?_
      refine v_istore_n (lv' := [(2, .int (0 : Int32)), (1, .int (-1 : Int32)), (0, .ref (ρ 14 0 0))]) C dX9_fallback_34 rfl (by decide) rfl ?_
      refine v_sub [2, 1, 0] rfl ?_
      exact wX9_fallback_35   C  bsF _ _ _  hf
    · replace hf := bs_neg h16 hf
      refine v_sub [0] rfl ?_
      exact wX9_fallback_18   C  _  hf
/-! BootSlotsModel.weakest()I -/
def fX9_weakest_61 (k13 : Int32 → Int32 → bsX → Option (Int32 × bsX)) (x1 : Int32) (x2 : Int32) (X : bsX) : Option (Int32 × bsX) := k13 x1 (x2 + (1 : Int32)) X
def fX9_weakest_59 (k13 : Int32 → Int32 → bsX → Option (Int32 × bsX)) (x2 : Int32) (X : bsX) : Option (Int32 × bsX) := fX9_weakest_61  k13 x2 x2 X
def fX9_weakest_13 : Nat → Int32 → Int32 → bsX → Option (Int32 × bsX)
  | 0, _, _, _ => none
  | n + 1, x1, x2, X => if bsIn (0 : Int32) 160 then (if (X 14 1 0 (bsIx (0 : Int32))) ≤ x2 then (some (x1, X)) else ((fX9_canBoot  x2 X).bind fun r2 => if r2.1 = 0 then (fX9_weakest_61  (fX9_weakest_13  n) x1 x2 r2.2) else ((fX9_isGood  x2 r2.2).bind fun r4 => if r4.1 = 0 then (if x1 = (-1 : Int32) then (fX9_weakest_59  (fX9_weakest_13  n) x2 r4.2) else ((fX9_of  x2 (2 : Int32) r4.2).bind fun r6 => (fX9_of  x1 (2 : Int32) r6.2).bind fun r8 => if r8.1 ≤ r6.1 then (fX9_weakest_61  (fX9_weakest_13  n) x1 x2 r8.2) else (fX9_weakest_59  (fX9_weakest_13  n) x2 r8.2))) else (fX9_weakest_61  (fX9_weakest_13  n) x1 x2 r4.2)))) else none
def fX9_weakest (X : bsX) : Option (Int32 × bsX) := (fX9_notLoaded   X).bind fun r15 => if r15.1 = 0 then (fX9_weakest_13   bsF (-1 : Int32) (0 : Int32) r15.2) else (some ((0 : Int32), r15.2))
abbrev rmX9_weakest : Room := { frames := 4, cells := 0, slots := 0, locals := 85 }
set_option maxHeartbeats 4000000 in
set_option maxRecDepth 100000 in
theorem wX9_weakest_61 {p : Program} {l : Launch} {e : Env} {s : State} {m : MethodId} {args : Array Value} {below : List Frame} {meth : Method} {c : Code} {ρ : bsR} {cA : Nat → ClassId} {dC : Nat → ClassId} {dI : Nat → Nat → Nat} {Rz : va_W} {Ts : List Cond}  (k13 : Int32 → Int32 → bsX → Option (Int32 × bsX))  {z : (Int32 × bsX)} (C : bsCx p m c cX9_weakest 3 s args Ts RX9 ρ cA dC dI Rz meth (some .int)) (hk13 : ∀ (x1 : Int32) (x2 : Int32) (X : bsX), k13 x1 x2 X = some z → bsV p l e rmX9_weakest s m args below meth c 0 0 (MQ below (bsQi ρ cA dC dI Rz z s.heap.size) args s 0 0 (bsA ρ cA Rz s.heap.size)) ρ cA dC dI Rz 3 13 [(0, .ref (ρ 14 0 0)), (1, .int x1), (2, .int x2)] [] X)  (x1 : Int32) (x2 : Int32) (X : bsX) (hf : fX9_weakest_61 k13 x1 x2 X = some z) : bsV p l e rmX9_weakest s m args below meth c 0 0 (MQ below (bsQi ρ cA dC dI Rz z s.heap.size) args s 0 0 (bsA ρ cA Rz s.heap.size)) ρ cA dC dI Rz 3 61 [(0, .ref (ρ 14 0 0)), (1, .int x1), (2, .int x2)] [] X := by
  rw [fX9_weakest_61] at hf
  refine v_iinc (k0 := 2) (v := (x2 + (1 : Int32))) (lv' := [(2, .int (x2 + (1 : Int32))), (0, .ref (ρ 14 0 0)), (1, .int x1)]) C dX9_weakest_61 rfl rfl (by decide) rfl ?_
  refine v_goto (tgt := 13) C dX9_weakest_64 (by decide) ?_
  refine v_sub [1, 2, 0] rfl ?_
  exact hk13 _ _ _  hf
set_option maxHeartbeats 4000000 in
set_option maxRecDepth 100000 in
theorem wX9_weakest_59 {p : Program} {l : Launch} {e : Env} {s : State} {m : MethodId} {args : Array Value} {below : List Frame} {meth : Method} {c : Code} {ρ : bsR} {cA : Nat → ClassId} {dC : Nat → ClassId} {dI : Nat → Nat → Nat} {Rz : va_W} {Ts : List Cond}  (k13 : Int32 → Int32 → bsX → Option (Int32 × bsX))  {z : (Int32 × bsX)} (C : bsCx p m c cX9_weakest 3 s args Ts RX9 ρ cA dC dI Rz meth (some .int)) (hk13 : ∀ (x1 : Int32) (x2 : Int32) (X : bsX), k13 x1 x2 X = some z → bsV p l e rmX9_weakest s m args below meth c 0 0 (MQ below (bsQi ρ cA dC dI Rz z s.heap.size) args s 0 0 (bsA ρ cA Rz s.heap.size)) ρ cA dC dI Rz 3 13 [(0, .ref (ρ 14 0 0)), (1, .int x1), (2, .int x2)] [] X)  (x2 : Int32) (X : bsX) (hf : fX9_weakest_59 k13 x2 X = some z) : bsV p l e rmX9_weakest s m args below meth c 0 0 (MQ below (bsQi ρ cA dC dI Rz z s.heap.size) args s 0 0 (bsA ρ cA Rz s.heap.size)) ρ cA dC dI Rz 3 59 [(0, .ref (ρ 14 0 0)), (2, .int x2)] [] X := by
  rw [fX9_weakest_59] at hf
  refine v_iload_n C dX9_weakest_59 rfl rfl ?_
  refine v_istore_n (lv' := [(1, .int x2), (0, .ref (ρ 14 0 0)), (2, .int x2)]) C dX9_weakest_60 rfl (by decide) rfl ?_
  refine v_sub [1, 0, 2] rfl ?_
  exact wX9_weakest_61  k13 C hk13 _ _ _  hf
set_option maxHeartbeats 4000000 in
set_option maxRecDepth 100000 in
theorem wX9_weakest_13 {p : Program} {l : Launch} {e : Env} {s : State} {m : MethodId} {args : Array Value} {below : List Frame} {meth : Method} {c : Code} {ρ : bsR} {cA : Nat → ClassId} {dC : Nat → ClassId} {dI : Nat → Nat → Nat} {Rz : va_W} {Ts : List Cond}   {z : (Int32 × bsX)} (C : bsCx p m c cX9_weakest 3 s args Ts RX9 ρ cA dC dI Rz meth (some .int)) : ∀ (n : Nat) (x1 : Int32) (x2 : Int32) (X : bsX), fX9_weakest_13  n x1 x2 X = some z → bsV p l e rmX9_weakest s m args below meth c 0 0 (MQ below (bsQi ρ cA dC dI Rz z s.heap.size) args s 0 0 (bsA ρ cA Rz s.heap.size)) ρ cA dC dI Rz 3 13 [(0, .ref (ρ 14 0 0)), (1, .int x1), (2, .int x2)] [] X := by
  intro n
  induction n with
  | zero => intro x1 x2 X hf; exact (nomatch hf)
  | succ n ih =>
    intro x1 x2 X hf
    rw [fX9_weakest_13] at hf
    refine v_iload_n C dX9_weakest_13 rfl rfl ?_
    refine v_aload_n C dX9_weakest_14 rfl rfl ?_
    refine gf_X9_7 C dX9_weakest_15 ?_
    refine v_iconst (v := 0) C dX9_weakest_18 (by decide) ?_
    obtain ⟨hi1, hf⟩ := bs_if hf
    refine v_iald (n := 160) C bsm_14_1 bsc_14_1 hi1 dX9_weakest_19 ?_
    refine v_icmp_ge (tgt := 67) C dX9_weakest_20 (by decide) (fun h14 => ?_) (fun h14 => ?_)
    · replace hf := bs_pos h14 hf
      refine v_iload_n C dX9_weakest_67 rfl rfl ?_
      exact v_iret C hf dX9_weakest_68
    · replace hf := bs_neg h14 hf
      refine v_aload_n C dX9_weakest_23 rfl rfl ?_
      refine v_iload_n C dX9_weakest_24 rfl rfl ?_
      obtain ⟨r2, hc3, hf⟩ := bs_bind hf
      refine v_callVi (y := yX9_canBoot) (As := [.int x2]) (rest := []) C (cX9_canBoot_ok  hc3) ml_X9_70 wyX9_canBoot (bsm_X9) (bsc_X9) rfl dpX9_canBoot ⟨Nat.le_of_ble_eq_true rfl, Nat.le_of_ble_eq_true rfl⟩ ⟨rfl, rfl⟩ ⟨Nat.le_of_ble_eq_true rfl, Nat.le_of_ble_eq_true rfl⟩ rfl (Nat.le_of_ble_eq_true rfl) dX9_weakest_25 ?_
      refine v_if_eq (tgt := 61) C dX9_weakest_28 (by decide) (fun h13 => ?_) (fun h13 => ?_)
      · replace hf := bs_pos h13 hf
        refine v_sub [0, 1, 2] rfl ?_
        exact wX9_weakest_61  (fX9_weakest_13  n) C (fun b0 b1 X  h => ih b0 b1 X  h) _ _ _  hf
      · replace hf := bs_neg h13 hf
        refine v_aload_n C dX9_weakest_31 rfl rfl ?_
        refine v_iload_n C dX9_weakest_32 rfl rfl ?_
        obtain ⟨r4, hc5, hf⟩ := bs_bind hf
        refine v_callVi (y := yX9_isGood) (As := [.int x2]) (rest := []) C (cX9_isGood_ok  hc5) ml_X9_63 wyX9_isGood (bsm_X9) (bsc_X9) rfl dpX9_isGood ⟨Nat.le_of_ble_eq_true rfl, Nat.le_of_ble_eq_true rfl⟩ ⟨rfl, rfl⟩ ⟨Nat.le_of_ble_eq_true rfl, Nat.le_of_ble_eq_true rfl⟩ rfl (Nat.le_of_ble_eq_true rfl) dX9_weakest_33 ?_
        refine v_if_ne (tgt := 61) C dX9_weakest_36 (by decide) (fun h12 => ?_) (fun h12 => ?_)
        · replace hf := bs_neg h12 hf
          refine v_sub [0, 1, 2] rfl ?_
          exact wX9_weakest_61  (fX9_weakest_13  n) C (fun b0 b1 X  h => ih b0 b1 X  h) _ _ _  hf
        · replace hf := bs_pos h12 hf
          refine v_iload_n C dX9_weakest_39 rfl rfl ?_
          refine v_iconst (v := -1) C dX9_weakest_40 (by decide) ?_
          refine v_icmp_eq (tgt := 59) C dX9_weakest_41 (by decide) (fun h11 => ?_) (fun h11 => ?_)
          · replace hf := bs_pos h11 hf
            refine v_sub [0, 2] rfl ?_
            exact wX9_weakest_59  (fX9_weakest_13  n) C (fun b0 b1 X  h => ih b0 b1 X  h) _ _  hf
          · replace hf := bs_neg h11 hf
            refine v_aload_n C dX9_weakest_44 rfl rfl ?_
            refine v_iload_n C dX9_weakest_45 rfl rfl ?_
            refine v_iconst (v := 2) C dX9_weakest_46 (by decide) ?_
            obtain ⟨r6, hc7, hf⟩ := bs_bind hf
            refine v_callVi (y := yX9_of) (As := [.int x2, .int (2 : Int32)]) (rest := []) C (cX9_of_ok  hc7) ml_X9_56 wyX9_of (bsm_X9) (bsc_X9) rfl dpX9_of ⟨Nat.le_of_ble_eq_true rfl, Nat.le_of_ble_eq_true rfl⟩ ⟨rfl, rfl⟩ ⟨Nat.le_of_ble_eq_true rfl, Nat.le_of_ble_eq_true rfl⟩ rfl (Nat.le_of_ble_eq_true rfl) dX9_weakest_47 ?_
            refine v_aload_n C dX9_weakest_50 rfl rfl ?_
            refine v_iload_n C dX9_weakest_51 rfl rfl ?_
            refine v_iconst (v := 2) C dX9_weakest_52 (by decide) ?_
            obtain ⟨r8, hc9, hf⟩ := bs_bind hf
            refine v_callVi (y := yX9_of) (As := [.int x1, .int (2 : Int32)]) (rest := [.int r6.1]) C (cX9_of_ok  hc9) ml_X9_56 wyX9_of (bsm_X9) (bsc_X9) rfl dpX9_of ⟨Nat.le_of_ble_eq_true rfl, Nat.le_of_ble_eq_true rfl⟩ ⟨rfl, rfl⟩ ⟨Nat.le_of_ble_eq_true rfl, Nat.le_of_ble_eq_true rfl⟩ rfl (Nat.le_of_ble_eq_true rfl) dX9_weakest_53 ?_
            refine v_icmp_ge (tgt := 61) C dX9_weakest_56 (by decide) (fun h10 => ?_) (fun h10 => ?_)
            · replace hf := bs_pos h10 hf
              refine v_sub [0, 1, 2] rfl ?_
              exact wX9_weakest_61  (fX9_weakest_13  n) C (fun b0 b1 X  h => ih b0 b1 X  h) _ _ _  hf
            · replace hf := bs_neg h10 hf
              refine v_sub [0, 2] rfl ?_
              exact wX9_weakest_59  (fX9_weakest_13  n) C (fun b0 b1 X  h => ih b0 b1 X  h) _ _  hf
set_option maxHeartbeats 4000000 in
set_option maxRecDepth 100000 in
theorem cX9_weakest_ok {l : Launch} {ρ : bsR} {cA : Nat → ClassId} {dC : Nat → ClassId} {dI : Nat → Nat → Nat} {Rz : va_W}  {X : bsX} {z : (Int32 × bsX)} (hf : fX9_weakest  X = some z) : bsMi l yX9_weakest cX9_weakest 3 (some .int) rmX9_weakest ρ cA dC dI Rz [.ref (ρ 14 0 0)] X z := by
  refine bsMi_of (by decide) (Nat.le_of_ble_eq_true rfl) (fun p e s m args below meth c C => ?_)
  have C : bsCx p m c cX9_weakest 3 s args (Cond.code yX9_weakest cX9_weakest 3 (some .int) :: bsG) RX9 ρ cA dC dI Rz meth (some .int) := C
  rw [fX9_weakest] at hf
  refine v_sub [0] rfl ?_
  refine v_aload_n C dX9_weakest_0 rfl rfl ?_
  obtain ⟨r15, hc16, hf⟩ := bs_bind hf
  refine v_callVi (y := yX9_notLoaded) (As := []) (rest := []) C (cX9_notLoaded_ok  hc16) ml_X9_48 wyX9_notLoaded (bsm_X9) (bsc_X9) rfl dpX9_notLoaded ⟨Nat.le_of_ble_eq_true rfl, Nat.le_of_ble_eq_true rfl⟩ ⟨rfl, rfl⟩ ⟨Nat.le_of_ble_eq_true rfl, Nat.le_of_ble_eq_true rfl⟩ rfl (Nat.le_of_ble_eq_true rfl) dX9_weakest_1 ?_
  refine v_if_eq (tgt := 9) C dX9_weakest_4 (by decide) (fun h17 => ?_) (fun h17 => ?_)
  · replace hf := bs_pos h17 hf
    refine v_iconst (v := -1) C dX9_weakest_9 (by decide) ?_
    refine v_istore_n (lv' := [(1, .int (-1 : Int32)), (0, .ref (ρ 14 0 0))]) C dX9_weakest_10 rfl (by decide) rfl ?_
    refine v_iconst (v := 0) C dX9_weakest_11 (by decide) ?_
    refine v_istore_n (lv' := [(2, .int (0 : Int32)), (1, .int (-1 : Int32)), (0, .ref (ρ 14 0 0))]) C dX9_weakest_12 rfl (by decide) rfl ?_
    refine v_sub [2, 1, 0] rfl ?_
    exact wX9_weakest_13   C  bsF _ _ _  hf
  · replace hf := bs_neg h17 hf
    refine v_iconst (v := 0) C dX9_weakest_7 (by decide) ?_
    exact v_iret C hf dX9_weakest_8
/-! BootSlotsModel.twins(I)I -/
def fX9_twins_68 (k14 : Int32 → Int32 → Int32 → bsX → Option (Int32 × bsX)) (x1 : Int32) (x3 : Int32) (y0 : Int32) (y1 : Int32) (X : bsX) : Option (Int32 × bsX) := (fX9_flag  y1 X).bind fun r1 => k14 x1 (y0 ||| (r1.1 <<< (x3 &&& 31))) (x3 + (1 : Int32)) r1.2
def fX9_twins_67 (k14 : Int32 → Int32 → Int32 → bsX → Option (Int32 × bsX)) (x1 : Int32) (x3 : Int32) (y0 : Int32) (X : bsX) : Option (Int32 × bsX) := fX9_twins_68  k14 x1 x3 y0 (0 : Int32) X
def fX9_twins_14 : Nat → Int32 → Int32 → Int32 → bsX → Option (Int32 × bsX)
  | 0, _, _, _, _ => none
  | n + 1, x1, x2, x3, X => if bsIn (0 : Int32) 160 then (if (X 14 1 0 (bsIx (0 : Int32))) ≤ x3 then (some (x2, X)) else (if x3 = x1 then (fX9_twins_67  (fX9_twins_14  n) x1 x3 x2 X) else ((fX9_has  x1 X).bind fun r4 => if r4.1 = 0 then (fX9_twins_67  (fX9_twins_14  n) x1 x3 x2 r4.2) else ((fX9_has  x3 r4.2).bind fun r6 => if r6.1 = 0 then (fX9_twins_67  (fX9_twins_14  n) x1 x3 x2 r6.2) else ((fX9_of  x3 (8 : Int32) r6.2).bind fun r8 => (fX9_of  x1 (8 : Int32) r8.2).bind fun r10 => if r8.1 = r10.1 then (fX9_twins_68  (fX9_twins_14  n) x1 x3 x2 (1 : Int32) r10.2) else (fX9_twins_67  (fX9_twins_14  n) x1 x3 x2 r10.2)))))) else none
def fX9_twins (a1 : Int32) (X : bsX) : Option (Int32 × bsX) := (fX9_noSlot  a1 X).bind fun r17 => if r17.1 = 0 then (fX9_twins_14   bsF a1 (0 : Int32) (0 : Int32) r17.2) else (some ((0 : Int32), r17.2))
abbrev rmX9_twins : Room := { frames := 3, cells := 0, slots := 0, locals := 67 }
set_option maxHeartbeats 4000000 in
set_option maxRecDepth 100000 in
theorem wX9_twins_68 {p : Program} {l : Launch} {e : Env} {s : State} {m : MethodId} {args : Array Value} {below : List Frame} {meth : Method} {c : Code} {ρ : bsR} {cA : Nat → ClassId} {dC : Nat → ClassId} {dI : Nat → Nat → Nat} {Rz : va_W} {Ts : List Cond}  (k14 : Int32 → Int32 → Int32 → bsX → Option (Int32 × bsX))  {z : (Int32 × bsX)} (C : bsCx p m c cX9_twins 4 s args Ts RX9 ρ cA dC dI Rz meth (some .int)) (hk14 : ∀ (x1 : Int32) (x2 : Int32) (x3 : Int32) (X : bsX), k14 x1 x2 x3 X = some z → bsV p l e rmX9_twins s m args below meth c 0 0 (MQ below (bsQi ρ cA dC dI Rz z s.heap.size) args s 0 0 (bsA ρ cA Rz s.heap.size)) ρ cA dC dI Rz 4 14 [(0, .ref (ρ 14 0 0)), (1, .int x1), (2, .int x2), (3, .int x3)] [] X)  (x1 : Int32) (x3 : Int32) (y0 : Int32) (y1 : Int32) (X : bsX) (hf : fX9_twins_68 k14 x1 x3 y0 y1 X = some z) : bsV p l e rmX9_twins s m args below meth c 0 0 (MQ below (bsQi ρ cA dC dI Rz z s.heap.size) args s 0 0 (bsA ρ cA Rz s.heap.size)) ρ cA dC dI Rz 4 68 [(0, .ref (ρ 14 0 0)), (1, .int x1), (3, .int x3)] [.int y1, .int y0] X := by
  rw [fX9_twins_68] at hf
  obtain ⟨r1, hc2, hf⟩ := bs_bind hf
  refine v_callSi (y := yX9_flag) (As := [.int y1]) (rest := [.int y0]) C (cX9_flag_ok  hc2) ml_X9_113 wzX9_flag dpX9_flag ⟨Nat.le_of_ble_eq_true rfl, Nat.le_of_ble_eq_true rfl⟩ ⟨rfl, rfl⟩ ⟨Nat.le_of_ble_eq_true rfl, Nat.le_of_ble_eq_true rfl⟩ rfl (Nat.le_of_ble_eq_true rfl) dX9_twins_68 ?_
  refine v_iload_n C dX9_twins_71 rfl rfl ?_
  refine v_ishl C dX9_twins_72 ?_
  refine v_ior C dX9_twins_73 ?_
  refine v_istore_n (lv' := [(2, .int (y0 ||| (r1.1 <<< (x3 &&& 31)))), (0, .ref (ρ 14 0 0)), (1, .int x1), (3, .int x3)]) C dX9_twins_74 rfl (by decide) rfl ?_
  refine v_iinc (k0 := 3) (v := (x3 + (1 : Int32))) (lv' := [(3, .int (x3 + (1 : Int32))), (2, .int (y0 ||| (r1.1 <<< (x3 &&& 31)))), (0, .ref (ρ 14 0 0)), (1, .int x1)]) C dX9_twins_75 rfl rfl (by decide) rfl ?_
  refine v_goto (tgt := 14) C dX9_twins_78 (by decide) ?_
  refine v_sub [2, 3, 1, 0] rfl ?_
  exact hk14 _ _ _ _  hf
set_option maxHeartbeats 4000000 in
set_option maxRecDepth 100000 in
theorem wX9_twins_67 {p : Program} {l : Launch} {e : Env} {s : State} {m : MethodId} {args : Array Value} {below : List Frame} {meth : Method} {c : Code} {ρ : bsR} {cA : Nat → ClassId} {dC : Nat → ClassId} {dI : Nat → Nat → Nat} {Rz : va_W} {Ts : List Cond}  (k14 : Int32 → Int32 → Int32 → bsX → Option (Int32 × bsX))  {z : (Int32 × bsX)} (C : bsCx p m c cX9_twins 4 s args Ts RX9 ρ cA dC dI Rz meth (some .int)) (hk14 : ∀ (x1 : Int32) (x2 : Int32) (x3 : Int32) (X : bsX), k14 x1 x2 x3 X = some z → bsV p l e rmX9_twins s m args below meth c 0 0 (MQ below (bsQi ρ cA dC dI Rz z s.heap.size) args s 0 0 (bsA ρ cA Rz s.heap.size)) ρ cA dC dI Rz 4 14 [(0, .ref (ρ 14 0 0)), (1, .int x1), (2, .int x2), (3, .int x3)] [] X)  (x1 : Int32) (x3 : Int32) (y0 : Int32) (X : bsX) (hf : fX9_twins_67 k14 x1 x3 y0 X = some z) : bsV p l e rmX9_twins s m args below meth c 0 0 (MQ below (bsQi ρ cA dC dI Rz z s.heap.size) args s 0 0 (bsA ρ cA Rz s.heap.size)) ρ cA dC dI Rz 4 67 [(0, .ref (ρ 14 0 0)), (1, .int x1), (3, .int x3)] [.int y0] X := by
  rw [fX9_twins_67] at hf
  refine v_iconst (v := 0) C dX9_twins_67 (by decide) ?_
  refine v_sub [0, 1, 2] rfl ?_
  exact wX9_twins_68  k14 C hk14 _ _ _ _ _  hf
set_option maxHeartbeats 4000000 in
set_option maxRecDepth 100000 in
theorem wX9_twins_14 {p : Program} {l : Launch} {e : Env} {s : State} {m : MethodId} {args : Array Value} {below : List Frame} {meth : Method} {c : Code} {ρ : bsR} {cA : Nat → ClassId} {dC : Nat → ClassId} {dI : Nat → Nat → Nat} {Rz : va_W} {Ts : List Cond}   {z : (Int32 × bsX)} (C : bsCx p m c cX9_twins 4 s args Ts RX9 ρ cA dC dI Rz meth (some .int)) : ∀ (n : Nat) (x1 : Int32) (x2 : Int32) (x3 : Int32) (X : bsX), fX9_twins_14  n x1 x2 x3 X = some z → bsV p l e rmX9_twins s m args below meth c 0 0 (MQ below (bsQi ρ cA dC dI Rz z s.heap.size) args s 0 0 (bsA ρ cA Rz s.heap.size)) ρ cA dC dI Rz 4 14 [(0, .ref (ρ 14 0 0)), (1, .int x1), (2, .int x2), (3, .int x3)] [] X := by
  intro n
  induction n with
  | zero => intro x1 x2 x3 X hf; exact (nomatch hf)
  | succ n ih =>
    intro x1 x2 x3 X hf
    rw [fX9_twins_14] at hf
    refine v_iload_n C dX9_twins_14 rfl rfl ?_
    refine v_aload_n C dX9_twins_15 rfl rfl ?_
    refine gf_X9_7 C dX9_twins_16 ?_
    refine v_iconst (v := 0) C dX9_twins_19 (by decide) ?_
    obtain ⟨hi3, hf⟩ := bs_if hf
    refine v_iald (n := 160) C bsm_14_1 bsc_14_1 hi3 dX9_twins_20 ?_
    refine v_icmp_ge (tgt := 81) C dX9_twins_21 (by decide) (fun h16 => ?_) (fun h16 => ?_)
    · replace hf := bs_pos h16 hf
      refine v_iload_n C dX9_twins_81 rfl rfl ?_
      exact v_iret C hf dX9_twins_82
    · replace hf := bs_neg h16 hf
      refine v_iload_n C dX9_twins_24 rfl rfl ?_
      refine v_iload_n C dX9_twins_25 rfl rfl ?_
      refine v_iload_n C dX9_twins_26 rfl rfl ?_
      refine v_icmp_eq (tgt := 67) C dX9_twins_27 (by decide) (fun h15 => ?_) (fun h15 => ?_)
      · replace hf := bs_pos h15 hf
        refine v_sub [0, 1, 3] rfl ?_
        exact wX9_twins_67  (fX9_twins_14  n) C (fun b0 b1 b2 X  h => ih b0 b1 b2 X  h) _ _ _ _  hf
      · replace hf := bs_neg h15 hf
        refine v_aload_n C dX9_twins_30 rfl rfl ?_
        refine v_iload_n C dX9_twins_31 rfl rfl ?_
        obtain ⟨r4, hc5, hf⟩ := bs_bind hf
        refine v_callVi (y := yX9_has) (As := [.int x1]) (rest := [.int x2]) C (cX9_has_ok  hc5) ml_X9_60 wyX9_has (bsm_X9) (bsc_X9) rfl dpX9_has ⟨Nat.le_of_ble_eq_true rfl, Nat.le_of_ble_eq_true rfl⟩ ⟨rfl, rfl⟩ ⟨Nat.le_of_ble_eq_true rfl, Nat.le_of_ble_eq_true rfl⟩ rfl (Nat.le_of_ble_eq_true rfl) dX9_twins_32 ?_
        refine v_if_eq (tgt := 67) C dX9_twins_35 (by decide) (fun h14 => ?_) (fun h14 => ?_)
        · replace hf := bs_pos h14 hf
          refine v_sub [0, 1, 3] rfl ?_
          exact wX9_twins_67  (fX9_twins_14  n) C (fun b0 b1 b2 X  h => ih b0 b1 b2 X  h) _ _ _ _  hf
        · replace hf := bs_neg h14 hf
          refine v_aload_n C dX9_twins_38 rfl rfl ?_
          refine v_iload_n C dX9_twins_39 rfl rfl ?_
          obtain ⟨r6, hc7, hf⟩ := bs_bind hf
          refine v_callVi (y := yX9_has) (As := [.int x3]) (rest := [.int x2]) C (cX9_has_ok  hc7) ml_X9_60 wyX9_has (bsm_X9) (bsc_X9) rfl dpX9_has ⟨Nat.le_of_ble_eq_true rfl, Nat.le_of_ble_eq_true rfl⟩ ⟨rfl, rfl⟩ ⟨Nat.le_of_ble_eq_true rfl, Nat.le_of_ble_eq_true rfl⟩ rfl (Nat.le_of_ble_eq_true rfl) dX9_twins_40 ?_
          refine v_if_eq (tgt := 67) C dX9_twins_43 (by decide) (fun h13 => ?_) (fun h13 => ?_)
          · replace hf := bs_pos h13 hf
            refine v_sub [0, 1, 3] rfl ?_
            exact wX9_twins_67  (fX9_twins_14  n) C (fun b0 b1 b2 X  h => ih b0 b1 b2 X  h) _ _ _ _  hf
          · replace hf := bs_neg h13 hf
            refine v_aload_n C dX9_twins_46 rfl rfl ?_
            refine v_iload_n C dX9_twins_47 rfl rfl ?_
            refine v_bipush (v := 8) C dX9_twins_48 (by decide) ?_
            obtain ⟨r8, hc9, hf⟩ := bs_bind hf
            refine v_callVi (y := yX9_of) (As := [.int x3, .int (8 : Int32)]) (rest := [.int x2]) C (cX9_of_ok  hc9) ml_X9_56 wyX9_of (bsm_X9) (bsc_X9) rfl dpX9_of ⟨Nat.le_of_ble_eq_true rfl, Nat.le_of_ble_eq_true rfl⟩ ⟨rfl, rfl⟩ ⟨Nat.le_of_ble_eq_true rfl, Nat.le_of_ble_eq_true rfl⟩ rfl (Nat.le_of_ble_eq_true rfl) dX9_twins_50 ?_
            refine v_aload_n C dX9_twins_53 rfl rfl ?_
            refine v_iload_n C dX9_twins_54 rfl rfl ?_
            refine v_bipush (v := 8) C dX9_twins_55 (by decide) ?_
            obtain ⟨r10, hc11, hf⟩ := bs_bind hf
            refine v_callVi (y := yX9_of) (As := [.int x1, .int (8 : Int32)]) (rest := [.int r8.1, .int x2]) C (cX9_of_ok  hc11) ml_X9_56 wyX9_of (bsm_X9) (bsc_X9) rfl dpX9_of ⟨Nat.le_of_ble_eq_true rfl, Nat.le_of_ble_eq_true rfl⟩ ⟨rfl, rfl⟩ ⟨Nat.le_of_ble_eq_true rfl, Nat.le_of_ble_eq_true rfl⟩ rfl (Nat.le_of_ble_eq_true rfl) dX9_twins_57 ?_
            refine v_icmp_ne (tgt := 67) C dX9_twins_60 (by decide) (fun h12 => ?_) (fun h12 => ?_)
            · replace hf := bs_neg h12 hf
              refine v_sub [0, 1, 3] rfl ?_
              exact wX9_twins_67  (fX9_twins_14  n) C (fun b0 b1 b2 X  h => ih b0 b1 b2 X  h) _ _ _ _  hf
            · replace hf := bs_pos h12 hf
              refine v_iconst (v := 1) C dX9_twins_63 (by decide) ?_
              refine v_goto (tgt := 68) C dX9_twins_64 (by decide) ?_
              refine v_sub [0, 1, 3] rfl ?_
              exact wX9_twins_68  (fX9_twins_14  n) C (fun b0 b1 b2 X  h => ih b0 b1 b2 X  h) _ _ _ _ _  hf
set_option maxHeartbeats 4000000 in
set_option maxRecDepth 100000 in
theorem cX9_twins_ok {l : Launch} {ρ : bsR} {cA : Nat → ClassId} {dC : Nat → ClassId} {dI : Nat → Nat → Nat} {Rz : va_W}  {a1 : Int32} {X : bsX} {z : (Int32 × bsX)} (hf : fX9_twins a1 X = some z) : bsMi l yX9_twins cX9_twins 4 (some .int) rmX9_twins ρ cA dC dI Rz [.ref (ρ 14 0 0), .int a1] X z := by
  refine bsMi_of (by decide) (Nat.le_of_ble_eq_true rfl) (fun p e s m args below meth c C => ?_)
  have C : bsCx p m c cX9_twins 4 s args (Cond.code yX9_twins cX9_twins 4 (some .int) :: bsG) RX9 ρ cA dC dI Rz meth (some .int) := C
  rw [fX9_twins] at hf
  refine v_sub [0, 1] rfl ?_
  refine v_aload_n C dX9_twins_0 rfl rfl ?_
  refine v_iload_n C dX9_twins_1 rfl rfl ?_
  obtain ⟨r17, hc18, hf⟩ := bs_bind hf
  refine v_callVi (y := yX9_noSlot) (As := [.int a1]) (rest := []) C (cX9_noSlot_ok  hc18) ml_X9_260 wyX9_noSlot (bsm_X9) (bsc_X9) rfl dpX9_noSlot ⟨Nat.le_of_ble_eq_true rfl, Nat.le_of_ble_eq_true rfl⟩ ⟨rfl, rfl⟩ ⟨Nat.le_of_ble_eq_true rfl, Nat.le_of_ble_eq_true rfl⟩ rfl (Nat.le_of_ble_eq_true rfl) dX9_twins_2 ?_
  refine v_if_eq (tgt := 10) C dX9_twins_5 (by decide) (fun h19 => ?_) (fun h19 => ?_)
  · replace hf := bs_pos h19 hf
    refine v_iconst (v := 0) C dX9_twins_10 (by decide) ?_
    refine v_istore_n (lv' := [(2, .int (0 : Int32)), (0, .ref (ρ 14 0 0)), (1, .int a1)]) C dX9_twins_11 rfl (by decide) rfl ?_
    refine v_iconst (v := 0) C dX9_twins_12 (by decide) ?_
    refine v_istore_n (lv' := [(3, .int (0 : Int32)), (2, .int (0 : Int32)), (0, .ref (ρ 14 0 0)), (1, .int a1)]) C dX9_twins_13 rfl (by decide) rfl ?_
    refine v_sub [2, 3, 1, 0] rfl ?_
    exact wX9_twins_14   C  bsF _ _ _ _  hf
  · replace hf := bs_neg h19 hf
    refine v_iconst (v := 0) C dX9_twins_8 (by decide) ?_
    exact v_iret C hf dX9_twins_9
/-! BootSlotsModel.laysAside()V -/
def fX9_laysAside (X : bsX) : Option bsX := (fX9_copies 1 160 2 1760 (0 : Int32) (1600 : Int32) X).bind fun r1 => some r1
abbrev rmX9_laysAside : Room := { frames := 1, cells := 0, slots := 0, locals := 24 }
set_option maxHeartbeats 4000000 in
set_option maxRecDepth 100000 in
theorem cX9_laysAside_ok {l : Launch} {ρ : bsR} {cA : Nat → ClassId} {dC : Nat → ClassId} {dI : Nat → Nat → Nat} {Rz : va_W}  {X : bsX} {z : bsX} (hf : fX9_laysAside  X = some z) : bsMv l yX9_laysAside cX9_laysAside 1 none rmX9_laysAside ρ cA dC dI Rz [.ref (ρ 14 0 0)] X z := by
  refine bsMv_of (by decide) (Nat.le_of_ble_eq_true rfl) (fun p e s m args below meth c C => ?_)
  have C : bsCx p m c cX9_laysAside 1 s args (Cond.code yX9_laysAside cX9_laysAside 1 none :: bsG) RX9 ρ cA dC dI Rz meth none := C
  rw [fX9_laysAside] at hf
  refine v_sub [0] rfl ?_
  refine v_aload_n C dX9_laysAside_0 rfl rfl ?_
  refine gf_X9_7 C dX9_laysAside_1 ?_
  refine v_iconst (v := 0) C dX9_laysAside_4 (by decide) ?_
  refine v_aload_n C dX9_laysAside_5 rfl rfl ?_
  refine gf_X9_13 C dX9_laysAside_6 ?_
  refine v_sipush (v := 1600) C dX9_laysAside_9 (by decide) ?_
  obtain ⟨r1, hc2, hf⟩ := bs_bind hf
  refine v_callSv (y := yX9_copies) (As := [.ref (ρ 14 1 0), .int (0 : Int32), .ref (ρ 14 2 0), .int (1600 : Int32)]) (rest := []) C (cX9_copies_ok bsm_14_1 (fun _ _ _ => bsc_14_1) bsm_14_2 (fun _ _ _ => bsc_14_2) hc2) ml_X9_242 wzX9_copies dpX9_copies ⟨Nat.le_of_ble_eq_true rfl, Nat.le_of_ble_eq_true rfl⟩ ⟨rfl, rfl⟩ ⟨Nat.le_of_ble_eq_true rfl, Nat.le_of_ble_eq_true rfl⟩ rfl (Nat.le_of_ble_eq_true rfl) dX9_laysAside_12 ?_
  exact v_vret C hf dX9_laysAside_15
/-! BootSlotsModel.back(I)I -/
def fX9_back (a1 : Int32) (X : bsX) : Option (Int32 × bsX) := (fX9_copies 2 1760 1 160 (1600 : Int32) (0 : Int32) X).bind fun r1 => some (a1, r1)
abbrev rmX9_back : Room := { frames := 1, cells := 0, slots := 0, locals := 24 }
set_option maxHeartbeats 4000000 in
set_option maxRecDepth 100000 in
theorem cX9_back_ok {l : Launch} {ρ : bsR} {cA : Nat → ClassId} {dC : Nat → ClassId} {dI : Nat → Nat → Nat} {Rz : va_W}  {a1 : Int32} {X : bsX} {z : (Int32 × bsX)} (hf : fX9_back a1 X = some z) : bsMi l yX9_back cX9_back 2 (some .int) rmX9_back ρ cA dC dI Rz [.ref (ρ 14 0 0), .int a1] X z := by
  refine bsMi_of (by decide) (Nat.le_of_ble_eq_true rfl) (fun p e s m args below meth c C => ?_)
  have C : bsCx p m c cX9_back 2 s args (Cond.code yX9_back cX9_back 2 (some .int) :: bsG) RX9 ρ cA dC dI Rz meth (some .int) := C
  rw [fX9_back] at hf
  refine v_sub [0, 1] rfl ?_
  refine v_aload_n C dX9_back_0 rfl rfl ?_
  refine gf_X9_13 C dX9_back_1 ?_
  refine v_sipush (v := 1600) C dX9_back_4 (by decide) ?_
  refine v_aload_n C dX9_back_7 rfl rfl ?_
  refine gf_X9_7 C dX9_back_8 ?_
  refine v_iconst (v := 0) C dX9_back_11 (by decide) ?_
  obtain ⟨r1, hc2, hf⟩ := bs_bind hf
  refine v_callSv (y := yX9_copies) (As := [.ref (ρ 14 2 0), .int (1600 : Int32), .ref (ρ 14 1 0), .int (0 : Int32)]) (rest := []) C (cX9_copies_ok bsm_14_2 (fun _ _ _ => bsc_14_2) bsm_14_1 (fun _ _ _ => bsc_14_1) hc2) ml_X9_242 wzX9_copies dpX9_copies ⟨Nat.le_of_ble_eq_true rfl, Nat.le_of_ble_eq_true rfl⟩ ⟨rfl, rfl⟩ ⟨Nat.le_of_ble_eq_true rfl, Nat.le_of_ble_eq_true rfl⟩ rfl (Nat.le_of_ble_eq_true rfl) dX9_back_12 ?_
  refine v_iload_n C dX9_back_15 rfl rfl ?_
  exact v_iret C hf dX9_back_16
/-! BootSlotsModel.noTicks(II)Z -/
def fX9_noTicks_18 (x2 : Int32) (y1 : Int32) (X : bsX) : Option (Int32 × bsX) := (fX9_refuse  y1 x2 X).bind fun r1 => if r1.1 = 0 ∨ r1.1 = 1 then (some (r1.1, r1.2)) else none
def fX9_noTicks (a1 : Int32) (a2 : Int32) (X : bsX) : Option (Int32 × bsX) := (fX9_in  a1.toInt64 (0 : Int64) (300 : Int64) X).bind fun r4 => if r4.1 = 0 then (fX9_noTicks_18   a2 (1 : Int32) r4.2) else (fX9_noTicks_18   a2 (0 : Int32) r4.2)
abbrev rmX9_noTicks : Room := { frames := 1, cells := 0, slots := 0, locals := 25 }
set_option maxHeartbeats 4000000 in
set_option maxRecDepth 100000 in
theorem wX9_noTicks_18 {p : Program} {l : Launch} {e : Env} {s : State} {m : MethodId} {args : Array Value} {below : List Frame} {meth : Method} {c : Code} {ρ : bsR} {cA : Nat → ClassId} {dC : Nat → ClassId} {dI : Nat → Nat → Nat} {Rz : va_W} {Ts : List Cond}   {z : (Int32 × bsX)} (C : bsCx p m c cX9_noTicks 3 s args Ts RX9 ρ cA dC dI Rz meth (some .boolean)) (x2 : Int32) (y1 : Int32) (X : bsX) (hf : fX9_noTicks_18 x2 y1 X = some z) : bsV p l e rmX9_noTicks s m args below meth c 0 0 (MQ below (bsQi ρ cA dC dI Rz z s.heap.size) args s 0 0 (bsA ρ cA Rz s.heap.size)) ρ cA dC dI Rz 3 18 [(2, .int x2)] [.int y1, .ref (ρ 14 0 0)] X := by
  rw [fX9_noTicks_18] at hf
  refine v_iload_n C dX9_noTicks_18 rfl rfl ?_
  obtain ⟨r1, hc2, hf⟩ := bs_bind hf
  refine v_callVi (y := yX9_refuse) (As := [.int y1, .int x2]) (rest := []) C (cX9_refuse_ok  hc2) ml_X9_40 wyX9_refuse (bsm_X9) (bsc_X9) rfl dpX9_refuse ⟨Nat.le_of_ble_eq_true rfl, Nat.le_of_ble_eq_true rfl⟩ ⟨rfl, rfl⟩ ⟨Nat.le_of_ble_eq_true rfl, Nat.le_of_ble_eq_true rfl⟩ rfl (Nat.le_of_ble_eq_true rfl) dX9_noTicks_19 ?_
  obtain ⟨hb3, hf⟩ := bs_if hf
  exact v_zret C (bsZ01 hb3).1 hf dX9_noTicks_22
set_option maxHeartbeats 4000000 in
set_option maxRecDepth 100000 in
theorem cX9_noTicks_ok {l : Launch} {ρ : bsR} {cA : Nat → ClassId} {dC : Nat → ClassId} {dI : Nat → Nat → Nat} {Rz : va_W}  {a1 : Int32} {a2 : Int32} {X : bsX} {z : (Int32 × bsX)} (hf : fX9_noTicks a1 a2 X = some z) : bsMi l yX9_noTicks cX9_noTicks 3 (some .boolean) rmX9_noTicks ρ cA dC dI Rz [.ref (ρ 14 0 0), .int a1, .int a2] X z := by
  refine bsMi_of (by decide) (Nat.le_of_ble_eq_true rfl) (fun p e s m args below meth c C => ?_)
  have C : bsCx p m c cX9_noTicks 3 s args (Cond.code yX9_noTicks cX9_noTicks 3 (some .boolean) :: bsG) RX9 ρ cA dC dI Rz meth (some .boolean) := C
  rw [fX9_noTicks] at hf
  refine v_sub [0, 1, 2] rfl ?_
  refine v_aload_n C dX9_noTicks_0 rfl rfl ?_
  refine v_iload_n C dX9_noTicks_1 rfl rfl ?_
  refine v_i2l C dX9_noTicks_2 ?_
  refine v_lconst (v := (0 : Int64)) C dX9_noTicks_3 (by decide) ?_
  refine v_ldc2 (v := (300 : Int64)) C (bsG_in 1766 (by decide +kernel) rfl) dX9_noTicks_4 ?_
  obtain ⟨r4, hc5, hf⟩ := bs_bind hf
  refine v_callSi (y := yX9_in) (As := [.long a1.toInt64, .long (0 : Int64), .long (300 : Int64)]) (rest := [.ref (ρ 14 0 0)]) C (cX9_in_ok  hc5) ml_X9_44 wzX9_in dpX9_in ⟨Nat.le_of_ble_eq_true rfl, Nat.le_of_ble_eq_true rfl⟩ ⟨rfl, rfl⟩ ⟨Nat.le_of_ble_eq_true rfl, Nat.le_of_ble_eq_true rfl⟩ rfl (Nat.le_of_ble_eq_true rfl) dX9_noTicks_7 ?_
  refine v_if_ne (tgt := 17) C dX9_noTicks_10 (by decide) (fun h6 => ?_) (fun h6 => ?_)
  · replace hf := bs_neg h6 hf
    refine v_iconst (v := 0) C dX9_noTicks_17 (by decide) ?_
    refine v_sub [2] rfl ?_
    exact wX9_noTicks_18   C  _ _ _  hf
  · replace hf := bs_pos h6 hf
    refine v_iconst (v := 1) C dX9_noTicks_13 (by decide) ?_
    refine v_goto (tgt := 18) C dX9_noTicks_14 (by decide) ?_
    refine v_sub [2] rfl ?_
    exact wX9_noTicks_18   C  _ _ _  hf
/-! BootSlotsModel.numberIn(II)I -/
def fX9_numberIn (a1 : Int32) (a2 : Int32) (X : bsX) : Option (Int32 × bsX) := (fX9_laysAside   X).bind fun r1 => (fX9_ticksAll  a2 r1).bind fun r3 => if bsIn a1 160 then ((fX9_back  (r3 14 1 0 (bsIx a1)) r3).bind fun r6 => some (r6.1, r6.2)) else none
abbrev rmX9_numberIn : Room := { frames := 10, cells := 0, slots := 0, locals := 216 }
set_option maxHeartbeats 4000000 in
set_option maxRecDepth 100000 in
theorem cX9_numberIn_ok {l : Launch} {ρ : bsR} {cA : Nat → ClassId} {dC : Nat → ClassId} {dI : Nat → Nat → Nat} {Rz : va_W}  {a1 : Int32} {a2 : Int32} {X : bsX} {z : (Int32 × bsX)} (hf : fX9_numberIn a1 a2 X = some z) : bsMi l yX9_numberIn cX9_numberIn 3 (some .int) rmX9_numberIn ρ cA dC dI Rz [.ref (ρ 14 0 0), .int a1, .int a2] X z := by
  refine bsMi_of (by decide) (Nat.le_of_ble_eq_true rfl) (fun p e s m args below meth c C => ?_)
  have C : bsCx p m c cX9_numberIn 3 s args (Cond.code yX9_numberIn cX9_numberIn 3 (some .int) :: bsG) RX9 ρ cA dC dI Rz meth (some .int) := C
  rw [fX9_numberIn] at hf
  refine v_sub [0, 1, 2] rfl ?_
  refine v_aload_n C dX9_numberIn_0 rfl rfl ?_
  obtain ⟨r1, hc2, hf⟩ := bs_bind hf
  refine v_callVv (y := yX9_laysAside) (As := []) (rest := []) C (cX9_laysAside_ok  hc2) ml_X9_280 wyX9_laysAside (bsm_X9) (bsc_X9) rfl dpX9_laysAside ⟨Nat.le_of_ble_eq_true rfl, Nat.le_of_ble_eq_true rfl⟩ ⟨rfl, rfl⟩ ⟨Nat.le_of_ble_eq_true rfl, Nat.le_of_ble_eq_true rfl⟩ rfl (Nat.le_of_ble_eq_true rfl) dX9_numberIn_1 ?_
  refine v_aload_n C dX9_numberIn_4 rfl rfl ?_
  refine v_iload_n C dX9_numberIn_5 rfl rfl ?_
  obtain ⟨r3, hc4, hf⟩ := bs_bind hf
  refine v_callVv (y := yX9_ticksAll) (As := [.int a2]) (rest := []) C (cX9_ticksAll_ok  hc4) ml_X9_283 wyX9_ticksAll (bsm_X9) (bsc_X9) rfl dpX9_ticksAll ⟨Nat.le_of_ble_eq_true rfl, Nat.le_of_ble_eq_true rfl⟩ ⟨rfl, rfl⟩ ⟨Nat.le_of_ble_eq_true rfl, Nat.le_of_ble_eq_true rfl⟩ rfl (Nat.le_of_ble_eq_true rfl) dX9_numberIn_6 ?_
  refine v_aload_n C dX9_numberIn_9 rfl rfl ?_
  refine v_aload_n C dX9_numberIn_10 rfl rfl ?_
  refine gf_X9_7 C dX9_numberIn_11 ?_
  refine v_iload_n C dX9_numberIn_14 rfl rfl ?_
  obtain ⟨hi5, hf⟩ := bs_if hf
  refine v_iald (n := 160) C bsm_14_1 bsc_14_1 hi5 dX9_numberIn_15 ?_
  obtain ⟨r6, hc7, hf⟩ := bs_bind hf
  refine v_callVi (y := yX9_back) (As := [.int (r3 14 1 0 (bsIx a1))]) (rest := []) C (cX9_back_ok  hc7) ml_X9_286 wyX9_back (bsm_X9) (bsc_X9) rfl dpX9_back ⟨Nat.le_of_ble_eq_true rfl, Nat.le_of_ble_eq_true rfl⟩ ⟨rfl, rfl⟩ ⟨Nat.le_of_ble_eq_true rfl, Nat.le_of_ble_eq_true rfl⟩ rfl (Nat.le_of_ble_eq_true rfl) dX9_numberIn_16 ?_
  exact v_iret C hf dX9_numberIn_19
/-! BootSlotsModel.stateIn(I)I -/
def fX9_stateIn_16 (X : bsX) : Option (Int32 × bsX) := some ((0 : Int32), X)
def fX9_stateIn (a1 : Int32) (X : bsX) : Option (Int32 × bsX) := (fX9_notLoaded   X).bind fun r1 => if r1.1 = 0 then ((fX9_noTicks  a1 (2 : Int32) r1.2).bind fun r3 => if r3.1 = 0 then ((fX9_numberIn  (6 : Int32) a1 r3.2).bind fun r5 => some (r5.1, r5.2)) else (fX9_stateIn_16    r3.2)) else (fX9_stateIn_16    r1.2)
abbrev rmX9_stateIn : Room := { frames := 11, cells := 0, slots := 0, locals := 238 }
set_option maxHeartbeats 4000000 in
set_option maxRecDepth 100000 in
theorem wX9_stateIn_16 {p : Program} {l : Launch} {e : Env} {s : State} {m : MethodId} {args : Array Value} {below : List Frame} {meth : Method} {c : Code} {ρ : bsR} {cA : Nat → ClassId} {dC : Nat → ClassId} {dI : Nat → Nat → Nat} {Rz : va_W} {Ts : List Cond}   {z : (Int32 × bsX)} (C : bsCx p m c cX9_stateIn 2 s args Ts RX9 ρ cA dC dI Rz meth (some .int)) (X : bsX) (hf : fX9_stateIn_16  X = some z) : bsV p l e rmX9_stateIn s m args below meth c 0 0 (MQ below (bsQi ρ cA dC dI Rz z s.heap.size) args s 0 0 (bsA ρ cA Rz s.heap.size)) ρ cA dC dI Rz 2 16 [] [] X := by
  rw [fX9_stateIn_16] at hf
  refine v_iconst (v := 0) C dX9_stateIn_16 (by decide) ?_
  refine v_goto (tgt := 27) C dX9_stateIn_17 (by decide) ?_
  exact v_iret C hf dX9_stateIn_27
set_option maxHeartbeats 4000000 in
set_option maxRecDepth 100000 in
theorem cX9_stateIn_ok {l : Launch} {ρ : bsR} {cA : Nat → ClassId} {dC : Nat → ClassId} {dI : Nat → Nat → Nat} {Rz : va_W}  {a1 : Int32} {X : bsX} {z : (Int32 × bsX)} (hf : fX9_stateIn a1 X = some z) : bsMi l yX9_stateIn cX9_stateIn 2 (some .int) rmX9_stateIn ρ cA dC dI Rz [.ref (ρ 14 0 0), .int a1] X z := by
  refine bsMi_of (by decide) (Nat.le_of_ble_eq_true rfl) (fun p e s m args below meth c C => ?_)
  have C : bsCx p m c cX9_stateIn 2 s args (Cond.code yX9_stateIn cX9_stateIn 2 (some .int) :: bsG) RX9 ρ cA dC dI Rz meth (some .int) := C
  rw [fX9_stateIn] at hf
  refine v_sub [0, 1] rfl ?_
  refine v_aload_n C dX9_stateIn_0 rfl rfl ?_
  obtain ⟨r1, hc2, hf⟩ := bs_bind hf
  refine v_callVi (y := yX9_notLoaded) (As := []) (rest := []) C (cX9_notLoaded_ok  hc2) ml_X9_48 wyX9_notLoaded (bsm_X9) (bsc_X9) rfl dpX9_notLoaded ⟨Nat.le_of_ble_eq_true rfl, Nat.le_of_ble_eq_true rfl⟩ ⟨rfl, rfl⟩ ⟨Nat.le_of_ble_eq_true rfl, Nat.le_of_ble_eq_true rfl⟩ rfl (Nat.le_of_ble_eq_true rfl) dX9_stateIn_1 ?_
  refine v_if_ne (tgt := 16) C dX9_stateIn_4 (by decide) (fun h8 => ?_) (fun h8 => ?_)
  · replace hf := bs_neg h8 hf
    refine v_sub [] rfl ?_
    exact wX9_stateIn_16   C  _  hf
  · replace hf := bs_pos h8 hf
    refine v_aload_n C dX9_stateIn_7 rfl rfl ?_
    refine v_iload_n C dX9_stateIn_8 rfl rfl ?_
    refine v_iconst (v := 2) C dX9_stateIn_9 (by decide) ?_
    obtain ⟨r3, hc4, hf⟩ := bs_bind hf
    refine v_callVi (y := yX9_noTicks) (As := [.int a1, .int (2 : Int32)]) (rest := []) C (cX9_noTicks_ok  hc4) ml_X9_289 wyX9_noTicks (bsm_X9) (bsc_X9) rfl dpX9_noTicks ⟨Nat.le_of_ble_eq_true rfl, Nat.le_of_ble_eq_true rfl⟩ ⟨rfl, rfl⟩ ⟨Nat.le_of_ble_eq_true rfl, Nat.le_of_ble_eq_true rfl⟩ rfl (Nat.le_of_ble_eq_true rfl) dX9_stateIn_10 ?_
    refine v_if_eq (tgt := 20) C dX9_stateIn_13 (by decide) (fun h7 => ?_) (fun h7 => ?_)
    · replace hf := bs_pos h7 hf
      refine v_aload_n C dX9_stateIn_20 rfl rfl ?_
      refine v_bipush (v := 6) C dX9_stateIn_21 (by decide) ?_
      refine v_iload_n C dX9_stateIn_23 rfl rfl ?_
      obtain ⟨r5, hc6, hf⟩ := bs_bind hf
      refine v_callVi (y := yX9_numberIn) (As := [.int (6 : Int32), .int a1]) (rest := []) C (cX9_numberIn_ok  hc6) ml_X9_292 wyX9_numberIn (bsm_X9) (bsc_X9) rfl dpX9_numberIn ⟨Nat.le_of_ble_eq_true rfl, Nat.le_of_ble_eq_true rfl⟩ ⟨rfl, rfl⟩ ⟨Nat.le_of_ble_eq_true rfl, Nat.le_of_ble_eq_true rfl⟩ rfl (Nat.le_of_ble_eq_true rfl) dX9_stateIn_24 ?_
      exact v_iret C hf dX9_stateIn_27
    · replace hf := bs_neg h7 hf
      refine v_sub [] rfl ?_
      exact wX9_stateIn_16   C  _  hf
/-! BootSlotsModel.slotIn(I)I -/
def fX9_slotIn_16 (X : bsX) : Option (Int32 × bsX) := some ((0 : Int32), X)
def fX9_slotIn (a1 : Int32) (X : bsX) : Option (Int32 × bsX) := (fX9_notLoaded   X).bind fun r1 => if r1.1 = 0 then ((fX9_noTicks  a1 (2 : Int32) r1.2).bind fun r3 => if r3.1 = 0 then ((fX9_numberIn  (7 : Int32) a1 r3.2).bind fun r5 => some (r5.1, r5.2)) else (fX9_slotIn_16    r3.2)) else (fX9_slotIn_16    r1.2)
abbrev rmX9_slotIn : Room := { frames := 11, cells := 0, slots := 0, locals := 238 }
set_option maxHeartbeats 4000000 in
set_option maxRecDepth 100000 in
theorem wX9_slotIn_16 {p : Program} {l : Launch} {e : Env} {s : State} {m : MethodId} {args : Array Value} {below : List Frame} {meth : Method} {c : Code} {ρ : bsR} {cA : Nat → ClassId} {dC : Nat → ClassId} {dI : Nat → Nat → Nat} {Rz : va_W} {Ts : List Cond}   {z : (Int32 × bsX)} (C : bsCx p m c cX9_slotIn 2 s args Ts RX9 ρ cA dC dI Rz meth (some .int)) (X : bsX) (hf : fX9_slotIn_16  X = some z) : bsV p l e rmX9_slotIn s m args below meth c 0 0 (MQ below (bsQi ρ cA dC dI Rz z s.heap.size) args s 0 0 (bsA ρ cA Rz s.heap.size)) ρ cA dC dI Rz 2 16 [] [] X := by
  rw [fX9_slotIn_16] at hf
  refine v_iconst (v := 0) C dX9_slotIn_16 (by decide) ?_
  refine v_goto (tgt := 27) C dX9_slotIn_17 (by decide) ?_
  exact v_iret C hf dX9_slotIn_27
set_option maxHeartbeats 4000000 in
set_option maxRecDepth 100000 in
theorem cX9_slotIn_ok {l : Launch} {ρ : bsR} {cA : Nat → ClassId} {dC : Nat → ClassId} {dI : Nat → Nat → Nat} {Rz : va_W}  {a1 : Int32} {X : bsX} {z : (Int32 × bsX)} (hf : fX9_slotIn a1 X = some z) : bsMi l yX9_slotIn cX9_slotIn 2 (some .int) rmX9_slotIn ρ cA dC dI Rz [.ref (ρ 14 0 0), .int a1] X z := by
  refine bsMi_of (by decide) (Nat.le_of_ble_eq_true rfl) (fun p e s m args below meth c C => ?_)
  have C : bsCx p m c cX9_slotIn 2 s args (Cond.code yX9_slotIn cX9_slotIn 2 (some .int) :: bsG) RX9 ρ cA dC dI Rz meth (some .int) := C
  rw [fX9_slotIn] at hf
  refine v_sub [0, 1] rfl ?_
  refine v_aload_n C dX9_slotIn_0 rfl rfl ?_
  obtain ⟨r1, hc2, hf⟩ := bs_bind hf
  refine v_callVi (y := yX9_notLoaded) (As := []) (rest := []) C (cX9_notLoaded_ok  hc2) ml_X9_48 wyX9_notLoaded (bsm_X9) (bsc_X9) rfl dpX9_notLoaded ⟨Nat.le_of_ble_eq_true rfl, Nat.le_of_ble_eq_true rfl⟩ ⟨rfl, rfl⟩ ⟨Nat.le_of_ble_eq_true rfl, Nat.le_of_ble_eq_true rfl⟩ rfl (Nat.le_of_ble_eq_true rfl) dX9_slotIn_1 ?_
  refine v_if_ne (tgt := 16) C dX9_slotIn_4 (by decide) (fun h8 => ?_) (fun h8 => ?_)
  · replace hf := bs_neg h8 hf
    refine v_sub [] rfl ?_
    exact wX9_slotIn_16   C  _  hf
  · replace hf := bs_pos h8 hf
    refine v_aload_n C dX9_slotIn_7 rfl rfl ?_
    refine v_iload_n C dX9_slotIn_8 rfl rfl ?_
    refine v_iconst (v := 2) C dX9_slotIn_9 (by decide) ?_
    obtain ⟨r3, hc4, hf⟩ := bs_bind hf
    refine v_callVi (y := yX9_noTicks) (As := [.int a1, .int (2 : Int32)]) (rest := []) C (cX9_noTicks_ok  hc4) ml_X9_289 wyX9_noTicks (bsm_X9) (bsc_X9) rfl dpX9_noTicks ⟨Nat.le_of_ble_eq_true rfl, Nat.le_of_ble_eq_true rfl⟩ ⟨rfl, rfl⟩ ⟨Nat.le_of_ble_eq_true rfl, Nat.le_of_ble_eq_true rfl⟩ rfl (Nat.le_of_ble_eq_true rfl) dX9_slotIn_10 ?_
    refine v_if_eq (tgt := 20) C dX9_slotIn_13 (by decide) (fun h7 => ?_) (fun h7 => ?_)
    · replace hf := bs_pos h7 hf
      refine v_aload_n C dX9_slotIn_20 rfl rfl ?_
      refine v_bipush (v := 7) C dX9_slotIn_21 (by decide) ?_
      refine v_iload_n C dX9_slotIn_23 rfl rfl ?_
      obtain ⟨r5, hc6, hf⟩ := bs_bind hf
      refine v_callVi (y := yX9_numberIn) (As := [.int (7 : Int32), .int a1]) (rest := []) C (cX9_numberIn_ok  hc6) ml_X9_292 wyX9_numberIn (bsm_X9) (bsc_X9) rfl dpX9_numberIn ⟨Nat.le_of_ble_eq_true rfl, Nat.le_of_ble_eq_true rfl⟩ ⟨rfl, rfl⟩ ⟨Nat.le_of_ble_eq_true rfl, Nat.le_of_ble_eq_true rfl⟩ rfl (Nat.le_of_ble_eq_true rfl) dX9_slotIn_24 ?_
      exact v_iret C hf dX9_slotIn_27
    · replace hf := bs_neg h7 hf
      refine v_sub [] rfl ?_
      exact wX9_slotIn_16   C  _  hf
/-! BootSlotsModel.floorIn(I)I -/
def fX9_floorIn_16 (X : bsX) : Option (Int32 × bsX) := some ((0 : Int32), X)
def fX9_floorIn (a1 : Int32) (X : bsX) : Option (Int32 × bsX) := (fX9_notLoaded   X).bind fun r1 => if r1.1 = 0 then ((fX9_noTicks  a1 (2 : Int32) r1.2).bind fun r3 => if r3.1 = 0 then ((fX9_numberIn  (5 : Int32) a1 r3.2).bind fun r5 => some (r5.1, r5.2)) else (fX9_floorIn_16    r3.2)) else (fX9_floorIn_16    r1.2)
abbrev rmX9_floorIn : Room := { frames := 11, cells := 0, slots := 0, locals := 238 }
set_option maxHeartbeats 4000000 in
set_option maxRecDepth 100000 in
theorem wX9_floorIn_16 {p : Program} {l : Launch} {e : Env} {s : State} {m : MethodId} {args : Array Value} {below : List Frame} {meth : Method} {c : Code} {ρ : bsR} {cA : Nat → ClassId} {dC : Nat → ClassId} {dI : Nat → Nat → Nat} {Rz : va_W} {Ts : List Cond}   {z : (Int32 × bsX)} (C : bsCx p m c cX9_floorIn 2 s args Ts RX9 ρ cA dC dI Rz meth (some .int)) (X : bsX) (hf : fX9_floorIn_16  X = some z) : bsV p l e rmX9_floorIn s m args below meth c 0 0 (MQ below (bsQi ρ cA dC dI Rz z s.heap.size) args s 0 0 (bsA ρ cA Rz s.heap.size)) ρ cA dC dI Rz 2 16 [] [] X := by
  rw [fX9_floorIn_16] at hf
  refine v_iconst (v := 0) C dX9_floorIn_16 (by decide) ?_
  refine v_goto (tgt := 26) C dX9_floorIn_17 (by decide) ?_
  exact v_iret C hf dX9_floorIn_26
set_option maxHeartbeats 4000000 in
set_option maxRecDepth 100000 in
theorem cX9_floorIn_ok {l : Launch} {ρ : bsR} {cA : Nat → ClassId} {dC : Nat → ClassId} {dI : Nat → Nat → Nat} {Rz : va_W}  {a1 : Int32} {X : bsX} {z : (Int32 × bsX)} (hf : fX9_floorIn a1 X = some z) : bsMi l yX9_floorIn cX9_floorIn 2 (some .int) rmX9_floorIn ρ cA dC dI Rz [.ref (ρ 14 0 0), .int a1] X z := by
  refine bsMi_of (by decide) (Nat.le_of_ble_eq_true rfl) (fun p e s m args below meth c C => ?_)
  have C : bsCx p m c cX9_floorIn 2 s args (Cond.code yX9_floorIn cX9_floorIn 2 (some .int) :: bsG) RX9 ρ cA dC dI Rz meth (some .int) := C
  rw [fX9_floorIn] at hf
  refine v_sub [0, 1] rfl ?_
  refine v_aload_n C dX9_floorIn_0 rfl rfl ?_
  obtain ⟨r1, hc2, hf⟩ := bs_bind hf
  refine v_callVi (y := yX9_notLoaded) (As := []) (rest := []) C (cX9_notLoaded_ok  hc2) ml_X9_48 wyX9_notLoaded (bsm_X9) (bsc_X9) rfl dpX9_notLoaded ⟨Nat.le_of_ble_eq_true rfl, Nat.le_of_ble_eq_true rfl⟩ ⟨rfl, rfl⟩ ⟨Nat.le_of_ble_eq_true rfl, Nat.le_of_ble_eq_true rfl⟩ rfl (Nat.le_of_ble_eq_true rfl) dX9_floorIn_1 ?_
  refine v_if_ne (tgt := 16) C dX9_floorIn_4 (by decide) (fun h8 => ?_) (fun h8 => ?_)
  · replace hf := bs_neg h8 hf
    refine v_sub [] rfl ?_
    exact wX9_floorIn_16   C  _  hf
  · replace hf := bs_pos h8 hf
    refine v_aload_n C dX9_floorIn_7 rfl rfl ?_
    refine v_iload_n C dX9_floorIn_8 rfl rfl ?_
    refine v_iconst (v := 2) C dX9_floorIn_9 (by decide) ?_
    obtain ⟨r3, hc4, hf⟩ := bs_bind hf
    refine v_callVi (y := yX9_noTicks) (As := [.int a1, .int (2 : Int32)]) (rest := []) C (cX9_noTicks_ok  hc4) ml_X9_289 wyX9_noTicks (bsm_X9) (bsc_X9) rfl dpX9_noTicks ⟨Nat.le_of_ble_eq_true rfl, Nat.le_of_ble_eq_true rfl⟩ ⟨rfl, rfl⟩ ⟨Nat.le_of_ble_eq_true rfl, Nat.le_of_ble_eq_true rfl⟩ rfl (Nat.le_of_ble_eq_true rfl) dX9_floorIn_10 ?_
    refine v_if_eq (tgt := 20) C dX9_floorIn_13 (by decide) (fun h7 => ?_) (fun h7 => ?_)
    · replace hf := bs_pos h7 hf
      refine v_aload_n C dX9_floorIn_20 rfl rfl ?_
      refine v_iconst (v := 5) C dX9_floorIn_21 (by decide) ?_
      refine v_iload_n C dX9_floorIn_22 rfl rfl ?_
      obtain ⟨r5, hc6, hf⟩ := bs_bind hf
      refine v_callVi (y := yX9_numberIn) (As := [.int (5 : Int32), .int a1]) (rest := []) C (cX9_numberIn_ok  hc6) ml_X9_292 wyX9_numberIn (bsm_X9) (bsc_X9) rfl dpX9_numberIn ⟨Nat.le_of_ble_eq_true rfl, Nat.le_of_ble_eq_true rfl⟩ ⟨rfl, rfl⟩ ⟨Nat.le_of_ble_eq_true rfl, Nat.le_of_ble_eq_true rfl⟩ rfl (Nat.le_of_ble_eq_true rfl) dX9_floorIn_23 ?_
      exact v_iret C hf dX9_floorIn_26
    · replace hf := bs_neg h7 hf
      refine v_sub [] rfl ?_
      exact wX9_floorIn_16   C  _  hf
/-! BootSlotsModel.bootsIn(I)I -/
def fX9_bootsIn_16 (X : bsX) : Option (Int32 × bsX) := some ((0 : Int32), X)
def fX9_bootsIn (a1 : Int32) (X : bsX) : Option (Int32 × bsX) := (fX9_notLoaded   X).bind fun r1 => if r1.1 = 0 then ((fX9_noTicks  a1 (2 : Int32) r1.2).bind fun r3 => if r3.1 = 0 then ((fX9_numberIn  (12 : Int32) a1 r3.2).bind fun r5 => if bsIn (12 : Int32) 160 then (some ((r5.1 - (r5.2 14 1 0 (bsIx (12 : Int32)))), r5.2)) else none) else (fX9_bootsIn_16    r3.2)) else (fX9_bootsIn_16    r1.2)
abbrev rmX9_bootsIn : Room := { frames := 11, cells := 0, slots := 0, locals := 238 }
set_option maxHeartbeats 4000000 in
set_option maxRecDepth 100000 in
theorem wX9_bootsIn_16 {p : Program} {l : Launch} {e : Env} {s : State} {m : MethodId} {args : Array Value} {below : List Frame} {meth : Method} {c : Code} {ρ : bsR} {cA : Nat → ClassId} {dC : Nat → ClassId} {dI : Nat → Nat → Nat} {Rz : va_W} {Ts : List Cond}   {z : (Int32 × bsX)} (C : bsCx p m c cX9_bootsIn 2 s args Ts RX9 ρ cA dC dI Rz meth (some .int)) (X : bsX) (hf : fX9_bootsIn_16  X = some z) : bsV p l e rmX9_bootsIn s m args below meth c 0 0 (MQ below (bsQi ρ cA dC dI Rz z s.heap.size) args s 0 0 (bsA ρ cA Rz s.heap.size)) ρ cA dC dI Rz 2 16 [] [] X := by
  rw [fX9_bootsIn_16] at hf
  refine v_iconst (v := 0) C dX9_bootsIn_16 (by decide) ?_
  refine v_goto (tgt := 35) C dX9_bootsIn_17 (by decide) ?_
  exact v_iret C hf dX9_bootsIn_35
set_option maxHeartbeats 4000000 in
set_option maxRecDepth 100000 in
theorem cX9_bootsIn_ok {l : Launch} {ρ : bsR} {cA : Nat → ClassId} {dC : Nat → ClassId} {dI : Nat → Nat → Nat} {Rz : va_W}  {a1 : Int32} {X : bsX} {z : (Int32 × bsX)} (hf : fX9_bootsIn a1 X = some z) : bsMi l yX9_bootsIn cX9_bootsIn 2 (some .int) rmX9_bootsIn ρ cA dC dI Rz [.ref (ρ 14 0 0), .int a1] X z := by
  refine bsMi_of (by decide) (Nat.le_of_ble_eq_true rfl) (fun p e s m args below meth c C => ?_)
  have C : bsCx p m c cX9_bootsIn 2 s args (Cond.code yX9_bootsIn cX9_bootsIn 2 (some .int) :: bsG) RX9 ρ cA dC dI Rz meth (some .int) := C
  rw [fX9_bootsIn] at hf
  refine v_sub [0, 1] rfl ?_
  refine v_aload_n C dX9_bootsIn_0 rfl rfl ?_
  obtain ⟨r1, hc2, hf⟩ := bs_bind hf
  refine v_callVi (y := yX9_notLoaded) (As := []) (rest := []) C (cX9_notLoaded_ok  hc2) ml_X9_48 wyX9_notLoaded (bsm_X9) (bsc_X9) rfl dpX9_notLoaded ⟨Nat.le_of_ble_eq_true rfl, Nat.le_of_ble_eq_true rfl⟩ ⟨rfl, rfl⟩ ⟨Nat.le_of_ble_eq_true rfl, Nat.le_of_ble_eq_true rfl⟩ rfl (Nat.le_of_ble_eq_true rfl) dX9_bootsIn_1 ?_
  refine v_if_ne (tgt := 16) C dX9_bootsIn_4 (by decide) (fun h9 => ?_) (fun h9 => ?_)
  · replace hf := bs_neg h9 hf
    refine v_sub [] rfl ?_
    exact wX9_bootsIn_16   C  _  hf
  · replace hf := bs_pos h9 hf
    refine v_aload_n C dX9_bootsIn_7 rfl rfl ?_
    refine v_iload_n C dX9_bootsIn_8 rfl rfl ?_
    refine v_iconst (v := 2) C dX9_bootsIn_9 (by decide) ?_
    obtain ⟨r3, hc4, hf⟩ := bs_bind hf
    refine v_callVi (y := yX9_noTicks) (As := [.int a1, .int (2 : Int32)]) (rest := []) C (cX9_noTicks_ok  hc4) ml_X9_289 wyX9_noTicks (bsm_X9) (bsc_X9) rfl dpX9_noTicks ⟨Nat.le_of_ble_eq_true rfl, Nat.le_of_ble_eq_true rfl⟩ ⟨rfl, rfl⟩ ⟨Nat.le_of_ble_eq_true rfl, Nat.le_of_ble_eq_true rfl⟩ rfl (Nat.le_of_ble_eq_true rfl) dX9_bootsIn_10 ?_
    refine v_if_eq (tgt := 20) C dX9_bootsIn_13 (by decide) (fun h8 => ?_) (fun h8 => ?_)
    · replace hf := bs_pos h8 hf
      refine v_aload_n C dX9_bootsIn_20 rfl rfl ?_
      refine v_bipush (v := 12) C dX9_bootsIn_21 (by decide) ?_
      refine v_iload_n C dX9_bootsIn_23 rfl rfl ?_
      obtain ⟨r5, hc6, hf⟩ := bs_bind hf
      refine v_callVi (y := yX9_numberIn) (As := [.int (12 : Int32), .int a1]) (rest := []) C (cX9_numberIn_ok  hc6) ml_X9_292 wyX9_numberIn (bsm_X9) (bsc_X9) rfl dpX9_numberIn ⟨Nat.le_of_ble_eq_true rfl, Nat.le_of_ble_eq_true rfl⟩ ⟨rfl, rfl⟩ ⟨Nat.le_of_ble_eq_true rfl, Nat.le_of_ble_eq_true rfl⟩ rfl (Nat.le_of_ble_eq_true rfl) dX9_bootsIn_24 ?_
      refine v_aload_n C dX9_bootsIn_27 rfl rfl ?_
      refine gf_X9_7 C dX9_bootsIn_28 ?_
      refine v_bipush (v := 12) C dX9_bootsIn_31 (by decide) ?_
      obtain ⟨hi7, hf⟩ := bs_if hf
      refine v_iald (n := 160) C bsm_14_1 bsc_14_1 hi7 dX9_bootsIn_33 ?_
      refine v_isub C dX9_bootsIn_34 ?_
      exact v_iret C hf dX9_bootsIn_35
    · replace hf := bs_neg h8 hf
      refine v_sub [] rfl ?_
      exact wX9_bootsIn_16   C  _  hf
/-! BootSlotsModel.rescueNow()I -/
def fX9_rescueNow_2 : Nat → Int32 → bsX → Option (Int32 × bsX)
  | 0, _, _ => none
  | n + 1, x1, X => if (300 : Int32) < x1 then (some ((-1 : Int32), X)) else (if bsIn (6 : Int32) 160 then (if (X 14 1 0 (bsIx (6 : Int32))) = (2 : Int32) then (some (x1, X)) else ((fX9_ticks   X).bind fun r2 => fX9_rescueNow_2 n (x1 + (1 : Int32)) r2)) else none)
def fX9_rescueNow (X : bsX) : Option (Int32 × bsX) := fX9_rescueNow_2   bsF (0 : Int32) X
abbrev rmX9_rescueNow : Room := { frames := 9, cells := 0, slots := 0, locals := 194 }
set_option maxHeartbeats 4000000 in
set_option maxRecDepth 100000 in
theorem wX9_rescueNow_2 {p : Program} {l : Launch} {e : Env} {s : State} {m : MethodId} {args : Array Value} {below : List Frame} {meth : Method} {c : Code} {ρ : bsR} {cA : Nat → ClassId} {dC : Nat → ClassId} {dI : Nat → Nat → Nat} {Rz : va_W} {Ts : List Cond}   {z : (Int32 × bsX)} (C : bsCx p m c cX9_rescueNow 2 s args Ts RX9 ρ cA dC dI Rz meth (some .int)) : ∀ (n : Nat) (x1 : Int32) (X : bsX), fX9_rescueNow_2  n x1 X = some z → bsV p l e rmX9_rescueNow s m args below meth c 0 0 (MQ below (bsQi ρ cA dC dI Rz z s.heap.size) args s 0 0 (bsA ρ cA Rz s.heap.size)) ρ cA dC dI Rz 2 2 [(0, .ref (ρ 14 0 0)), (1, .int x1)] [] X := by
  intro n
  induction n with
  | zero => intro x1 X hf; exact (nomatch hf)
  | succ n ih =>
    intro x1 X hf
    rw [fX9_rescueNow_2] at hf
    refine v_iload_n C dX9_rescueNow_2 rfl rfl ?_
    refine v_sipush (v := 300) C dX9_rescueNow_3 (by decide) ?_
    refine v_icmp_gt (tgt := 32) C dX9_rescueNow_6 (by decide) (fun h5 => ?_) (fun h5 => ?_)
    · replace hf := bs_pos h5 hf
      refine v_iconst (v := -1) C dX9_rescueNow_32 (by decide) ?_
      exact v_iret C hf dX9_rescueNow_33
    · replace hf := bs_neg h5 hf
      refine v_aload_n C dX9_rescueNow_9 rfl rfl ?_
      refine gf_X9_7 C dX9_rescueNow_10 ?_
      refine v_bipush (v := 6) C dX9_rescueNow_13 (by decide) ?_
      obtain ⟨hi1, hf⟩ := bs_if hf
      refine v_iald (n := 160) C bsm_14_1 bsc_14_1 hi1 dX9_rescueNow_15 ?_
      refine v_iconst (v := 2) C dX9_rescueNow_16 (by decide) ?_
      refine v_icmp_ne (tgt := 22) C dX9_rescueNow_17 (by decide) (fun h4 => ?_) (fun h4 => ?_)
      · replace hf := bs_neg h4 hf
        refine v_aload_n C dX9_rescueNow_22 rfl rfl ?_
        obtain ⟨r2, hc3, hf⟩ := bs_bind hf
        refine v_callVv (y := yX9_ticks) (As := []) (rest := []) C (cX9_ticks_ok  hc3) ml_X9_133 wyX9_ticks (bsm_X9) (bsc_X9) rfl dpX9_ticks ⟨Nat.le_of_ble_eq_true rfl, Nat.le_of_ble_eq_true rfl⟩ ⟨rfl, rfl⟩ ⟨Nat.le_of_ble_eq_true rfl, Nat.le_of_ble_eq_true rfl⟩ rfl (Nat.le_of_ble_eq_true rfl) dX9_rescueNow_23 ?_
        refine v_iinc (k0 := 1) (v := (x1 + (1 : Int32))) (lv' := [(1, .int (x1 + (1 : Int32))), (0, .ref (ρ 14 0 0))]) C dX9_rescueNow_26 rfl rfl (by decide) rfl ?_
        refine v_goto (tgt := 2) C dX9_rescueNow_29 (by decide) ?_
        refine v_sub [1, 0] rfl ?_
        exact ih _ _  hf
      · replace hf := bs_pos h4 hf
        refine v_iload_n C dX9_rescueNow_20 rfl rfl ?_
        exact v_iret C hf dX9_rescueNow_21
set_option maxHeartbeats 4000000 in
set_option maxRecDepth 100000 in
theorem cX9_rescueNow_ok {l : Launch} {ρ : bsR} {cA : Nat → ClassId} {dC : Nat → ClassId} {dI : Nat → Nat → Nat} {Rz : va_W}  {X : bsX} {z : (Int32 × bsX)} (hf : fX9_rescueNow  X = some z) : bsMi l yX9_rescueNow cX9_rescueNow 2 (some .int) rmX9_rescueNow ρ cA dC dI Rz [.ref (ρ 14 0 0)] X z := by
  refine bsMi_of (by decide) (Nat.le_of_ble_eq_true rfl) (fun p e s m args below meth c C => ?_)
  have C : bsCx p m c cX9_rescueNow 2 s args (Cond.code yX9_rescueNow cX9_rescueNow 2 (some .int) :: bsG) RX9 ρ cA dC dI Rz meth (some .int) := C
  rw [fX9_rescueNow] at hf
  refine v_sub [0] rfl ?_
  refine v_iconst (v := 0) C dX9_rescueNow_0 (by decide) ?_
  refine v_istore_n (lv' := [(1, .int (0 : Int32)), (0, .ref (ρ 14 0 0))]) C dX9_rescueNow_1 rfl (by decide) rfl ?_
  refine v_sub [1, 0] rfl ?_
  exact wX9_rescueNow_2   C  bsF _ _  hf
/-! BootSlotsModel.rescueIn()I -/
def fX9_rescueIn (X : bsX) : Option (Int32 × bsX) := (fX9_notLoaded   X).bind fun r1 => if r1.1 = 0 then ((fX9_laysAside   r1.2).bind fun r3 => (fX9_rescueNow   r3).bind fun r5 => (fX9_back  r5.1 r5.2).bind fun r7 => some (r7.1, r7.2)) else (some ((0 : Int32), r1.2))
abbrev rmX9_rescueIn : Room := { frames := 10, cells := 0, slots := 0, locals := 215 }
set_option maxHeartbeats 4000000 in
set_option maxRecDepth 100000 in
theorem cX9_rescueIn_ok {l : Launch} {ρ : bsR} {cA : Nat → ClassId} {dC : Nat → ClassId} {dI : Nat → Nat → Nat} {Rz : va_W}  {X : bsX} {z : (Int32 × bsX)} (hf : fX9_rescueIn  X = some z) : bsMi l yX9_rescueIn cX9_rescueIn 1 (some .int) rmX9_rescueIn ρ cA dC dI Rz [.ref (ρ 14 0 0)] X z := by
  refine bsMi_of (by decide) (Nat.le_of_ble_eq_true rfl) (fun p e s m args below meth c C => ?_)
  have C : bsCx p m c cX9_rescueIn 1 s args (Cond.code yX9_rescueIn cX9_rescueIn 1 (some .int) :: bsG) RX9 ρ cA dC dI Rz meth (some .int) := C
  rw [fX9_rescueIn] at hf
  refine v_sub [0] rfl ?_
  refine v_aload_n C dX9_rescueIn_0 rfl rfl ?_
  obtain ⟨r1, hc2, hf⟩ := bs_bind hf
  refine v_callVi (y := yX9_notLoaded) (As := []) (rest := []) C (cX9_notLoaded_ok  hc2) ml_X9_48 wyX9_notLoaded (bsm_X9) (bsc_X9) rfl dpX9_notLoaded ⟨Nat.le_of_ble_eq_true rfl, Nat.le_of_ble_eq_true rfl⟩ ⟨rfl, rfl⟩ ⟨Nat.le_of_ble_eq_true rfl, Nat.le_of_ble_eq_true rfl⟩ rfl (Nat.le_of_ble_eq_true rfl) dX9_rescueIn_1 ?_
  refine v_if_eq (tgt := 9) C dX9_rescueIn_4 (by decide) (fun h9 => ?_) (fun h9 => ?_)
  · replace hf := bs_pos h9 hf
    refine v_aload_n C dX9_rescueIn_9 rfl rfl ?_
    obtain ⟨r3, hc4, hf⟩ := bs_bind hf
    refine v_callVv (y := yX9_laysAside) (As := []) (rest := []) C (cX9_laysAside_ok  hc4) ml_X9_280 wyX9_laysAside (bsm_X9) (bsc_X9) rfl dpX9_laysAside ⟨Nat.le_of_ble_eq_true rfl, Nat.le_of_ble_eq_true rfl⟩ ⟨rfl, rfl⟩ ⟨Nat.le_of_ble_eq_true rfl, Nat.le_of_ble_eq_true rfl⟩ rfl (Nat.le_of_ble_eq_true rfl) dX9_rescueIn_10 ?_
    refine v_aload_n C dX9_rescueIn_13 rfl rfl ?_
    refine v_aload_n C dX9_rescueIn_14 rfl rfl ?_
    obtain ⟨r5, hc6, hf⟩ := bs_bind hf
    refine v_callVi (y := yX9_rescueNow) (As := []) (rest := [.ref (ρ 14 0 0)]) C (cX9_rescueNow_ok  hc6) ml_X9_295 wyX9_rescueNow (bsm_X9) (bsc_X9) rfl dpX9_rescueNow ⟨Nat.le_of_ble_eq_true rfl, Nat.le_of_ble_eq_true rfl⟩ ⟨rfl, rfl⟩ ⟨Nat.le_of_ble_eq_true rfl, Nat.le_of_ble_eq_true rfl⟩ rfl (Nat.le_of_ble_eq_true rfl) dX9_rescueIn_15 ?_
    obtain ⟨r7, hc8, hf⟩ := bs_bind hf
    refine v_callVi (y := yX9_back) (As := [.int r5.1]) (rest := []) C (cX9_back_ok  hc8) ml_X9_286 wyX9_back (bsm_X9) (bsc_X9) rfl dpX9_back ⟨Nat.le_of_ble_eq_true rfl, Nat.le_of_ble_eq_true rfl⟩ ⟨rfl, rfl⟩ ⟨Nat.le_of_ble_eq_true rfl, Nat.le_of_ble_eq_true rfl⟩ rfl (Nat.le_of_ble_eq_true rfl) dX9_rescueIn_18 ?_
    exact v_iret C hf dX9_rescueIn_21
  · replace hf := bs_neg h9 hf
    refine v_iconst (v := 0) C dX9_rescueIn_7 (by decide) ?_
    exact v_iret C hf dX9_rescueIn_8
/-! BootSlotsModel.goodNow(I)I -/
def fX9_goodNow_2 : Nat → Int32 → Int32 → bsX → Option (Int32 × bsX)
  | 0, _, _, _ => none
  | n + 1, x1, x2, X => if (300 : Int32) < x2 then (some ((-1 : Int32), X)) else ((fX9_isGood  x1 X).bind fun r1 => if r1.1 = 0 then ((fX9_ticks   r1.2).bind fun r3 => fX9_goodNow_2 n x1 (x2 + (1 : Int32)) r3) else (some (x2, r1.2)))
def fX9_goodNow (a1 : Int32) (X : bsX) : Option (Int32 × bsX) := fX9_goodNow_2   bsF a1 (0 : Int32) X
abbrev rmX9_goodNow : Room := { frames := 9, cells := 0, slots := 0, locals := 194 }
set_option maxHeartbeats 4000000 in
set_option maxRecDepth 100000 in
theorem wX9_goodNow_2 {p : Program} {l : Launch} {e : Env} {s : State} {m : MethodId} {args : Array Value} {below : List Frame} {meth : Method} {c : Code} {ρ : bsR} {cA : Nat → ClassId} {dC : Nat → ClassId} {dI : Nat → Nat → Nat} {Rz : va_W} {Ts : List Cond}   {z : (Int32 × bsX)} (C : bsCx p m c cX9_goodNow 3 s args Ts RX9 ρ cA dC dI Rz meth (some .int)) : ∀ (n : Nat) (x1 : Int32) (x2 : Int32) (X : bsX), fX9_goodNow_2  n x1 x2 X = some z → bsV p l e rmX9_goodNow s m args below meth c 0 0 (MQ below (bsQi ρ cA dC dI Rz z s.heap.size) args s 0 0 (bsA ρ cA Rz s.heap.size)) ρ cA dC dI Rz 3 2 [(0, .ref (ρ 14 0 0)), (1, .int x1), (2, .int x2)] [] X := by
  intro n
  induction n with
  | zero => intro x1 x2 X hf; exact (nomatch hf)
  | succ n ih =>
    intro x1 x2 X hf
    rw [fX9_goodNow_2] at hf
    refine v_iload_n C dX9_goodNow_2 rfl rfl ?_
    refine v_sipush (v := 300) C dX9_goodNow_3 (by decide) ?_
    refine v_icmp_gt (tgt := 29) C dX9_goodNow_6 (by decide) (fun h6 => ?_) (fun h6 => ?_)
    · replace hf := bs_pos h6 hf
      refine v_iconst (v := -1) C dX9_goodNow_29 (by decide) ?_
      exact v_iret C hf dX9_goodNow_30
    · replace hf := bs_neg h6 hf
      refine v_aload_n C dX9_goodNow_9 rfl rfl ?_
      refine v_iload_n C dX9_goodNow_10 rfl rfl ?_
      obtain ⟨r1, hc2, hf⟩ := bs_bind hf
      refine v_callVi (y := yX9_isGood) (As := [.int x1]) (rest := []) C (cX9_isGood_ok  hc2) ml_X9_63 wyX9_isGood (bsm_X9) (bsc_X9) rfl dpX9_isGood ⟨Nat.le_of_ble_eq_true rfl, Nat.le_of_ble_eq_true rfl⟩ ⟨rfl, rfl⟩ ⟨Nat.le_of_ble_eq_true rfl, Nat.le_of_ble_eq_true rfl⟩ rfl (Nat.le_of_ble_eq_true rfl) dX9_goodNow_11 ?_
      refine v_if_eq (tgt := 19) C dX9_goodNow_14 (by decide) (fun h5 => ?_) (fun h5 => ?_)
      · replace hf := bs_pos h5 hf
        refine v_aload_n C dX9_goodNow_19 rfl rfl ?_
        obtain ⟨r3, hc4, hf⟩ := bs_bind hf
        refine v_callVv (y := yX9_ticks) (As := []) (rest := []) C (cX9_ticks_ok  hc4) ml_X9_133 wyX9_ticks (bsm_X9) (bsc_X9) rfl dpX9_ticks ⟨Nat.le_of_ble_eq_true rfl, Nat.le_of_ble_eq_true rfl⟩ ⟨rfl, rfl⟩ ⟨Nat.le_of_ble_eq_true rfl, Nat.le_of_ble_eq_true rfl⟩ rfl (Nat.le_of_ble_eq_true rfl) dX9_goodNow_20 ?_
        refine v_iinc (k0 := 2) (v := (x2 + (1 : Int32))) (lv' := [(2, .int (x2 + (1 : Int32))), (0, .ref (ρ 14 0 0)), (1, .int x1)]) C dX9_goodNow_23 rfl rfl (by decide) rfl ?_
        refine v_goto (tgt := 2) C dX9_goodNow_26 (by decide) ?_
        refine v_sub [1, 2, 0] rfl ?_
        exact ih _ _ _  hf
      · replace hf := bs_neg h5 hf
        refine v_iload_n C dX9_goodNow_17 rfl rfl ?_
        exact v_iret C hf dX9_goodNow_18
set_option maxHeartbeats 4000000 in
set_option maxRecDepth 100000 in
theorem cX9_goodNow_ok {l : Launch} {ρ : bsR} {cA : Nat → ClassId} {dC : Nat → ClassId} {dI : Nat → Nat → Nat} {Rz : va_W}  {a1 : Int32} {X : bsX} {z : (Int32 × bsX)} (hf : fX9_goodNow a1 X = some z) : bsMi l yX9_goodNow cX9_goodNow 3 (some .int) rmX9_goodNow ρ cA dC dI Rz [.ref (ρ 14 0 0), .int a1] X z := by
  refine bsMi_of (by decide) (Nat.le_of_ble_eq_true rfl) (fun p e s m args below meth c C => ?_)
  have C : bsCx p m c cX9_goodNow 3 s args (Cond.code yX9_goodNow cX9_goodNow 3 (some .int) :: bsG) RX9 ρ cA dC dI Rz meth (some .int) := C
  rw [fX9_goodNow] at hf
  refine v_sub [0, 1] rfl ?_
  refine v_iconst (v := 0) C dX9_goodNow_0 (by decide) ?_
  refine v_istore_n (lv' := [(2, .int (0 : Int32)), (0, .ref (ρ 14 0 0)), (1, .int a1)]) C dX9_goodNow_1 rfl (by decide) rfl ?_
  refine v_sub [1, 2, 0] rfl ?_
  exact wX9_goodNow_2   C  bsF _ _ _  hf
/-! BootSlotsModel.goodIn(I)I -/
def fX9_goodIn (a1 : Int32) (X : bsX) : Option (Int32 × bsX) := (fX9_noSlot  a1 X).bind fun r1 => if r1.1 = 0 then ((fX9_laysAside   r1.2).bind fun r3 => (fX9_goodNow  a1 r3).bind fun r5 => (fX9_back  r5.1 r5.2).bind fun r7 => some (r7.1, r7.2)) else (some ((0 : Int32), r1.2))
abbrev rmX9_goodIn : Room := { frames := 10, cells := 0, slots := 0, locals := 216 }
set_option maxHeartbeats 4000000 in
set_option maxRecDepth 100000 in
theorem cX9_goodIn_ok {l : Launch} {ρ : bsR} {cA : Nat → ClassId} {dC : Nat → ClassId} {dI : Nat → Nat → Nat} {Rz : va_W}  {a1 : Int32} {X : bsX} {z : (Int32 × bsX)} (hf : fX9_goodIn a1 X = some z) : bsMi l yX9_goodIn cX9_goodIn 2 (some .int) rmX9_goodIn ρ cA dC dI Rz [.ref (ρ 14 0 0), .int a1] X z := by
  refine bsMi_of (by decide) (Nat.le_of_ble_eq_true rfl) (fun p e s m args below meth c C => ?_)
  have C : bsCx p m c cX9_goodIn 2 s args (Cond.code yX9_goodIn cX9_goodIn 2 (some .int) :: bsG) RX9 ρ cA dC dI Rz meth (some .int) := C
  rw [fX9_goodIn] at hf
  refine v_sub [0, 1] rfl ?_
  refine v_aload_n C dX9_goodIn_0 rfl rfl ?_
  refine v_iload_n C dX9_goodIn_1 rfl rfl ?_
  obtain ⟨r1, hc2, hf⟩ := bs_bind hf
  refine v_callVi (y := yX9_noSlot) (As := [.int a1]) (rest := []) C (cX9_noSlot_ok  hc2) ml_X9_260 wyX9_noSlot (bsm_X9) (bsc_X9) rfl dpX9_noSlot ⟨Nat.le_of_ble_eq_true rfl, Nat.le_of_ble_eq_true rfl⟩ ⟨rfl, rfl⟩ ⟨Nat.le_of_ble_eq_true rfl, Nat.le_of_ble_eq_true rfl⟩ rfl (Nat.le_of_ble_eq_true rfl) dX9_goodIn_2 ?_
  refine v_if_eq (tgt := 10) C dX9_goodIn_5 (by decide) (fun h9 => ?_) (fun h9 => ?_)
  · replace hf := bs_pos h9 hf
    refine v_aload_n C dX9_goodIn_10 rfl rfl ?_
    obtain ⟨r3, hc4, hf⟩ := bs_bind hf
    refine v_callVv (y := yX9_laysAside) (As := []) (rest := []) C (cX9_laysAside_ok  hc4) ml_X9_280 wyX9_laysAside (bsm_X9) (bsc_X9) rfl dpX9_laysAside ⟨Nat.le_of_ble_eq_true rfl, Nat.le_of_ble_eq_true rfl⟩ ⟨rfl, rfl⟩ ⟨Nat.le_of_ble_eq_true rfl, Nat.le_of_ble_eq_true rfl⟩ rfl (Nat.le_of_ble_eq_true rfl) dX9_goodIn_11 ?_
    refine v_aload_n C dX9_goodIn_14 rfl rfl ?_
    refine v_aload_n C dX9_goodIn_15 rfl rfl ?_
    refine v_iload_n C dX9_goodIn_16 rfl rfl ?_
    obtain ⟨r5, hc6, hf⟩ := bs_bind hf
    refine v_callVi (y := yX9_goodNow) (As := [.int a1]) (rest := [.ref (ρ 14 0 0)]) C (cX9_goodNow_ok  hc6) ml_X9_298 wyX9_goodNow (bsm_X9) (bsc_X9) rfl dpX9_goodNow ⟨Nat.le_of_ble_eq_true rfl, Nat.le_of_ble_eq_true rfl⟩ ⟨rfl, rfl⟩ ⟨Nat.le_of_ble_eq_true rfl, Nat.le_of_ble_eq_true rfl⟩ rfl (Nat.le_of_ble_eq_true rfl) dX9_goodIn_17 ?_
    obtain ⟨r7, hc8, hf⟩ := bs_bind hf
    refine v_callVi (y := yX9_back) (As := [.int r5.1]) (rest := []) C (cX9_back_ok  hc8) ml_X9_286 wyX9_back (bsm_X9) (bsc_X9) rfl dpX9_back ⟨Nat.le_of_ble_eq_true rfl, Nat.le_of_ble_eq_true rfl⟩ ⟨rfl, rfl⟩ ⟨Nat.le_of_ble_eq_true rfl, Nat.le_of_ble_eq_true rfl⟩ rfl (Nat.le_of_ble_eq_true rfl) dX9_goodIn_20 ?_
    exact v_iret C hf dX9_goodIn_23
  · replace hf := bs_neg h9 hf
    refine v_iconst (v := 0) C dX9_goodIn_8 (by decide) ?_
    exact v_iret C hf dX9_goodIn_9
/-! BootSlotsModel.calmNow()I -/
def fX9_calmNow_39 (k4 : Int32 → Int32 → bsX → Option (Int32 × bsX)) (x2 : Int32) (y0 : Int32) (X : bsX) : Option (Int32 × bsX) := k4 y0 (x2 + (1 : Int32)) X
def fX9_calmNow_4 : Nat → Int32 → Int32 → bsX → Option (Int32 × bsX)
  | 0, _, _, _ => none
  | n + 1, x1, x2, X => if (300 : Int32) < x2 then (some (x1, X)) else (if bsIn (12 : Int32) 160 then ((fX9_ticks   X).bind fun r2 => if (r2 14 1 0 (bsIx (12 : Int32))) ≤ (X 14 1 0 (bsIx (12 : Int32))) then (fX9_calmNow_39  (fX9_calmNow_4  n) x2 x1 r2) else (fX9_calmNow_39  (fX9_calmNow_4  n) x2 x2 r2)) else none)
def fX9_calmNow (X : bsX) : Option (Int32 × bsX) := fX9_calmNow_4   bsF (0 : Int32) (1 : Int32) X
abbrev rmX9_calmNow : Room := { frames := 9, cells := 0, slots := 0, locals := 194 }
set_option maxHeartbeats 4000000 in
set_option maxRecDepth 100000 in
theorem wX9_calmNow_39 {p : Program} {l : Launch} {e : Env} {s : State} {m : MethodId} {args : Array Value} {below : List Frame} {meth : Method} {c : Code} {ρ : bsR} {cA : Nat → ClassId} {dC : Nat → ClassId} {dI : Nat → Nat → Nat} {Rz : va_W} {Ts : List Cond}  (k4 : Int32 → Int32 → bsX → Option (Int32 × bsX))  {z : (Int32 × bsX)} (C : bsCx p m c cX9_calmNow 4 s args Ts RX9 ρ cA dC dI Rz meth (some .int)) (hk4 : ∀ (x1 : Int32) (x2 : Int32) (X : bsX), k4 x1 x2 X = some z → bsV p l e rmX9_calmNow s m args below meth c 0 0 (MQ below (bsQi ρ cA dC dI Rz z s.heap.size) args s 0 0 (bsA ρ cA Rz s.heap.size)) ρ cA dC dI Rz 4 4 [(0, .ref (ρ 14 0 0)), (1, .int x1), (2, .int x2)] [] X)  (x2 : Int32) (y0 : Int32) (X : bsX) (hf : fX9_calmNow_39 k4 x2 y0 X = some z) : bsV p l e rmX9_calmNow s m args below meth c 0 0 (MQ below (bsQi ρ cA dC dI Rz z s.heap.size) args s 0 0 (bsA ρ cA Rz s.heap.size)) ρ cA dC dI Rz 4 39 [(0, .ref (ρ 14 0 0)), (2, .int x2)] [.int y0] X := by
  rw [fX9_calmNow_39] at hf
  refine v_istore_n (lv' := [(1, .int y0), (0, .ref (ρ 14 0 0)), (2, .int x2)]) C dX9_calmNow_39 rfl (by decide) rfl ?_
  refine v_iinc (k0 := 2) (v := (x2 + (1 : Int32))) (lv' := [(2, .int (x2 + (1 : Int32))), (1, .int y0), (0, .ref (ρ 14 0 0))]) C dX9_calmNow_40 rfl rfl (by decide) rfl ?_
  refine v_goto (tgt := 4) C dX9_calmNow_43 (by decide) ?_
  refine v_sub [2, 1, 0] rfl ?_
  exact hk4 _ _ _  hf
set_option maxHeartbeats 4000000 in
set_option maxRecDepth 100000 in
theorem wX9_calmNow_4 {p : Program} {l : Launch} {e : Env} {s : State} {m : MethodId} {args : Array Value} {below : List Frame} {meth : Method} {c : Code} {ρ : bsR} {cA : Nat → ClassId} {dC : Nat → ClassId} {dI : Nat → Nat → Nat} {Rz : va_W} {Ts : List Cond}   {z : (Int32 × bsX)} (C : bsCx p m c cX9_calmNow 4 s args Ts RX9 ρ cA dC dI Rz meth (some .int)) : ∀ (n : Nat) (x1 : Int32) (x2 : Int32) (X : bsX), fX9_calmNow_4  n x1 x2 X = some z → bsV p l e rmX9_calmNow s m args below meth c 0 0 (MQ below (bsQi ρ cA dC dI Rz z s.heap.size) args s 0 0 (bsA ρ cA Rz s.heap.size)) ρ cA dC dI Rz 4 4 [(0, .ref (ρ 14 0 0)), (1, .int x1), (2, .int x2)] [] X := by
  intro n
  induction n with
  | zero => intro x1 x2 X hf; exact (nomatch hf)
  | succ n ih =>
    intro x1 x2 X hf
    rw [fX9_calmNow_4] at hf
    refine v_iload_n C dX9_calmNow_4 rfl rfl ?_
    refine v_sipush (v := 300) C dX9_calmNow_5 (by decide) ?_
    refine v_icmp_gt (tgt := 46) C dX9_calmNow_8 (by decide) (fun h6 => ?_) (fun h6 => ?_)
    · replace hf := bs_pos h6 hf
      refine v_iload_n C dX9_calmNow_46 rfl rfl ?_
      exact v_iret C hf dX9_calmNow_47
    · replace hf := bs_neg h6 hf
      refine v_aload_n C dX9_calmNow_11 rfl rfl ?_
      refine gf_X9_7 C dX9_calmNow_12 ?_
      refine v_bipush (v := 12) C dX9_calmNow_15 (by decide) ?_
      obtain ⟨hi1, hf⟩ := bs_if hf
      refine v_iald (n := 160) C bsm_14_1 bsc_14_1 hi1 dX9_calmNow_17 ?_
      refine v_istore_n (lv' := [(3, .int (X 14 1 0 (bsIx (12 : Int32)))), (0, .ref (ρ 14 0 0)), (1, .int x1), (2, .int x2)]) C dX9_calmNow_18 rfl (by decide) rfl ?_
      refine v_aload_n C dX9_calmNow_19 rfl rfl ?_
      obtain ⟨r2, hc3, hf⟩ := bs_bind hf
      refine v_callVv (y := yX9_ticks) (As := []) (rest := []) C (cX9_ticks_ok  hc3) ml_X9_133 wyX9_ticks (bsm_X9) (bsc_X9) rfl dpX9_ticks ⟨Nat.le_of_ble_eq_true rfl, Nat.le_of_ble_eq_true rfl⟩ ⟨rfl, rfl⟩ ⟨Nat.le_of_ble_eq_true rfl, Nat.le_of_ble_eq_true rfl⟩ rfl (Nat.le_of_ble_eq_true rfl) dX9_calmNow_20 ?_
      refine v_aload_n C dX9_calmNow_23 rfl rfl ?_
      refine gf_X9_7 C dX9_calmNow_24 ?_
      refine v_bipush (v := 12) C dX9_calmNow_27 (by decide) ?_
      refine v_iald (n := 160) C bsm_14_1 bsc_14_1 hi1 dX9_calmNow_29 ?_
      refine v_iload_n C dX9_calmNow_30 rfl rfl ?_
      refine v_icmp_le (tgt := 38) C dX9_calmNow_31 (by decide) (fun h5 => ?_) (fun h5 => ?_)
      · replace hf := bs_pos h5 hf
        refine v_iload_n C dX9_calmNow_38 rfl rfl ?_
        refine v_sub [1, 3] rfl ?_
        exact wX9_calmNow_39  (fX9_calmNow_4  n) C (fun b0 b1 X  h => ih b0 b1 X  h) _ _ _  hf
      · replace hf := bs_neg h5 hf
        refine v_iload_n C dX9_calmNow_34 rfl rfl ?_
        refine v_goto (tgt := 39) C dX9_calmNow_35 (by decide) ?_
        refine v_sub [1, 3] rfl ?_
        exact wX9_calmNow_39  (fX9_calmNow_4  n) C (fun b0 b1 X  h => ih b0 b1 X  h) _ _ _  hf
set_option maxHeartbeats 4000000 in
set_option maxRecDepth 100000 in
theorem cX9_calmNow_ok {l : Launch} {ρ : bsR} {cA : Nat → ClassId} {dC : Nat → ClassId} {dI : Nat → Nat → Nat} {Rz : va_W}  {X : bsX} {z : (Int32 × bsX)} (hf : fX9_calmNow  X = some z) : bsMi l yX9_calmNow cX9_calmNow 4 (some .int) rmX9_calmNow ρ cA dC dI Rz [.ref (ρ 14 0 0)] X z := by
  refine bsMi_of (by decide) (Nat.le_of_ble_eq_true rfl) (fun p e s m args below meth c C => ?_)
  have C : bsCx p m c cX9_calmNow 4 s args (Cond.code yX9_calmNow cX9_calmNow 4 (some .int) :: bsG) RX9 ρ cA dC dI Rz meth (some .int) := C
  rw [fX9_calmNow] at hf
  refine v_sub [0] rfl ?_
  refine v_iconst (v := 0) C dX9_calmNow_0 (by decide) ?_
  refine v_istore_n (lv' := [(1, .int (0 : Int32)), (0, .ref (ρ 14 0 0))]) C dX9_calmNow_1 rfl (by decide) rfl ?_
  refine v_iconst (v := 1) C dX9_calmNow_2 (by decide) ?_
  refine v_istore_n (lv' := [(2, .int (1 : Int32)), (1, .int (0 : Int32)), (0, .ref (ρ 14 0 0))]) C dX9_calmNow_3 rfl (by decide) rfl ?_
  refine v_sub [2, 1, 0] rfl ?_
  exact wX9_calmNow_4   C  bsF _ _ _  hf
/-! BootSlotsModel.calmIn()I -/
def fX9_calmIn (X : bsX) : Option (Int32 × bsX) := (fX9_notLoaded   X).bind fun r1 => if r1.1 = 0 then ((fX9_laysAside   r1.2).bind fun r3 => (fX9_calmNow   r3).bind fun r5 => (fX9_back  r5.1 r5.2).bind fun r7 => some (r7.1, r7.2)) else (some ((0 : Int32), r1.2))
abbrev rmX9_calmIn : Room := { frames := 10, cells := 0, slots := 0, locals := 217 }
set_option maxHeartbeats 4000000 in
set_option maxRecDepth 100000 in
theorem cX9_calmIn_ok {l : Launch} {ρ : bsR} {cA : Nat → ClassId} {dC : Nat → ClassId} {dI : Nat → Nat → Nat} {Rz : va_W}  {X : bsX} {z : (Int32 × bsX)} (hf : fX9_calmIn  X = some z) : bsMi l yX9_calmIn cX9_calmIn 1 (some .int) rmX9_calmIn ρ cA dC dI Rz [.ref (ρ 14 0 0)] X z := by
  refine bsMi_of (by decide) (Nat.le_of_ble_eq_true rfl) (fun p e s m args below meth c C => ?_)
  have C : bsCx p m c cX9_calmIn 1 s args (Cond.code yX9_calmIn cX9_calmIn 1 (some .int) :: bsG) RX9 ρ cA dC dI Rz meth (some .int) := C
  rw [fX9_calmIn] at hf
  refine v_sub [0] rfl ?_
  refine v_aload_n C dX9_calmIn_0 rfl rfl ?_
  obtain ⟨r1, hc2, hf⟩ := bs_bind hf
  refine v_callVi (y := yX9_notLoaded) (As := []) (rest := []) C (cX9_notLoaded_ok  hc2) ml_X9_48 wyX9_notLoaded (bsm_X9) (bsc_X9) rfl dpX9_notLoaded ⟨Nat.le_of_ble_eq_true rfl, Nat.le_of_ble_eq_true rfl⟩ ⟨rfl, rfl⟩ ⟨Nat.le_of_ble_eq_true rfl, Nat.le_of_ble_eq_true rfl⟩ rfl (Nat.le_of_ble_eq_true rfl) dX9_calmIn_1 ?_
  refine v_if_eq (tgt := 9) C dX9_calmIn_4 (by decide) (fun h9 => ?_) (fun h9 => ?_)
  · replace hf := bs_pos h9 hf
    refine v_aload_n C dX9_calmIn_9 rfl rfl ?_
    obtain ⟨r3, hc4, hf⟩ := bs_bind hf
    refine v_callVv (y := yX9_laysAside) (As := []) (rest := []) C (cX9_laysAside_ok  hc4) ml_X9_280 wyX9_laysAside (bsm_X9) (bsc_X9) rfl dpX9_laysAside ⟨Nat.le_of_ble_eq_true rfl, Nat.le_of_ble_eq_true rfl⟩ ⟨rfl, rfl⟩ ⟨Nat.le_of_ble_eq_true rfl, Nat.le_of_ble_eq_true rfl⟩ rfl (Nat.le_of_ble_eq_true rfl) dX9_calmIn_10 ?_
    refine v_aload_n C dX9_calmIn_13 rfl rfl ?_
    refine v_aload_n C dX9_calmIn_14 rfl rfl ?_
    obtain ⟨r5, hc6, hf⟩ := bs_bind hf
    refine v_callVi (y := yX9_calmNow) (As := []) (rest := [.ref (ρ 14 0 0)]) C (cX9_calmNow_ok  hc6) ml_X9_301 wyX9_calmNow (bsm_X9) (bsc_X9) rfl dpX9_calmNow ⟨Nat.le_of_ble_eq_true rfl, Nat.le_of_ble_eq_true rfl⟩ ⟨rfl, rfl⟩ ⟨Nat.le_of_ble_eq_true rfl, Nat.le_of_ble_eq_true rfl⟩ rfl (Nat.le_of_ble_eq_true rfl) dX9_calmIn_15 ?_
    obtain ⟨r7, hc8, hf⟩ := bs_bind hf
    refine v_callVi (y := yX9_back) (As := [.int r5.1]) (rest := []) C (cX9_back_ok  hc8) ml_X9_286 wyX9_back (bsm_X9) (bsc_X9) rfl dpX9_back ⟨Nat.le_of_ble_eq_true rfl, Nat.le_of_ble_eq_true rfl⟩ ⟨rfl, rfl⟩ ⟨Nat.le_of_ble_eq_true rfl, Nat.le_of_ble_eq_true rfl⟩ rfl (Nat.le_of_ble_eq_true rfl) dX9_calmIn_18 ?_
    exact v_iret C hf dX9_calmIn_21
  · replace hf := bs_neg h9 hf
    refine v_iconst (v := 0) C dX9_calmIn_7 (by decide) ?_
    exact v_iret C hf dX9_calmIn_8
/-! BootSlotsModel.triesIn(II)I -/
def fX9_triesIn_17 (X : bsX) : Option (Int32 × bsX) := some ((0 : Int32), X)
def fX9_triesIn (a1 : Int32) (a2 : Int32) (X : bsX) : Option (Int32 × bsX) := (fX9_noSlot  a1 X).bind fun r1 => if r1.1 = 0 then ((fX9_noTicks  a2 (3 : Int32) r1.2).bind fun r3 => if r3.1 = 0 then ((fX9_numberIn  (((80 : Int32) + ((13 : Int32) * a1)) + (2 : Int32)) a2 r3.2).bind fun r5 => some (r5.1, r5.2)) else (fX9_triesIn_17    r3.2)) else (fX9_triesIn_17    r1.2)
abbrev rmX9_triesIn : Room := { frames := 11, cells := 0, slots := 0, locals := 238 }
set_option maxHeartbeats 4000000 in
set_option maxRecDepth 100000 in
theorem wX9_triesIn_17 {p : Program} {l : Launch} {e : Env} {s : State} {m : MethodId} {args : Array Value} {below : List Frame} {meth : Method} {c : Code} {ρ : bsR} {cA : Nat → ClassId} {dC : Nat → ClassId} {dI : Nat → Nat → Nat} {Rz : va_W} {Ts : List Cond}   {z : (Int32 × bsX)} (C : bsCx p m c cX9_triesIn 3 s args Ts RX9 ρ cA dC dI Rz meth (some .int)) (X : bsX) (hf : fX9_triesIn_17  X = some z) : bsV p l e rmX9_triesIn s m args below meth c 0 0 (MQ below (bsQi ρ cA dC dI Rz z s.heap.size) args s 0 0 (bsA ρ cA Rz s.heap.size)) ρ cA dC dI Rz 3 17 [] [] X := by
  rw [fX9_triesIn_17] at hf
  refine v_iconst (v := 0) C dX9_triesIn_17 (by decide) ?_
  refine v_goto (tgt := 35) C dX9_triesIn_18 (by decide) ?_
  exact v_iret C hf dX9_triesIn_35
set_option maxHeartbeats 4000000 in
set_option maxRecDepth 100000 in
theorem cX9_triesIn_ok {l : Launch} {ρ : bsR} {cA : Nat → ClassId} {dC : Nat → ClassId} {dI : Nat → Nat → Nat} {Rz : va_W}  {a1 : Int32} {a2 : Int32} {X : bsX} {z : (Int32 × bsX)} (hf : fX9_triesIn a1 a2 X = some z) : bsMi l yX9_triesIn cX9_triesIn 3 (some .int) rmX9_triesIn ρ cA dC dI Rz [.ref (ρ 14 0 0), .int a1, .int a2] X z := by
  refine bsMi_of (by decide) (Nat.le_of_ble_eq_true rfl) (fun p e s m args below meth c C => ?_)
  have C : bsCx p m c cX9_triesIn 3 s args (Cond.code yX9_triesIn cX9_triesIn 3 (some .int) :: bsG) RX9 ρ cA dC dI Rz meth (some .int) := C
  rw [fX9_triesIn] at hf
  refine v_sub [0, 1, 2] rfl ?_
  refine v_aload_n C dX9_triesIn_0 rfl rfl ?_
  refine v_iload_n C dX9_triesIn_1 rfl rfl ?_
  obtain ⟨r1, hc2, hf⟩ := bs_bind hf
  refine v_callVi (y := yX9_noSlot) (As := [.int a1]) (rest := []) C (cX9_noSlot_ok  hc2) ml_X9_260 wyX9_noSlot (bsm_X9) (bsc_X9) rfl dpX9_noSlot ⟨Nat.le_of_ble_eq_true rfl, Nat.le_of_ble_eq_true rfl⟩ ⟨rfl, rfl⟩ ⟨Nat.le_of_ble_eq_true rfl, Nat.le_of_ble_eq_true rfl⟩ rfl (Nat.le_of_ble_eq_true rfl) dX9_triesIn_2 ?_
  refine v_if_ne (tgt := 17) C dX9_triesIn_5 (by decide) (fun h8 => ?_) (fun h8 => ?_)
  · replace hf := bs_neg h8 hf
    refine v_sub [] rfl ?_
    exact wX9_triesIn_17   C  _  hf
  · replace hf := bs_pos h8 hf
    refine v_aload_n C dX9_triesIn_8 rfl rfl ?_
    refine v_iload_n C dX9_triesIn_9 rfl rfl ?_
    refine v_iconst (v := 3) C dX9_triesIn_10 (by decide) ?_
    obtain ⟨r3, hc4, hf⟩ := bs_bind hf
    refine v_callVi (y := yX9_noTicks) (As := [.int a2, .int (3 : Int32)]) (rest := []) C (cX9_noTicks_ok  hc4) ml_X9_289 wyX9_noTicks (bsm_X9) (bsc_X9) rfl dpX9_noTicks ⟨Nat.le_of_ble_eq_true rfl, Nat.le_of_ble_eq_true rfl⟩ ⟨rfl, rfl⟩ ⟨Nat.le_of_ble_eq_true rfl, Nat.le_of_ble_eq_true rfl⟩ rfl (Nat.le_of_ble_eq_true rfl) dX9_triesIn_11 ?_
    refine v_if_eq (tgt := 21) C dX9_triesIn_14 (by decide) (fun h7 => ?_) (fun h7 => ?_)
    · replace hf := bs_pos h7 hf
      refine v_aload_n C dX9_triesIn_21 rfl rfl ?_
      refine v_bipush (v := 80) C dX9_triesIn_22 (by decide) ?_
      refine v_bipush (v := 13) C dX9_triesIn_24 (by decide) ?_
      refine v_iload_n C dX9_triesIn_26 rfl rfl ?_
      refine v_imul C dX9_triesIn_27 ?_
      refine v_iadd C dX9_triesIn_28 ?_
      refine v_iconst (v := 2) C dX9_triesIn_29 (by decide) ?_
      refine v_iadd C dX9_triesIn_30 ?_
      refine v_iload_n C dX9_triesIn_31 rfl rfl ?_
      obtain ⟨r5, hc6, hf⟩ := bs_bind hf
      refine v_callVi (y := yX9_numberIn) (As := [.int (((80 : Int32) + ((13 : Int32) * a1)) + (2 : Int32)), .int a2]) (rest := []) C (cX9_numberIn_ok  hc6) ml_X9_292 wyX9_numberIn (bsm_X9) (bsc_X9) rfl dpX9_numberIn ⟨Nat.le_of_ble_eq_true rfl, Nat.le_of_ble_eq_true rfl⟩ ⟨rfl, rfl⟩ ⟨Nat.le_of_ble_eq_true rfl, Nat.le_of_ble_eq_true rfl⟩ rfl (Nat.le_of_ble_eq_true rfl) dX9_triesIn_32 ?_
      exact v_iret C hf dX9_triesIn_35
    · replace hf := bs_neg h7 hf
      refine v_sub [] rfl ?_
      exact wX9_triesIn_17   C  _  hf
/-! BootSlotsModel.runsIn(II)I -/
def fX9_runsIn (a1 : Int32) (a2 : Int32) (X : bsX) : Option (Int32 × bsX) := (fX9_noSlot  a1 X).bind fun r1 => if r1.1 = 0 then ((fX9_noTicks  a2 (3 : Int32) r1.2).bind fun r3 => if r3.1 = 0 then ((fX9_numberIn  (((80 : Int32) + ((13 : Int32) * a1)) + (5 : Int32)) a2 r3.2).bind fun r5 => (fX9_of  a1 (5 : Int32) r5.2).bind fun r7 => some ((r5.1 - r7.1), r7.2)) else (some ((0 : Int32), r3.2))) else (some ((0 : Int32), r1.2))
abbrev rmX9_runsIn : Room := { frames := 11, cells := 0, slots := 0, locals := 238 }
set_option maxHeartbeats 4000000 in
set_option maxRecDepth 100000 in
theorem cX9_runsIn_ok {l : Launch} {ρ : bsR} {cA : Nat → ClassId} {dC : Nat → ClassId} {dI : Nat → Nat → Nat} {Rz : va_W}  {a1 : Int32} {a2 : Int32} {X : bsX} {z : (Int32 × bsX)} (hf : fX9_runsIn a1 a2 X = some z) : bsMi l yX9_runsIn cX9_runsIn 3 (some .int) rmX9_runsIn ρ cA dC dI Rz [.ref (ρ 14 0 0), .int a1, .int a2] X z := by
  refine bsMi_of (by decide) (Nat.le_of_ble_eq_true rfl) (fun p e s m args below meth c C => ?_)
  have C : bsCx p m c cX9_runsIn 3 s args (Cond.code yX9_runsIn cX9_runsIn 3 (some .int) :: bsG) RX9 ρ cA dC dI Rz meth (some .int) := C
  rw [fX9_runsIn] at hf
  refine v_sub [0, 1, 2] rfl ?_
  refine v_aload_n C dX9_runsIn_0 rfl rfl ?_
  refine v_iload_n C dX9_runsIn_1 rfl rfl ?_
  obtain ⟨r1, hc2, hf⟩ := bs_bind hf
  refine v_callVi (y := yX9_noSlot) (As := [.int a1]) (rest := []) C (cX9_noSlot_ok  hc2) ml_X9_260 wyX9_noSlot (bsm_X9) (bsc_X9) rfl dpX9_noSlot ⟨Nat.le_of_ble_eq_true rfl, Nat.le_of_ble_eq_true rfl⟩ ⟨rfl, rfl⟩ ⟨Nat.le_of_ble_eq_true rfl, Nat.le_of_ble_eq_true rfl⟩ rfl (Nat.le_of_ble_eq_true rfl) dX9_runsIn_2 ?_
  refine v_if_ne (tgt := 17) C dX9_runsIn_5 (by decide) (fun h10 => ?_) (fun h10 => ?_)
  · replace hf := bs_neg h10 hf
    refine v_iconst (v := 0) C dX9_runsIn_17 (by decide) ?_
    exact v_iret C hf dX9_runsIn_18
  · replace hf := bs_pos h10 hf
    refine v_aload_n C dX9_runsIn_8 rfl rfl ?_
    refine v_iload_n C dX9_runsIn_9 rfl rfl ?_
    refine v_iconst (v := 3) C dX9_runsIn_10 (by decide) ?_
    obtain ⟨r3, hc4, hf⟩ := bs_bind hf
    refine v_callVi (y := yX9_noTicks) (As := [.int a2, .int (3 : Int32)]) (rest := []) C (cX9_noTicks_ok  hc4) ml_X9_289 wyX9_noTicks (bsm_X9) (bsc_X9) rfl dpX9_noTicks ⟨Nat.le_of_ble_eq_true rfl, Nat.le_of_ble_eq_true rfl⟩ ⟨rfl, rfl⟩ ⟨Nat.le_of_ble_eq_true rfl, Nat.le_of_ble_eq_true rfl⟩ rfl (Nat.le_of_ble_eq_true rfl) dX9_runsIn_11 ?_
    refine v_if_eq (tgt := 19) C dX9_runsIn_14 (by decide) (fun h9 => ?_) (fun h9 => ?_)
    · replace hf := bs_pos h9 hf
      refine v_aload_n C dX9_runsIn_19 rfl rfl ?_
      refine v_bipush (v := 80) C dX9_runsIn_20 (by decide) ?_
      refine v_bipush (v := 13) C dX9_runsIn_22 (by decide) ?_
      refine v_iload_n C dX9_runsIn_24 rfl rfl ?_
      refine v_imul C dX9_runsIn_25 ?_
      refine v_iadd C dX9_runsIn_26 ?_
      refine v_iconst (v := 5) C dX9_runsIn_27 (by decide) ?_
      refine v_iadd C dX9_runsIn_28 ?_
      refine v_iload_n C dX9_runsIn_29 rfl rfl ?_
      obtain ⟨r5, hc6, hf⟩ := bs_bind hf
      refine v_callVi (y := yX9_numberIn) (As := [.int (((80 : Int32) + ((13 : Int32) * a1)) + (5 : Int32)), .int a2]) (rest := []) C (cX9_numberIn_ok  hc6) ml_X9_292 wyX9_numberIn (bsm_X9) (bsc_X9) rfl dpX9_numberIn ⟨Nat.le_of_ble_eq_true rfl, Nat.le_of_ble_eq_true rfl⟩ ⟨rfl, rfl⟩ ⟨Nat.le_of_ble_eq_true rfl, Nat.le_of_ble_eq_true rfl⟩ rfl (Nat.le_of_ble_eq_true rfl) dX9_runsIn_30 ?_
      refine v_aload_n C dX9_runsIn_33 rfl rfl ?_
      refine v_iload_n C dX9_runsIn_34 rfl rfl ?_
      refine v_iconst (v := 5) C dX9_runsIn_35 (by decide) ?_
      obtain ⟨r7, hc8, hf⟩ := bs_bind hf
      refine v_callVi (y := yX9_of) (As := [.int a1, .int (5 : Int32)]) (rest := [.int r5.1]) C (cX9_of_ok  hc8) ml_X9_56 wyX9_of (bsm_X9) (bsc_X9) rfl dpX9_of ⟨Nat.le_of_ble_eq_true rfl, Nat.le_of_ble_eq_true rfl⟩ ⟨rfl, rfl⟩ ⟨Nat.le_of_ble_eq_true rfl, Nat.le_of_ble_eq_true rfl⟩ rfl (Nat.le_of_ble_eq_true rfl) dX9_runsIn_36 ?_
      refine v_isub C dX9_runsIn_39 ?_
      exact v_iret C hf dX9_runsIn_40
    · replace hf := bs_neg h9 hf
      refine v_iconst (v := 0) C dX9_runsIn_17 (by decide) ?_
      exact v_iret C hf dX9_runsIn_18
/-! BootSlotsModel.crashesIn(I)I -/
def fX9_crashesIn_16 (X : bsX) : Option (Int32 × bsX) := some ((0 : Int32), X)
def fX9_crashesIn (a1 : Int32) (X : bsX) : Option (Int32 × bsX) := (fX9_notLoaded   X).bind fun r1 => if r1.1 = 0 then ((fX9_noTicks  a1 (2 : Int32) r1.2).bind fun r3 => if r3.1 = 0 then ((fX9_numberIn  (15 : Int32) a1 r3.2).bind fun r5 => if bsIn (15 : Int32) 160 then (some ((r5.1 - (r5.2 14 1 0 (bsIx (15 : Int32)))), r5.2)) else none) else (fX9_crashesIn_16    r3.2)) else (fX9_crashesIn_16    r1.2)
abbrev rmX9_crashesIn : Room := { frames := 11, cells := 0, slots := 0, locals := 238 }
set_option maxHeartbeats 4000000 in
set_option maxRecDepth 100000 in
theorem wX9_crashesIn_16 {p : Program} {l : Launch} {e : Env} {s : State} {m : MethodId} {args : Array Value} {below : List Frame} {meth : Method} {c : Code} {ρ : bsR} {cA : Nat → ClassId} {dC : Nat → ClassId} {dI : Nat → Nat → Nat} {Rz : va_W} {Ts : List Cond}   {z : (Int32 × bsX)} (C : bsCx p m c cX9_crashesIn 2 s args Ts RX9 ρ cA dC dI Rz meth (some .int)) (X : bsX) (hf : fX9_crashesIn_16  X = some z) : bsV p l e rmX9_crashesIn s m args below meth c 0 0 (MQ below (bsQi ρ cA dC dI Rz z s.heap.size) args s 0 0 (bsA ρ cA Rz s.heap.size)) ρ cA dC dI Rz 2 16 [] [] X := by
  rw [fX9_crashesIn_16] at hf
  refine v_iconst (v := 0) C dX9_crashesIn_16 (by decide) ?_
  refine v_goto (tgt := 35) C dX9_crashesIn_17 (by decide) ?_
  exact v_iret C hf dX9_crashesIn_35
set_option maxHeartbeats 4000000 in
set_option maxRecDepth 100000 in
theorem cX9_crashesIn_ok {l : Launch} {ρ : bsR} {cA : Nat → ClassId} {dC : Nat → ClassId} {dI : Nat → Nat → Nat} {Rz : va_W}  {a1 : Int32} {X : bsX} {z : (Int32 × bsX)} (hf : fX9_crashesIn a1 X = some z) : bsMi l yX9_crashesIn cX9_crashesIn 2 (some .int) rmX9_crashesIn ρ cA dC dI Rz [.ref (ρ 14 0 0), .int a1] X z := by
  refine bsMi_of (by decide) (Nat.le_of_ble_eq_true rfl) (fun p e s m args below meth c C => ?_)
  have C : bsCx p m c cX9_crashesIn 2 s args (Cond.code yX9_crashesIn cX9_crashesIn 2 (some .int) :: bsG) RX9 ρ cA dC dI Rz meth (some .int) := C
  rw [fX9_crashesIn] at hf
  refine v_sub [0, 1] rfl ?_
  refine v_aload_n C dX9_crashesIn_0 rfl rfl ?_
  obtain ⟨r1, hc2, hf⟩ := bs_bind hf
  refine v_callVi (y := yX9_notLoaded) (As := []) (rest := []) C (cX9_notLoaded_ok  hc2) ml_X9_48 wyX9_notLoaded (bsm_X9) (bsc_X9) rfl dpX9_notLoaded ⟨Nat.le_of_ble_eq_true rfl, Nat.le_of_ble_eq_true rfl⟩ ⟨rfl, rfl⟩ ⟨Nat.le_of_ble_eq_true rfl, Nat.le_of_ble_eq_true rfl⟩ rfl (Nat.le_of_ble_eq_true rfl) dX9_crashesIn_1 ?_
  refine v_if_ne (tgt := 16) C dX9_crashesIn_4 (by decide) (fun h9 => ?_) (fun h9 => ?_)
  · replace hf := bs_neg h9 hf
    refine v_sub [] rfl ?_
    exact wX9_crashesIn_16   C  _  hf
  · replace hf := bs_pos h9 hf
    refine v_aload_n C dX9_crashesIn_7 rfl rfl ?_
    refine v_iload_n C dX9_crashesIn_8 rfl rfl ?_
    refine v_iconst (v := 2) C dX9_crashesIn_9 (by decide) ?_
    obtain ⟨r3, hc4, hf⟩ := bs_bind hf
    refine v_callVi (y := yX9_noTicks) (As := [.int a1, .int (2 : Int32)]) (rest := []) C (cX9_noTicks_ok  hc4) ml_X9_289 wyX9_noTicks (bsm_X9) (bsc_X9) rfl dpX9_noTicks ⟨Nat.le_of_ble_eq_true rfl, Nat.le_of_ble_eq_true rfl⟩ ⟨rfl, rfl⟩ ⟨Nat.le_of_ble_eq_true rfl, Nat.le_of_ble_eq_true rfl⟩ rfl (Nat.le_of_ble_eq_true rfl) dX9_crashesIn_10 ?_
    refine v_if_eq (tgt := 20) C dX9_crashesIn_13 (by decide) (fun h8 => ?_) (fun h8 => ?_)
    · replace hf := bs_pos h8 hf
      refine v_aload_n C dX9_crashesIn_20 rfl rfl ?_
      refine v_bipush (v := 15) C dX9_crashesIn_21 (by decide) ?_
      refine v_iload_n C dX9_crashesIn_23 rfl rfl ?_
      obtain ⟨r5, hc6, hf⟩ := bs_bind hf
      refine v_callVi (y := yX9_numberIn) (As := [.int (15 : Int32), .int a1]) (rest := []) C (cX9_numberIn_ok  hc6) ml_X9_292 wyX9_numberIn (bsm_X9) (bsc_X9) rfl dpX9_numberIn ⟨Nat.le_of_ble_eq_true rfl, Nat.le_of_ble_eq_true rfl⟩ ⟨rfl, rfl⟩ ⟨Nat.le_of_ble_eq_true rfl, Nat.le_of_ble_eq_true rfl⟩ rfl (Nat.le_of_ble_eq_true rfl) dX9_crashesIn_24 ?_
      refine v_aload_n C dX9_crashesIn_27 rfl rfl ?_
      refine gf_X9_7 C dX9_crashesIn_28 ?_
      refine v_bipush (v := 15) C dX9_crashesIn_31 (by decide) ?_
      obtain ⟨hi7, hf⟩ := bs_if hf
      refine v_iald (n := 160) C bsm_14_1 bsc_14_1 hi7 dX9_crashesIn_33 ?_
      refine v_isub C dX9_crashesIn_34 ?_
      exact v_iret C hf dX9_crashesIn_35
    · replace hf := bs_neg h8 hf
      refine v_sub [] rfl ?_
      exact wX9_crashesIn_16   C  _  hf
/-! BootSlotsModel.newerNow(I)I -/
def fX9_newerNow_43 (k2 : Int32 → Int32 → bsX → Option (Int32 × bsX)) (x1 : Int32) (x2 : Int32) (X : bsX) : Option (Int32 × bsX) := k2 x1 (x2 + (1 : Int32)) X
def fX9_newerNow_2 : Nat → Int32 → Int32 → bsX → Option (Int32 × bsX)
  | 0, _, _, _ => none
  | n + 1, x1, x2, X => if (300 : Int32) < x2 then (some ((-1 : Int32), X)) else ((fX9_ticks   X).bind fun r1 => if bsIn (6 : Int32) 160 then (if (r1 14 1 0 (bsIx (6 : Int32))) = (1 : Int32) then (if bsIn (7 : Int32) 160 then ((fX9_of  (r1 14 1 0 (bsIx (7 : Int32))) (8 : Int32) r1).bind fun r5 => if r5.1 ≤ x1 then (fX9_newerNow_43  (fX9_newerNow_2  n) x1 x2 r5.2) else (some (x2, r5.2))) else none) else (fX9_newerNow_43  (fX9_newerNow_2  n) x1 x2 r1)) else none)
def fX9_newerNow (a1 : Int32) (X : bsX) : Option (Int32 × bsX) := fX9_newerNow_2   bsF a1 (1 : Int32) X
abbrev rmX9_newerNow : Room := { frames := 9, cells := 0, slots := 0, locals := 194 }
set_option maxHeartbeats 4000000 in
set_option maxRecDepth 100000 in
theorem wX9_newerNow_43 {p : Program} {l : Launch} {e : Env} {s : State} {m : MethodId} {args : Array Value} {below : List Frame} {meth : Method} {c : Code} {ρ : bsR} {cA : Nat → ClassId} {dC : Nat → ClassId} {dI : Nat → Nat → Nat} {Rz : va_W} {Ts : List Cond}  (k2 : Int32 → Int32 → bsX → Option (Int32 × bsX))  {z : (Int32 × bsX)} (C : bsCx p m c cX9_newerNow 3 s args Ts RX9 ρ cA dC dI Rz meth (some .int)) (hk2 : ∀ (x1 : Int32) (x2 : Int32) (X : bsX), k2 x1 x2 X = some z → bsV p l e rmX9_newerNow s m args below meth c 0 0 (MQ below (bsQi ρ cA dC dI Rz z s.heap.size) args s 0 0 (bsA ρ cA Rz s.heap.size)) ρ cA dC dI Rz 3 2 [(0, .ref (ρ 14 0 0)), (1, .int x1), (2, .int x2)] [] X)  (x1 : Int32) (x2 : Int32) (X : bsX) (hf : fX9_newerNow_43 k2 x1 x2 X = some z) : bsV p l e rmX9_newerNow s m args below meth c 0 0 (MQ below (bsQi ρ cA dC dI Rz z s.heap.size) args s 0 0 (bsA ρ cA Rz s.heap.size)) ρ cA dC dI Rz 3 43 [(0, .ref (ρ 14 0 0)), (1, .int x1), (2, .int x2)] [] X := by
  rw [fX9_newerNow_43] at hf
  refine v_iinc (k0 := 2) (v := (x2 + (1 : Int32))) (lv' := [(2, .int (x2 + (1 : Int32))), (0, .ref (ρ 14 0 0)), (1, .int x1)]) C dX9_newerNow_43 rfl rfl (by decide) rfl ?_
  refine v_goto (tgt := 2) C dX9_newerNow_46 (by decide) ?_
  refine v_sub [1, 2, 0] rfl ?_
  exact hk2 _ _ _  hf
set_option maxHeartbeats 4000000 in
set_option maxRecDepth 100000 in
theorem wX9_newerNow_2 {p : Program} {l : Launch} {e : Env} {s : State} {m : MethodId} {args : Array Value} {below : List Frame} {meth : Method} {c : Code} {ρ : bsR} {cA : Nat → ClassId} {dC : Nat → ClassId} {dI : Nat → Nat → Nat} {Rz : va_W} {Ts : List Cond}   {z : (Int32 × bsX)} (C : bsCx p m c cX9_newerNow 3 s args Ts RX9 ρ cA dC dI Rz meth (some .int)) : ∀ (n : Nat) (x1 : Int32) (x2 : Int32) (X : bsX), fX9_newerNow_2  n x1 x2 X = some z → bsV p l e rmX9_newerNow s m args below meth c 0 0 (MQ below (bsQi ρ cA dC dI Rz z s.heap.size) args s 0 0 (bsA ρ cA Rz s.heap.size)) ρ cA dC dI Rz 3 2 [(0, .ref (ρ 14 0 0)), (1, .int x1), (2, .int x2)] [] X := by
  intro n
  induction n with
  | zero => intro x1 x2 X hf; exact (nomatch hf)
  | succ n ih =>
    intro x1 x2 X hf
    rw [fX9_newerNow_2] at hf
    refine v_iload_n C dX9_newerNow_2 rfl rfl ?_
    refine v_sipush (v := 300) C dX9_newerNow_3 (by decide) ?_
    refine v_icmp_gt (tgt := 49) C dX9_newerNow_6 (by decide) (fun h9 => ?_) (fun h9 => ?_)
    · replace hf := bs_pos h9 hf
      refine v_iconst (v := -1) C dX9_newerNow_49 (by decide) ?_
      exact v_iret C hf dX9_newerNow_50
    · replace hf := bs_neg h9 hf
      refine v_aload_n C dX9_newerNow_9 rfl rfl ?_
      obtain ⟨r1, hc2, hf⟩ := bs_bind hf
      refine v_callVv (y := yX9_ticks) (As := []) (rest := []) C (cX9_ticks_ok  hc2) ml_X9_133 wyX9_ticks (bsm_X9) (bsc_X9) rfl dpX9_ticks ⟨Nat.le_of_ble_eq_true rfl, Nat.le_of_ble_eq_true rfl⟩ ⟨rfl, rfl⟩ ⟨Nat.le_of_ble_eq_true rfl, Nat.le_of_ble_eq_true rfl⟩ rfl (Nat.le_of_ble_eq_true rfl) dX9_newerNow_10 ?_
      refine v_aload_n C dX9_newerNow_13 rfl rfl ?_
      refine gf_X9_7 C dX9_newerNow_14 ?_
      refine v_bipush (v := 6) C dX9_newerNow_17 (by decide) ?_
      obtain ⟨hi3, hf⟩ := bs_if hf
      refine v_iald (n := 160) C bsm_14_1 bsc_14_1 hi3 dX9_newerNow_19 ?_
      refine v_iconst (v := 1) C dX9_newerNow_20 (by decide) ?_
      refine v_icmp_ne (tgt := 43) C dX9_newerNow_21 (by decide) (fun h8 => ?_) (fun h8 => ?_)
      · replace hf := bs_neg h8 hf
        refine v_sub [0, 1, 2] rfl ?_
        exact wX9_newerNow_43  (fX9_newerNow_2  n) C (fun b0 b1 X  h => ih b0 b1 X  h) _ _ _  hf
      · replace hf := bs_pos h8 hf
        refine v_aload_n C dX9_newerNow_24 rfl rfl ?_
        refine v_aload_n C dX9_newerNow_25 rfl rfl ?_
        refine gf_X9_7 C dX9_newerNow_26 ?_
        refine v_bipush (v := 7) C dX9_newerNow_29 (by decide) ?_
        obtain ⟨hi4, hf⟩ := bs_if hf
        refine v_iald (n := 160) C bsm_14_1 bsc_14_1 hi4 dX9_newerNow_31 ?_
        refine v_bipush (v := 8) C dX9_newerNow_32 (by decide) ?_
        obtain ⟨r5, hc6, hf⟩ := bs_bind hf
        refine v_callVi (y := yX9_of) (As := [.int (r1 14 1 0 (bsIx (7 : Int32))), .int (8 : Int32)]) (rest := []) C (cX9_of_ok  hc6) ml_X9_56 wyX9_of (bsm_X9) (bsc_X9) rfl dpX9_of ⟨Nat.le_of_ble_eq_true rfl, Nat.le_of_ble_eq_true rfl⟩ ⟨rfl, rfl⟩ ⟨Nat.le_of_ble_eq_true rfl, Nat.le_of_ble_eq_true rfl⟩ rfl (Nat.le_of_ble_eq_true rfl) dX9_newerNow_34 ?_
        refine v_iload_n C dX9_newerNow_37 rfl rfl ?_
        refine v_icmp_le (tgt := 43) C dX9_newerNow_38 (by decide) (fun h7 => ?_) (fun h7 => ?_)
        · replace hf := bs_pos h7 hf
          refine v_sub [0, 1, 2] rfl ?_
          exact wX9_newerNow_43  (fX9_newerNow_2  n) C (fun b0 b1 X  h => ih b0 b1 X  h) _ _ _  hf
        · replace hf := bs_neg h7 hf
          refine v_iload_n C dX9_newerNow_41 rfl rfl ?_
          exact v_iret C hf dX9_newerNow_42
set_option maxHeartbeats 4000000 in
set_option maxRecDepth 100000 in
theorem cX9_newerNow_ok {l : Launch} {ρ : bsR} {cA : Nat → ClassId} {dC : Nat → ClassId} {dI : Nat → Nat → Nat} {Rz : va_W}  {a1 : Int32} {X : bsX} {z : (Int32 × bsX)} (hf : fX9_newerNow a1 X = some z) : bsMi l yX9_newerNow cX9_newerNow 3 (some .int) rmX9_newerNow ρ cA dC dI Rz [.ref (ρ 14 0 0), .int a1] X z := by
  refine bsMi_of (by decide) (Nat.le_of_ble_eq_true rfl) (fun p e s m args below meth c C => ?_)
  have C : bsCx p m c cX9_newerNow 3 s args (Cond.code yX9_newerNow cX9_newerNow 3 (some .int) :: bsG) RX9 ρ cA dC dI Rz meth (some .int) := C
  rw [fX9_newerNow] at hf
  refine v_sub [0, 1] rfl ?_
  refine v_iconst (v := 1) C dX9_newerNow_0 (by decide) ?_
  refine v_istore_n (lv' := [(2, .int (1 : Int32)), (0, .ref (ρ 14 0 0)), (1, .int a1)]) C dX9_newerNow_1 rfl (by decide) rfl ?_
  refine v_sub [1, 2, 0] rfl ?_
  exact wX9_newerNow_2   C  bsF _ _ _  hf
/-! BootSlotsModel.newerIn()I -/
def fX9_newerIn_18 (X : bsX) : Option (Int32 × bsX) := if (X 14 0 0 0) = 0 then (some ((-1 : Int32), X)) else (some ((0 : Int32), X))
def fX9_newerIn (X : bsX) : Option (Int32 × bsX) := (fX9_notLoaded   X).bind fun r2 => if r2.1 = 0 then (if bsIn (6 : Int32) 160 then (if (r2.2 14 1 0 (bsIx (6 : Int32))) = (1 : Int32) then ((fX9_laysAside   r2.2).bind fun r5 => if bsIn (7 : Int32) 160 then ((fX9_of  (r5 14 1 0 (bsIx (7 : Int32))) (8 : Int32) r5).bind fun r8 => (fX9_newerNow  r8.1 r8.2).bind fun r10 => (fX9_back  r10.1 r10.2).bind fun r12 => some (r12.1, r12.2)) else none) else (fX9_newerIn_18    r2.2)) else none) else (fX9_newerIn_18    r2.2)
abbrev rmX9_newerIn : Room := { frames := 10, cells := 0, slots := 0, locals := 216 }
set_option maxHeartbeats 4000000 in
set_option maxRecDepth 100000 in
theorem wX9_newerIn_18 {p : Program} {l : Launch} {e : Env} {s : State} {m : MethodId} {args : Array Value} {below : List Frame} {meth : Method} {c : Code} {ρ : bsR} {cA : Nat → ClassId} {dC : Nat → ClassId} {dI : Nat → Nat → Nat} {Rz : va_W} {Ts : List Cond}   {z : (Int32 × bsX)} (C : bsCx p m c cX9_newerIn 1 s args Ts RX9 ρ cA dC dI Rz meth (some .int)) (X : bsX) (hf : fX9_newerIn_18  X = some z) : bsV p l e rmX9_newerIn s m args below meth c 0 0 (MQ below (bsQi ρ cA dC dI Rz z s.heap.size) args s 0 0 (bsA ρ cA Rz s.heap.size)) ρ cA dC dI Rz 1 18 [(0, .ref (ρ 14 0 0))] [] X := by
  rw [fX9_newerIn_18] at hf
  refine v_aload_n C dX9_newerIn_18 rfl rfl ?_
  refine gf_X9_33 C dX9_newerIn_19 ?_
  refine v_if_eq (tgt := 29) C dX9_newerIn_22 (by decide) (fun h1 => ?_) (fun h1 => ?_)
  · replace hf := bs_pos h1 hf
    refine v_iconst (v := -1) C dX9_newerIn_29 (by decide) ?_
    exact v_iret C hf dX9_newerIn_30
  · replace hf := bs_neg h1 hf
    refine v_iconst (v := 0) C dX9_newerIn_25 (by decide) ?_
    refine v_goto (tgt := 30) C dX9_newerIn_26 (by decide) ?_
    exact v_iret C hf dX9_newerIn_30
set_option maxHeartbeats 4000000 in
set_option maxRecDepth 100000 in
theorem cX9_newerIn_ok {l : Launch} {ρ : bsR} {cA : Nat → ClassId} {dC : Nat → ClassId} {dI : Nat → Nat → Nat} {Rz : va_W}  {X : bsX} {z : (Int32 × bsX)} (hf : fX9_newerIn  X = some z) : bsMi l yX9_newerIn cX9_newerIn 1 (some .int) rmX9_newerIn ρ cA dC dI Rz [.ref (ρ 14 0 0)] X z := by
  refine bsMi_of (by decide) (Nat.le_of_ble_eq_true rfl) (fun p e s m args below meth c C => ?_)
  have C : bsCx p m c cX9_newerIn 1 s args (Cond.code yX9_newerIn cX9_newerIn 1 (some .int) :: bsG) RX9 ρ cA dC dI Rz meth (some .int) := C
  rw [fX9_newerIn] at hf
  refine v_sub [0] rfl ?_
  refine v_aload_n C dX9_newerIn_0 rfl rfl ?_
  obtain ⟨r2, hc3, hf⟩ := bs_bind hf
  refine v_callVi (y := yX9_notLoaded) (As := []) (rest := []) C (cX9_notLoaded_ok  hc3) ml_X9_48 wyX9_notLoaded (bsm_X9) (bsc_X9) rfl dpX9_notLoaded ⟨Nat.le_of_ble_eq_true rfl, Nat.le_of_ble_eq_true rfl⟩ ⟨rfl, rfl⟩ ⟨Nat.le_of_ble_eq_true rfl, Nat.le_of_ble_eq_true rfl⟩ rfl (Nat.le_of_ble_eq_true rfl) dX9_newerIn_1 ?_
  refine v_if_ne (tgt := 18) C dX9_newerIn_4 (by decide) (fun h15 => ?_) (fun h15 => ?_)
  · replace hf := bs_neg h15 hf
    refine v_sub [0] rfl ?_
    exact wX9_newerIn_18   C  _  hf
  · replace hf := bs_pos h15 hf
    refine v_aload_n C dX9_newerIn_7 rfl rfl ?_
    refine gf_X9_7 C dX9_newerIn_8 ?_
    refine v_bipush (v := 6) C dX9_newerIn_11 (by decide) ?_
    obtain ⟨hi4, hf⟩ := bs_if hf
    refine v_iald (n := 160) C bsm_14_1 bsc_14_1 hi4 dX9_newerIn_13 ?_
    refine v_iconst (v := 1) C dX9_newerIn_14 (by decide) ?_
    refine v_icmp_eq (tgt := 31) C dX9_newerIn_15 (by decide) (fun h14 => ?_) (fun h14 => ?_)
    · replace hf := bs_pos h14 hf
      refine v_aload_n C dX9_newerIn_31 rfl rfl ?_
      obtain ⟨r5, hc6, hf⟩ := bs_bind hf
      refine v_callVv (y := yX9_laysAside) (As := []) (rest := []) C (cX9_laysAside_ok  hc6) ml_X9_280 wyX9_laysAside (bsm_X9) (bsc_X9) rfl dpX9_laysAside ⟨Nat.le_of_ble_eq_true rfl, Nat.le_of_ble_eq_true rfl⟩ ⟨rfl, rfl⟩ ⟨Nat.le_of_ble_eq_true rfl, Nat.le_of_ble_eq_true rfl⟩ rfl (Nat.le_of_ble_eq_true rfl) dX9_newerIn_32 ?_
      refine v_aload_n C dX9_newerIn_35 rfl rfl ?_
      refine v_aload_n C dX9_newerIn_36 rfl rfl ?_
      refine v_aload_n C dX9_newerIn_37 rfl rfl ?_
      refine v_aload_n C dX9_newerIn_38 rfl rfl ?_
      refine gf_X9_7 C dX9_newerIn_39 ?_
      refine v_bipush (v := 7) C dX9_newerIn_42 (by decide) ?_
      obtain ⟨hi7, hf⟩ := bs_if hf
      refine v_iald (n := 160) C bsm_14_1 bsc_14_1 hi7 dX9_newerIn_44 ?_
      refine v_bipush (v := 8) C dX9_newerIn_45 (by decide) ?_
      obtain ⟨r8, hc9, hf⟩ := bs_bind hf
      refine v_callVi (y := yX9_of) (As := [.int (r5 14 1 0 (bsIx (7 : Int32))), .int (8 : Int32)]) (rest := [.ref (ρ 14 0 0), .ref (ρ 14 0 0)]) C (cX9_of_ok  hc9) ml_X9_56 wyX9_of (bsm_X9) (bsc_X9) rfl dpX9_of ⟨Nat.le_of_ble_eq_true rfl, Nat.le_of_ble_eq_true rfl⟩ ⟨rfl, rfl⟩ ⟨Nat.le_of_ble_eq_true rfl, Nat.le_of_ble_eq_true rfl⟩ rfl (Nat.le_of_ble_eq_true rfl) dX9_newerIn_47 ?_
      obtain ⟨r10, hc11, hf⟩ := bs_bind hf
      refine v_callVi (y := yX9_newerNow) (As := [.int r8.1]) (rest := [.ref (ρ 14 0 0)]) C (cX9_newerNow_ok  hc11) ml_X9_304 wyX9_newerNow (bsm_X9) (bsc_X9) rfl dpX9_newerNow ⟨Nat.le_of_ble_eq_true rfl, Nat.le_of_ble_eq_true rfl⟩ ⟨rfl, rfl⟩ ⟨Nat.le_of_ble_eq_true rfl, Nat.le_of_ble_eq_true rfl⟩ rfl (Nat.le_of_ble_eq_true rfl) dX9_newerIn_50 ?_
      obtain ⟨r12, hc13, hf⟩ := bs_bind hf
      refine v_callVi (y := yX9_back) (As := [.int r10.1]) (rest := []) C (cX9_back_ok  hc13) ml_X9_286 wyX9_back (bsm_X9) (bsc_X9) rfl dpX9_back ⟨Nat.le_of_ble_eq_true rfl, Nat.le_of_ble_eq_true rfl⟩ ⟨rfl, rfl⟩ ⟨Nat.le_of_ble_eq_true rfl, Nat.le_of_ble_eq_true rfl⟩ rfl (Nat.le_of_ble_eq_true rfl) dX9_newerIn_53 ?_
      exact v_iret C hf dX9_newerIn_56
    · replace hf := bs_neg h14 hf
      refine v_sub [0] rfl ?_
      exact wX9_newerIn_18   C  _  hf
/-! BootSlotsModel.settles()I -/
def fX9_settles (X : bsX) : Option (Int32 × bsX) := (fX9_boots  (1 : Int32) X).bind fun r1 => (fX9_ticksAll  (300 : Int32) r1.2).bind fun r3 => if bsIn (7 : Int32) 160 then (some ((r3 14 1 0 (bsIx (7 : Int32))), r3)) else none
abbrev rmX9_settles : Room := { frames := 10, cells := 0, slots := 0, locals := 216 }
set_option maxHeartbeats 4000000 in
set_option maxRecDepth 100000 in
theorem cX9_settles_ok {l : Launch} {ρ : bsR} {cA : Nat → ClassId} {dC : Nat → ClassId} {dI : Nat → Nat → Nat} {Rz : va_W}  {X : bsX} {z : (Int32 × bsX)} (hf : fX9_settles  X = some z) : bsMi l yX9_settles cX9_settles 2 (some .int) rmX9_settles ρ cA dC dI Rz [.ref (ρ 14 0 0)] X z := by
  refine bsMi_of (by decide) (Nat.le_of_ble_eq_true rfl) (fun p e s m args below meth c C => ?_)
  have C : bsCx p m c cX9_settles 2 s args (Cond.code yX9_settles cX9_settles 2 (some .int) :: bsG) RX9 ρ cA dC dI Rz meth (some .int) := C
  rw [fX9_settles] at hf
  refine v_sub [0] rfl ?_
  refine v_aload_n C dX9_settles_0 rfl rfl ?_
  refine v_iconst (v := 1) C dX9_settles_1 (by decide) ?_
  obtain ⟨r1, hc2, hf⟩ := bs_bind hf
  refine v_callVi (y := yX9_boots) (As := [.int (1 : Int32)]) (rest := []) C (cX9_boots_ok  hc2) ml_X9_92 wyX9_boots (bsm_X9) (bsc_X9) rfl dpX9_boots ⟨Nat.le_of_ble_eq_true rfl, Nat.le_of_ble_eq_true rfl⟩ ⟨rfl, rfl⟩ ⟨Nat.le_of_ble_eq_true rfl, Nat.le_of_ble_eq_true rfl⟩ rfl (Nat.le_of_ble_eq_true rfl) dX9_settles_2 ?_
  refine v_istore_n (lv' := [(1, .int r1.1), (0, .ref (ρ 14 0 0))]) C dX9_settles_5 rfl (by decide) rfl ?_
  refine v_aload_n C dX9_settles_6 rfl rfl ?_
  refine v_sipush (v := 300) C dX9_settles_7 (by decide) ?_
  obtain ⟨r3, hc4, hf⟩ := bs_bind hf
  refine v_callVv (y := yX9_ticksAll) (As := [.int (300 : Int32)]) (rest := []) C (cX9_ticksAll_ok  hc4) ml_X9_283 wyX9_ticksAll (bsm_X9) (bsc_X9) rfl dpX9_ticksAll ⟨Nat.le_of_ble_eq_true rfl, Nat.le_of_ble_eq_true rfl⟩ ⟨rfl, rfl⟩ ⟨Nat.le_of_ble_eq_true rfl, Nat.le_of_ble_eq_true rfl⟩ rfl (Nat.le_of_ble_eq_true rfl) dX9_settles_10 ?_
  refine v_aload_n C dX9_settles_13 rfl rfl ?_
  refine gf_X9_7 C dX9_settles_14 ?_
  refine v_bipush (v := 7) C dX9_settles_17 (by decide) ?_
  obtain ⟨hi5, hf⟩ := bs_if hf
  refine v_iald (n := 160) C bsm_14_1 bsc_14_1 hi5 dX9_settles_19 ?_
  exact v_iret C hf dX9_settles_20
/-! BootSlotsModel.ifInstalled(III)I -/
def fX9_ifInstalled_38 (x1 : Int32) (x2 : Int32) (x3 : Int32) (y1 : Int32) (X : bsX) : Option (Int32 × bsX) := (fX9_refuse  y1 (3 : Int32) X).bind fun r1 => if r1.1 = 0 then ((fX9_laysAside   r1.2).bind fun r3 => (fX9_empties  x1 r3).bind fun r5 => (fX9_noInstall   r5).bind fun r7 => (fX9_comes  x1 x2 x3 (0 : Int32) r7).bind fun r9 => (fX9_settles   r9).bind fun r11 => (fX9_back  r11.1 r11.2).bind fun r13 => some (r13.1, r13.2)) else (some ((0 : Int32), r1.2))
def fX9_ifInstalled_33 (x1 : Int32) (x2 : Int32) (x3 : Int32) (X : bsX) : Option (Int32 × bsX) := fX9_ifInstalled_38   x1 x2 x3 (1 : Int32) X
def fX9_ifInstalled (a1 : Int32) (a2 : Int32) (a3 : Int32) (X : bsX) : Option (Int32 × bsX) := (fX9_noSlot  a1 X).bind fun r16 => if r16.1 = 0 then ((fX9_in  a2.toInt64 (0 : Int64) (99 : Int64) r16.2).bind fun r18 => if r18.1 = 0 then (fX9_ifInstalled_33   a1 a2 a3 r18.2) else ((fX9_in  a3.toInt64 (1 : Int64) (99 : Int64) r18.2).bind fun r20 => if r20.1 = 0 then (fX9_ifInstalled_33   a1 a2 a3 r20.2) else (fX9_ifInstalled_38   a1 a2 a3 (0 : Int32) r20.2))) else (some ((0 : Int32), r16.2))
abbrev rmX9_ifInstalled : Room := { frames := 11, cells := 0, slots := 0, locals := 237 }
set_option maxHeartbeats 4000000 in
set_option maxRecDepth 100000 in
theorem wX9_ifInstalled_38 {p : Program} {l : Launch} {e : Env} {s : State} {m : MethodId} {args : Array Value} {below : List Frame} {meth : Method} {c : Code} {ρ : bsR} {cA : Nat → ClassId} {dC : Nat → ClassId} {dI : Nat → Nat → Nat} {Rz : va_W} {Ts : List Cond}   {z : (Int32 × bsX)} (C : bsCx p m c cX9_ifInstalled 4 s args Ts RX9 ρ cA dC dI Rz meth (some .int)) (x1 : Int32) (x2 : Int32) (x3 : Int32) (y1 : Int32) (X : bsX) (hf : fX9_ifInstalled_38 x1 x2 x3 y1 X = some z) : bsV p l e rmX9_ifInstalled s m args below meth c 0 0 (MQ below (bsQi ρ cA dC dI Rz z s.heap.size) args s 0 0 (bsA ρ cA Rz s.heap.size)) ρ cA dC dI Rz 4 38 [(0, .ref (ρ 14 0 0)), (1, .int x1), (2, .int x2), (3, .int x3)] [.int y1, .ref (ρ 14 0 0)] X := by
  rw [fX9_ifInstalled_38] at hf
  refine v_iconst (v := 3) C dX9_ifInstalled_38 (by decide) ?_
  obtain ⟨r1, hc2, hf⟩ := bs_bind hf
  refine v_callVi (y := yX9_refuse) (As := [.int y1, .int (3 : Int32)]) (rest := []) C (cX9_refuse_ok  hc2) ml_X9_40 wyX9_refuse (bsm_X9) (bsc_X9) rfl dpX9_refuse ⟨Nat.le_of_ble_eq_true rfl, Nat.le_of_ble_eq_true rfl⟩ ⟨rfl, rfl⟩ ⟨Nat.le_of_ble_eq_true rfl, Nat.le_of_ble_eq_true rfl⟩ rfl (Nat.le_of_ble_eq_true rfl) dX9_ifInstalled_39 ?_
  refine v_if_eq (tgt := 47) C dX9_ifInstalled_42 (by decide) (fun h15 => ?_) (fun h15 => ?_)
  · replace hf := bs_pos h15 hf
    refine v_aload_n C dX9_ifInstalled_47 rfl rfl ?_
    obtain ⟨r3, hc4, hf⟩ := bs_bind hf
    refine v_callVv (y := yX9_laysAside) (As := []) (rest := []) C (cX9_laysAside_ok  hc4) ml_X9_280 wyX9_laysAside (bsm_X9) (bsc_X9) rfl dpX9_laysAside ⟨Nat.le_of_ble_eq_true rfl, Nat.le_of_ble_eq_true rfl⟩ ⟨rfl, rfl⟩ ⟨Nat.le_of_ble_eq_true rfl, Nat.le_of_ble_eq_true rfl⟩ rfl (Nat.le_of_ble_eq_true rfl) dX9_ifInstalled_48 ?_
    refine v_aload_n C dX9_ifInstalled_51 rfl rfl ?_
    refine v_iload_n C dX9_ifInstalled_52 rfl rfl ?_
    obtain ⟨r5, hc6, hf⟩ := bs_bind hf
    refine v_callVv (y := yX9_empties) (As := [.int x1]) (rest := []) C (cX9_empties_ok  hc6) ml_X9_309 wyX9_empties (bsm_X9) (bsc_X9) rfl dpX9_empties ⟨Nat.le_of_ble_eq_true rfl, Nat.le_of_ble_eq_true rfl⟩ ⟨rfl, rfl⟩ ⟨Nat.le_of_ble_eq_true rfl, Nat.le_of_ble_eq_true rfl⟩ rfl (Nat.le_of_ble_eq_true rfl) dX9_ifInstalled_53 ?_
    refine v_aload_n C dX9_ifInstalled_56 rfl rfl ?_
    obtain ⟨r7, hc8, hf⟩ := bs_bind hf
    refine v_callVv (y := yX9_noInstall) (As := []) (rest := []) C (cX9_noInstall_ok  hc8) ml_X9_121 wyX9_noInstall (bsm_X9) (bsc_X9) rfl dpX9_noInstall ⟨Nat.le_of_ble_eq_true rfl, Nat.le_of_ble_eq_true rfl⟩ ⟨rfl, rfl⟩ ⟨Nat.le_of_ble_eq_true rfl, Nat.le_of_ble_eq_true rfl⟩ rfl (Nat.le_of_ble_eq_true rfl) dX9_ifInstalled_57 ?_
    refine v_aload_n C dX9_ifInstalled_60 rfl rfl ?_
    refine v_iload_n C dX9_ifInstalled_61 rfl rfl ?_
    refine v_iload_n C dX9_ifInstalled_62 rfl rfl ?_
    refine v_iload_n C dX9_ifInstalled_63 rfl rfl ?_
    refine v_iconst (v := 0) C dX9_ifInstalled_64 (by decide) ?_
    obtain ⟨r9, hc10, hf⟩ := bs_bind hf
    refine v_callVv (y := yX9_comes) (As := [.int x1, .int x2, .int x3, .int (0 : Int32)]) (rest := []) C (cX9_comes_ok  hc10) ml_X9_117 wyX9_comes (bsm_X9) (bsc_X9) rfl dpX9_comes ⟨Nat.le_of_ble_eq_true rfl, Nat.le_of_ble_eq_true rfl⟩ ⟨rfl, rfl⟩ ⟨Nat.le_of_ble_eq_true rfl, Nat.le_of_ble_eq_true rfl⟩ rfl (Nat.le_of_ble_eq_true rfl) dX9_ifInstalled_65 ?_
    refine v_aload_n C dX9_ifInstalled_68 rfl rfl ?_
    refine v_aload_n C dX9_ifInstalled_69 rfl rfl ?_
    obtain ⟨r11, hc12, hf⟩ := bs_bind hf
    refine v_callVi (y := yX9_settles) (As := []) (rest := [.ref (ρ 14 0 0)]) C (cX9_settles_ok  hc12) ml_X9_312 wyX9_settles (bsm_X9) (bsc_X9) rfl dpX9_settles ⟨Nat.le_of_ble_eq_true rfl, Nat.le_of_ble_eq_true rfl⟩ ⟨rfl, rfl⟩ ⟨Nat.le_of_ble_eq_true rfl, Nat.le_of_ble_eq_true rfl⟩ rfl (Nat.le_of_ble_eq_true rfl) dX9_ifInstalled_70 ?_
    obtain ⟨r13, hc14, hf⟩ := bs_bind hf
    refine v_callVi (y := yX9_back) (As := [.int r11.1]) (rest := []) C (cX9_back_ok  hc14) ml_X9_286 wyX9_back (bsm_X9) (bsc_X9) rfl dpX9_back ⟨Nat.le_of_ble_eq_true rfl, Nat.le_of_ble_eq_true rfl⟩ ⟨rfl, rfl⟩ ⟨Nat.le_of_ble_eq_true rfl, Nat.le_of_ble_eq_true rfl⟩ rfl (Nat.le_of_ble_eq_true rfl) dX9_ifInstalled_73 ?_
    exact v_iret C hf dX9_ifInstalled_76
  · replace hf := bs_neg h15 hf
    refine v_iconst (v := 0) C dX9_ifInstalled_45 (by decide) ?_
    exact v_iret C hf dX9_ifInstalled_46
set_option maxHeartbeats 4000000 in
set_option maxRecDepth 100000 in
theorem wX9_ifInstalled_33 {p : Program} {l : Launch} {e : Env} {s : State} {m : MethodId} {args : Array Value} {below : List Frame} {meth : Method} {c : Code} {ρ : bsR} {cA : Nat → ClassId} {dC : Nat → ClassId} {dI : Nat → Nat → Nat} {Rz : va_W} {Ts : List Cond}   {z : (Int32 × bsX)} (C : bsCx p m c cX9_ifInstalled 4 s args Ts RX9 ρ cA dC dI Rz meth (some .int)) (x1 : Int32) (x2 : Int32) (x3 : Int32) (X : bsX) (hf : fX9_ifInstalled_33 x1 x2 x3 X = some z) : bsV p l e rmX9_ifInstalled s m args below meth c 0 0 (MQ below (bsQi ρ cA dC dI Rz z s.heap.size) args s 0 0 (bsA ρ cA Rz s.heap.size)) ρ cA dC dI Rz 4 33 [(0, .ref (ρ 14 0 0)), (1, .int x1), (2, .int x2), (3, .int x3)] [.ref (ρ 14 0 0)] X := by
  rw [fX9_ifInstalled_33] at hf
  refine v_iconst (v := 1) C dX9_ifInstalled_33 (by decide) ?_
  refine v_goto (tgt := 38) C dX9_ifInstalled_34 (by decide) ?_
  refine v_sub [0, 1, 2, 3] rfl ?_
  exact wX9_ifInstalled_38   C  _ _ _ _ _  hf
set_option maxHeartbeats 4000000 in
set_option maxRecDepth 100000 in
theorem cX9_ifInstalled_ok {l : Launch} {ρ : bsR} {cA : Nat → ClassId} {dC : Nat → ClassId} {dI : Nat → Nat → Nat} {Rz : va_W}  {a1 : Int32} {a2 : Int32} {a3 : Int32} {X : bsX} {z : (Int32 × bsX)} (hf : fX9_ifInstalled a1 a2 a3 X = some z) : bsMi l yX9_ifInstalled cX9_ifInstalled 4 (some .int) rmX9_ifInstalled ρ cA dC dI Rz [.ref (ρ 14 0 0), .int a1, .int a2, .int a3] X z := by
  refine bsMi_of (by decide) (Nat.le_of_ble_eq_true rfl) (fun p e s m args below meth c C => ?_)
  have C : bsCx p m c cX9_ifInstalled 4 s args (Cond.code yX9_ifInstalled cX9_ifInstalled 4 (some .int) :: bsG) RX9 ρ cA dC dI Rz meth (some .int) := C
  rw [fX9_ifInstalled] at hf
  refine v_sub [0, 1, 2, 3] rfl ?_
  refine v_aload_n C dX9_ifInstalled_0 rfl rfl ?_
  refine v_iload_n C dX9_ifInstalled_1 rfl rfl ?_
  obtain ⟨r16, hc17, hf⟩ := bs_bind hf
  refine v_callVi (y := yX9_noSlot) (As := [.int a1]) (rest := []) C (cX9_noSlot_ok  hc17) ml_X9_260 wyX9_noSlot (bsm_X9) (bsc_X9) rfl dpX9_noSlot ⟨Nat.le_of_ble_eq_true rfl, Nat.le_of_ble_eq_true rfl⟩ ⟨rfl, rfl⟩ ⟨Nat.le_of_ble_eq_true rfl, Nat.le_of_ble_eq_true rfl⟩ rfl (Nat.le_of_ble_eq_true rfl) dX9_ifInstalled_2 ?_
  refine v_if_ne (tgt := 45) C dX9_ifInstalled_5 (by decide) (fun h24 => ?_) (fun h24 => ?_)
  · replace hf := bs_neg h24 hf
    refine v_iconst (v := 0) C dX9_ifInstalled_45 (by decide) ?_
    exact v_iret C hf dX9_ifInstalled_46
  · replace hf := bs_pos h24 hf
    refine v_aload_n C dX9_ifInstalled_8 rfl rfl ?_
    refine v_iload_n C dX9_ifInstalled_9 rfl rfl ?_
    refine v_i2l C dX9_ifInstalled_10 ?_
    refine v_lconst (v := (0 : Int64)) C dX9_ifInstalled_11 (by decide) ?_
    refine v_ldc2 (v := (99 : Int64)) C (bsG_in 1887 (by decide +kernel) rfl) dX9_ifInstalled_12 ?_
    obtain ⟨r18, hc19, hf⟩ := bs_bind hf
    refine v_callSi (y := yX9_in) (As := [.long a2.toInt64, .long (0 : Int64), .long (99 : Int64)]) (rest := [.ref (ρ 14 0 0)]) C (cX9_in_ok  hc19) ml_X9_44 wzX9_in dpX9_in ⟨Nat.le_of_ble_eq_true rfl, Nat.le_of_ble_eq_true rfl⟩ ⟨rfl, rfl⟩ ⟨Nat.le_of_ble_eq_true rfl, Nat.le_of_ble_eq_true rfl⟩ rfl (Nat.le_of_ble_eq_true rfl) dX9_ifInstalled_15 ?_
    refine v_if_eq (tgt := 33) C dX9_ifInstalled_18 (by decide) (fun h23 => ?_) (fun h23 => ?_)
    · replace hf := bs_pos h23 hf
      refine v_sub [0, 1, 2, 3] rfl ?_
      exact wX9_ifInstalled_33   C  _ _ _ _  hf
    · replace hf := bs_neg h23 hf
      refine v_iload_n C dX9_ifInstalled_21 rfl rfl ?_
      refine v_i2l C dX9_ifInstalled_22 ?_
      refine v_lconst (v := (1 : Int64)) C dX9_ifInstalled_23 (by decide) ?_
      refine v_ldc2 (v := (99 : Int64)) C (bsG_in 1887 (by decide +kernel) rfl) dX9_ifInstalled_24 ?_
      obtain ⟨r20, hc21, hf⟩ := bs_bind hf
      refine v_callSi (y := yX9_in) (As := [.long a3.toInt64, .long (1 : Int64), .long (99 : Int64)]) (rest := [.ref (ρ 14 0 0)]) C (cX9_in_ok  hc21) ml_X9_44 wzX9_in dpX9_in ⟨Nat.le_of_ble_eq_true rfl, Nat.le_of_ble_eq_true rfl⟩ ⟨rfl, rfl⟩ ⟨Nat.le_of_ble_eq_true rfl, Nat.le_of_ble_eq_true rfl⟩ rfl (Nat.le_of_ble_eq_true rfl) dX9_ifInstalled_27 ?_
      refine v_if_ne (tgt := 37) C dX9_ifInstalled_30 (by decide) (fun h22 => ?_) (fun h22 => ?_)
      · replace hf := bs_neg h22 hf
        refine v_iconst (v := 0) C dX9_ifInstalled_37 (by decide) ?_
        refine v_sub [0, 1, 2, 3] rfl ?_
        exact wX9_ifInstalled_38   C  _ _ _ _ _  hf
      · replace hf := bs_pos h22 hf
        refine v_sub [0, 1, 2, 3] rfl ?_
        exact wX9_ifInstalled_33   C  _ _ _ _  hf
/-! BootSlotsModel.ifBooted()I -/
def fX9_ifBooted (X : bsX) : Option (Int32 × bsX) := (fX9_notLoaded   X).bind fun r1 => if r1.1 = 0 then ((fX9_laysAside   r1.2).bind fun r3 => (fX9_boots  (1 : Int32) r3).bind fun r5 => if bsIn (7 : Int32) 160 then ((fX9_back  (r5.2 14 1 0 (bsIx (7 : Int32))) r5.2).bind fun r8 => some (r8.1, r8.2)) else none) else (some ((0 : Int32), r1.2))
abbrev rmX9_ifBooted : Room := { frames := 6, cells := 0, slots := 0, locals := 130 }
set_option maxHeartbeats 4000000 in
set_option maxRecDepth 100000 in
theorem cX9_ifBooted_ok {l : Launch} {ρ : bsR} {cA : Nat → ClassId} {dC : Nat → ClassId} {dI : Nat → Nat → Nat} {Rz : va_W}  {X : bsX} {z : (Int32 × bsX)} (hf : fX9_ifBooted  X = some z) : bsMi l yX9_ifBooted cX9_ifBooted 2 (some .int) rmX9_ifBooted ρ cA dC dI Rz [.ref (ρ 14 0 0)] X z := by
  refine bsMi_of (by decide) (Nat.le_of_ble_eq_true rfl) (fun p e s m args below meth c C => ?_)
  have C : bsCx p m c cX9_ifBooted 2 s args (Cond.code yX9_ifBooted cX9_ifBooted 2 (some .int) :: bsG) RX9 ρ cA dC dI Rz meth (some .int) := C
  rw [fX9_ifBooted] at hf
  refine v_sub [0] rfl ?_
  refine v_aload_n C dX9_ifBooted_0 rfl rfl ?_
  obtain ⟨r1, hc2, hf⟩ := bs_bind hf
  refine v_callVi (y := yX9_notLoaded) (As := []) (rest := []) C (cX9_notLoaded_ok  hc2) ml_X9_48 wyX9_notLoaded (bsm_X9) (bsc_X9) rfl dpX9_notLoaded ⟨Nat.le_of_ble_eq_true rfl, Nat.le_of_ble_eq_true rfl⟩ ⟨rfl, rfl⟩ ⟨Nat.le_of_ble_eq_true rfl, Nat.le_of_ble_eq_true rfl⟩ rfl (Nat.le_of_ble_eq_true rfl) dX9_ifBooted_1 ?_
  refine v_if_eq (tgt := 9) C dX9_ifBooted_4 (by decide) (fun h10 => ?_) (fun h10 => ?_)
  · replace hf := bs_pos h10 hf
    refine v_aload_n C dX9_ifBooted_9 rfl rfl ?_
    obtain ⟨r3, hc4, hf⟩ := bs_bind hf
    refine v_callVv (y := yX9_laysAside) (As := []) (rest := []) C (cX9_laysAside_ok  hc4) ml_X9_280 wyX9_laysAside (bsm_X9) (bsc_X9) rfl dpX9_laysAside ⟨Nat.le_of_ble_eq_true rfl, Nat.le_of_ble_eq_true rfl⟩ ⟨rfl, rfl⟩ ⟨Nat.le_of_ble_eq_true rfl, Nat.le_of_ble_eq_true rfl⟩ rfl (Nat.le_of_ble_eq_true rfl) dX9_ifBooted_10 ?_
    refine v_aload_n C dX9_ifBooted_13 rfl rfl ?_
    refine v_iconst (v := 1) C dX9_ifBooted_14 (by decide) ?_
    obtain ⟨r5, hc6, hf⟩ := bs_bind hf
    refine v_callVi (y := yX9_boots) (As := [.int (1 : Int32)]) (rest := []) C (cX9_boots_ok  hc6) ml_X9_92 wyX9_boots (bsm_X9) (bsc_X9) rfl dpX9_boots ⟨Nat.le_of_ble_eq_true rfl, Nat.le_of_ble_eq_true rfl⟩ ⟨rfl, rfl⟩ ⟨Nat.le_of_ble_eq_true rfl, Nat.le_of_ble_eq_true rfl⟩ rfl (Nat.le_of_ble_eq_true rfl) dX9_ifBooted_15 ?_
    refine v_istore_n (lv' := [(1, .int r5.1), (0, .ref (ρ 14 0 0))]) C dX9_ifBooted_18 rfl (by decide) rfl ?_
    refine v_aload_n C dX9_ifBooted_19 rfl rfl ?_
    refine v_aload_n C dX9_ifBooted_20 rfl rfl ?_
    refine gf_X9_7 C dX9_ifBooted_21 ?_
    refine v_bipush (v := 7) C dX9_ifBooted_24 (by decide) ?_
    obtain ⟨hi7, hf⟩ := bs_if hf
    refine v_iald (n := 160) C bsm_14_1 bsc_14_1 hi7 dX9_ifBooted_26 ?_
    obtain ⟨r8, hc9, hf⟩ := bs_bind hf
    refine v_callVi (y := yX9_back) (As := [.int (r5.2 14 1 0 (bsIx (7 : Int32)))]) (rest := []) C (cX9_back_ok  hc9) ml_X9_286 wyX9_back (bsm_X9) (bsc_X9) rfl dpX9_back ⟨Nat.le_of_ble_eq_true rfl, Nat.le_of_ble_eq_true rfl⟩ ⟨rfl, rfl⟩ ⟨Nat.le_of_ble_eq_true rfl, Nat.le_of_ble_eq_true rfl⟩ rfl (Nat.le_of_ble_eq_true rfl) dX9_ifBooted_27 ?_
    exact v_iret C hf dX9_ifBooted_30
  · replace hf := bs_neg h10 hf
    refine v_iconst (v := 0) C dX9_ifBooted_7 (by decide) ?_
    exact v_iret C hf dX9_ifBooted_8
/-! BootSlotsModel.givenUpIf()I -/
def fX9_givenUpIf (X : bsX) : Option (Int32 × bsX) := (fX9_notLoaded   X).bind fun r1 => if r1.1 = 0 then ((fX9_laysAside   r1.2).bind fun r3 => (fX9_boots  (1 : Int32) r3).bind fun r5 => (fX9_back  r5.1 r5.2).bind fun r7 => some (r7.1, r7.2)) else (some ((0 : Int32), r1.2))
abbrev rmX9_givenUpIf : Room := { frames := 6, cells := 0, slots := 0, locals := 130 }
set_option maxHeartbeats 4000000 in
set_option maxRecDepth 100000 in
theorem cX9_givenUpIf_ok {l : Launch} {ρ : bsR} {cA : Nat → ClassId} {dC : Nat → ClassId} {dI : Nat → Nat → Nat} {Rz : va_W}  {X : bsX} {z : (Int32 × bsX)} (hf : fX9_givenUpIf  X = some z) : bsMi l yX9_givenUpIf cX9_givenUpIf 1 (some .int) rmX9_givenUpIf ρ cA dC dI Rz [.ref (ρ 14 0 0)] X z := by
  refine bsMi_of (by decide) (Nat.le_of_ble_eq_true rfl) (fun p e s m args below meth c C => ?_)
  have C : bsCx p m c cX9_givenUpIf 1 s args (Cond.code yX9_givenUpIf cX9_givenUpIf 1 (some .int) :: bsG) RX9 ρ cA dC dI Rz meth (some .int) := C
  rw [fX9_givenUpIf] at hf
  refine v_sub [0] rfl ?_
  refine v_aload_n C dX9_givenUpIf_0 rfl rfl ?_
  obtain ⟨r1, hc2, hf⟩ := bs_bind hf
  refine v_callVi (y := yX9_notLoaded) (As := []) (rest := []) C (cX9_notLoaded_ok  hc2) ml_X9_48 wyX9_notLoaded (bsm_X9) (bsc_X9) rfl dpX9_notLoaded ⟨Nat.le_of_ble_eq_true rfl, Nat.le_of_ble_eq_true rfl⟩ ⟨rfl, rfl⟩ ⟨Nat.le_of_ble_eq_true rfl, Nat.le_of_ble_eq_true rfl⟩ rfl (Nat.le_of_ble_eq_true rfl) dX9_givenUpIf_1 ?_
  refine v_if_eq (tgt := 9) C dX9_givenUpIf_4 (by decide) (fun h9 => ?_) (fun h9 => ?_)
  · replace hf := bs_pos h9 hf
    refine v_aload_n C dX9_givenUpIf_9 rfl rfl ?_
    obtain ⟨r3, hc4, hf⟩ := bs_bind hf
    refine v_callVv (y := yX9_laysAside) (As := []) (rest := []) C (cX9_laysAside_ok  hc4) ml_X9_280 wyX9_laysAside (bsm_X9) (bsc_X9) rfl dpX9_laysAside ⟨Nat.le_of_ble_eq_true rfl, Nat.le_of_ble_eq_true rfl⟩ ⟨rfl, rfl⟩ ⟨Nat.le_of_ble_eq_true rfl, Nat.le_of_ble_eq_true rfl⟩ rfl (Nat.le_of_ble_eq_true rfl) dX9_givenUpIf_10 ?_
    refine v_aload_n C dX9_givenUpIf_13 rfl rfl ?_
    refine v_aload_n C dX9_givenUpIf_14 rfl rfl ?_
    refine v_iconst (v := 1) C dX9_givenUpIf_15 (by decide) ?_
    obtain ⟨r5, hc6, hf⟩ := bs_bind hf
    refine v_callVi (y := yX9_boots) (As := [.int (1 : Int32)]) (rest := [.ref (ρ 14 0 0)]) C (cX9_boots_ok  hc6) ml_X9_92 wyX9_boots (bsm_X9) (bsc_X9) rfl dpX9_boots ⟨Nat.le_of_ble_eq_true rfl, Nat.le_of_ble_eq_true rfl⟩ ⟨rfl, rfl⟩ ⟨Nat.le_of_ble_eq_true rfl, Nat.le_of_ble_eq_true rfl⟩ rfl (Nat.le_of_ble_eq_true rfl) dX9_givenUpIf_16 ?_
    obtain ⟨r7, hc8, hf⟩ := bs_bind hf
    refine v_callVi (y := yX9_back) (As := [.int r5.1]) (rest := []) C (cX9_back_ok  hc8) ml_X9_286 wyX9_back (bsm_X9) (bsc_X9) rfl dpX9_back ⟨Nat.le_of_ble_eq_true rfl, Nat.le_of_ble_eq_true rfl⟩ ⟨rfl, rfl⟩ ⟨Nat.le_of_ble_eq_true rfl, Nat.le_of_ble_eq_true rfl⟩ rfl (Nat.le_of_ble_eq_true rfl) dX9_givenUpIf_19 ?_
    exact v_iret C hf dX9_givenUpIf_22
  · replace hf := bs_neg h9 hf
    refine v_iconst (v := 0) C dX9_givenUpIf_7 (by decide) ?_
    exact v_iret C hf dX9_givenUpIf_8
