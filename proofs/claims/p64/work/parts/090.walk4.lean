theorem ml_X4_42 : Cond.methodLink RX4 42 yX3_copyFrom ∈ bsG := bsG_in 888 (by decide +kernel) rfl
theorem ml_X4_46 : Cond.methodLink RX4 46 yX4_readToken ∈ bsG := bsG_in 917 (by decide +kernel) rfl
theorem ml_X4_49 : Cond.methodLink RX4 49 yX4_readFirstLine ∈ bsG := bsG_in 928 (by decide +kernel) rfl
theorem ml_X4_55 : Cond.methodLink RX4 55 yX4_readLine ∈ bsG := bsG_in 951 (by decide +kernel) rfl
theorem ml_X4_61 : Cond.methodLink RX4 61 yX4_fail ∈ bsG := bsG_in 939 (by decide +kernel) rfl
theorem ml_X4_67 : Cond.methodLink RX4 67 yX4_isWord ∈ bsG := bsG_in 933 (by decide +kernel) rfl
theorem ml_X4_71 : Cond.methodLink RX4 71 yX4_takeNumber ∈ bsG := bsG_in 943 (by decide +kernel) rfl
theorem ml_X4_89 : Cond.methodLink RX4 89 yX4_readSlotLine ∈ bsG := bsG_in 956 (by decide +kernel) rfl
theorem ml_X4_94 : Cond.methodLink RX4 94 yX4_readImageLine ∈ bsG := bsG_in 961 (by decide +kernel) rfl
theorem ml_X4_99 : Cond.methodLink RX4 99 yX4_readMarkLine ∈ bsG := bsG_in 977 (by decide +kernel) rfl
theorem ml_X4_102 : Cond.methodLink RX4 102 yX4_numberWithin ∈ bsG := bsG_in 947 (by decide +kernel) rfl
theorem ml_X4_120 : Cond.methodLink RX4 120 yX1_set ∈ bsG := bsG_in 965 (by decide +kernel) rfl
theorem ml_X4_126 : Cond.methodLink RX4 126 yX4_takeIfWord ∈ bsG := bsG_in 970 (by decide +kernel) rfl
theorem ml_X4_135 : Cond.methodLink RX4 135 yX5_setMark ∈ bsG := bsG_in 975 (by decide +kernel) rfl
theorem ml_X4_144 : Cond.methodLink RX4 144 yX4_byteAt ∈ bsG := bsG_in 921 (by decide +kernel) rfl
theorem ml_X4_148 : Cond.methodLink RX4 148 yJ0_length_8abf5 ∈ bsG := bsG_in 937 (by decide +kernel) rfl
theorem ml_X4_154 : Cond.methodLink RX4 154 yJ0_charAt_5068e ∈ bsG := bsG_in 938 (by decide +kernel) rfl
theorem ml_X4_158 : Cond.methodLink RX4 158 yX4_kindOf ∈ bsG := bsG_in 925 (by decide +kernel) rfl
theorem ml_X7_19 : Cond.methodLink RX7 19 yJ0_length_8abf5 ∈ bsG := bsG_in 1593 (by decide +kernel) rfl
theorem ml_X7_24 : Cond.methodLink RX7 24 yJ0_charAt_5068e ∈ bsG := bsG_in 1594 (by decide +kernel) rfl
theorem ml_X7_28 : Cond.methodLink RX7 28 yX7_put ∈ bsG := bsG_in 1499 (by decide +kernel) rfl
theorem ml_X7_32 : Cond.methodLink RX7 32 yX7_putNumber ∈ bsG := bsG_in 1599 (by decide +kernel) rfl
theorem dpX3_copyFrom : (parseMethodDescriptor yX3_copyFrom.desc).map (fun d => d.parameters.length) = some 1 := by decide +kernel
theorem wyX3_copyFrom : bsWy yX3_copyFrom cX3_copyFrom 3 none := ⟨bsG_in 889 (by decide +kernel) rfl, bsG_in 890 (by decide +kernel) rfl, bsG_in 54 (by decide +kernel) rfl, bsG_in 891 (by decide +kernel) rfl, by decide +kernel, by decide +kernel⟩
theorem dpX4_byteAt : (parseMethodDescriptor yX4_byteAt.desc).map (fun d => d.parameters.length) = some 1 := by decide +kernel
theorem wyX4_byteAt : bsWy yX4_byteAt cX4_byteAt 2 (some .int) := ⟨bsG_in 923 (by decide +kernel) rfl, bsG_in 2 (by decide +kernel) rfl, bsG_in 53 (by decide +kernel) rfl, bsG_in 924 (by decide +kernel) rfl, by decide +kernel, by decide +kernel⟩
theorem dpX4_fail : (parseMethodDescriptor yX4_fail.desc).map (fun d => d.parameters.length) = some 1 := by decide +kernel
theorem wyX4_fail : bsWy yX4_fail cX4_fail 2 none := ⟨bsG_in 941 (by decide +kernel) rfl, bsG_in 5 (by decide +kernel) rfl, bsG_in 53 (by decide +kernel) rfl, bsG_in 942 (by decide +kernel) rfl, by decide +kernel, by decide +kernel⟩
theorem dpX4_isWord : (parseMethodDescriptor yX4_isWord.desc).map (fun d => d.parameters.length) = some 1 := by decide +kernel
theorem wyX4_isWord : bsWy yX4_isWord cX4_isWord 3 (some .boolean) := ⟨bsG_in 935 (by decide +kernel) rfl, bsG_in 4 (by decide +kernel) rfl, bsG_in 53 (by decide +kernel) rfl, bsG_in 936 (by decide +kernel) rfl, by decide +kernel, by decide +kernel⟩
theorem dpX4_kindOf : (parseMethodDescriptor yX4_kindOf.desc).map (fun d => d.parameters.length) = some 1 := by decide +kernel
theorem wzX4_kindOf : bsWz yX4_kindOf cX4_kindOf 1 (some .int) := ⟨bsG_in 926 (by decide +kernel) rfl, bsG_in 53 (by decide +kernel) rfl, bsG_in 927 (by decide +kernel) rfl, by decide +kernel, by decide +kernel⟩
theorem dpX4_numberWithin : (parseMethodDescriptor yX4_numberWithin.desc).map (fun d => d.parameters.length) = some 2 := by decide +kernel
theorem wyX4_numberWithin : bsWy yX4_numberWithin cX4_numberWithin 5 (some .int) := ⟨bsG_in 949 (by decide +kernel) rfl, bsG_in 7 (by decide +kernel) rfl, bsG_in 53 (by decide +kernel) rfl, bsG_in 950 (by decide +kernel) rfl, by decide +kernel, by decide +kernel⟩
theorem dpX4_readFirstLine : (parseMethodDescriptor yX4_readFirstLine.desc).map (fun d => d.parameters.length) = some 1 := by decide +kernel
theorem wyX4_readFirstLine : bsWy yX4_readFirstLine cX4_readFirstLine 2 none := ⟨bsG_in 930 (by decide +kernel) rfl, bsG_in 3 (by decide +kernel) rfl, bsG_in 53 (by decide +kernel) rfl, bsG_in 931 (by decide +kernel) rfl, by decide +kernel, by decide +kernel⟩
theorem dpX4_readImageLine : (parseMethodDescriptor yX4_readImageLine.desc).map (fun d => d.parameters.length) = some 1 := by decide +kernel
theorem wyX4_readImageLine : bsWy yX4_readImageLine cX4_readImageLine 7 none := ⟨bsG_in 963 (by decide +kernel) rfl, bsG_in 10 (by decide +kernel) rfl, bsG_in 53 (by decide +kernel) rfl, bsG_in 964 (by decide +kernel) rfl, by decide +kernel, by decide +kernel⟩
theorem dpX4_readLine : (parseMethodDescriptor yX4_readLine.desc).map (fun d => d.parameters.length) = some 1 := by decide +kernel
theorem wyX4_readLine : bsWy yX4_readLine cX4_readLine 2 none := ⟨bsG_in 953 (by decide +kernel) rfl, bsG_in 8 (by decide +kernel) rfl, bsG_in 53 (by decide +kernel) rfl, bsG_in 954 (by decide +kernel) rfl, by decide +kernel, by decide +kernel⟩
theorem dpX4_readMarkLine : (parseMethodDescriptor yX4_readMarkLine.desc).map (fun d => d.parameters.length) = some 1 := by decide +kernel
theorem wyX4_readMarkLine : bsWy yX4_readMarkLine cX4_readMarkLine 6 none := ⟨bsG_in 979 (by decide +kernel) rfl, bsG_in 12 (by decide +kernel) rfl, bsG_in 53 (by decide +kernel) rfl, bsG_in 980 (by decide +kernel) rfl, by decide +kernel, by decide +kernel⟩
theorem dpX4_readSlotLine : (parseMethodDescriptor yX4_readSlotLine.desc).map (fun d => d.parameters.length) = some 1 := by decide +kernel
theorem wyX4_readSlotLine : bsWy yX4_readSlotLine cX4_readSlotLine 2 none := ⟨bsG_in 958 (by decide +kernel) rfl, bsG_in 9 (by decide +kernel) rfl, bsG_in 53 (by decide +kernel) rfl, bsG_in 959 (by decide +kernel) rfl, by decide +kernel, by decide +kernel⟩
theorem dpX4_readToken : (parseMethodDescriptor yX4_readToken.desc).map (fun d => d.parameters.length) = some 0 := by decide +kernel
theorem wyX4_readToken : bsWy yX4_readToken cX4_readToken 3 none := ⟨bsG_in 919 (by decide +kernel) rfl, bsG_in 1 (by decide +kernel) rfl, bsG_in 53 (by decide +kernel) rfl, bsG_in 920 (by decide +kernel) rfl, by decide +kernel, by decide +kernel⟩
theorem dpX4_takeIfWord : (parseMethodDescriptor yX4_takeIfWord.desc).map (fun d => d.parameters.length) = some 1 := by decide +kernel
theorem wyX4_takeIfWord : bsWy yX4_takeIfWord cX4_takeIfWord 3 (some .boolean) := ⟨bsG_in 972 (by decide +kernel) rfl, bsG_in 11 (by decide +kernel) rfl, bsG_in 53 (by decide +kernel) rfl, bsG_in 973 (by decide +kernel) rfl, by decide +kernel, by decide +kernel⟩
theorem dpX4_takeNumber : (parseMethodDescriptor yX4_takeNumber.desc).map (fun d => d.parameters.length) = some 2 := by decide +kernel
theorem wyX4_takeNumber : bsWy yX4_takeNumber cX4_takeNumber 4 (some .int) := ⟨bsG_in 945 (by decide +kernel) rfl, bsG_in 6 (by decide +kernel) rfl, bsG_in 53 (by decide +kernel) rfl, bsG_in 946 (by decide +kernel) rfl, by decide +kernel, by decide +kernel⟩
theorem dpX7_put : (parseMethodDescriptor yX7_put.desc).map (fun d => d.parameters.length) = some 1 := by decide +kernel
theorem wyX7_put : bsWy yX7_put cX7_put 2 none := ⟨bsG_in 1488 (by decide +kernel) rfl, bsG_in 1489 (by decide +kernel) rfl, bsG_in 60 (by decide +kernel) rfl, bsG_in 1490 (by decide +kernel) rfl, by decide +kernel, by decide +kernel⟩
theorem dpX7_putNumber : (parseMethodDescriptor yX7_putNumber.desc).map (fun d => d.parameters.length) = some 1 := by decide +kernel
theorem wyX7_putNumber : bsWy yX7_putNumber cX7_putNumber 3 none := ⟨bsG_in 1496 (by decide +kernel) rfl, bsG_in 1497 (by decide +kernel) rfl, bsG_in 60 (by decide +kernel) rfl, bsG_in 1498 (by decide +kernel) rfl, by decide +kernel, by decide +kernel⟩
/-! BootSlots$Text.clear()V -/
def fX7_clear (X : bsX) : Option bsX := some (bsWr X 13 2 0 1 (0 : Int32))
abbrev rmX7_clear : Room := { frames := 0, cells := 0, slots := 0, locals := 0 }
set_option maxHeartbeats 4000000 in
set_option maxRecDepth 100000 in
theorem cX7_clear_ok {l : Launch} {ρ : bsR} {cA : Nat → ClassId} {dC : Nat → ClassId} {dI : Nat → Nat → Nat} {Rz : va_W}  {X : bsX} {z : bsX} (hf : fX7_clear  X = some z) : bsMv l yX7_clear cX7_clear 1 none rmX7_clear ρ cA dC dI Rz [.ref (ρ 13 2 0)] X z := by
  refine bsMv_of (by decide) (Nat.le_of_ble_eq_true rfl) (fun p e s m args below meth c C => ?_)
  have C : bsCx p m c cX7_clear 1 s args (Cond.code yX7_clear cX7_clear 1 none :: bsG) RX7 ρ cA dC dI Rz meth none := C
  rw [fX7_clear] at hf
  refine v_sub [0] rfl ?_
  refine v_aload_n C dX7_clear_0 rfl rfl ?_
  refine v_iconst (v := 0) C dX7_clear_1 (by decide) ?_
  refine pf_X7_15 C dX7_clear_2 ?_
  exact v_vret C hf dX7_clear_5
/-! BootSlots$Text.put(C)V -/
def fX7_put (a1 : Int32) (X : bsX) : Option bsX := if (X 13 2 0 1) < 0 then (some X) else (if (600 : Int32) ≤ (X 13 2 0 1) then (some X) else (if bsIn (X 13 2 0 1) 600 then (some (bsWr (bsWr X 13 8 0 (bsIx (X 13 2 0 1)) (vp_nar .byte a1.toInt8.toInt32)) 13 2 0 1 (((bsWr X 13 8 0 (bsIx (X 13 2 0 1)) (vp_nar .byte a1.toInt8.toInt32)) 13 2 0 1) + (1 : Int32)))) else none))
abbrev rmX7_put : Room := { frames := 0, cells := 0, slots := 0, locals := 0 }
set_option maxHeartbeats 4000000 in
set_option maxRecDepth 100000 in
theorem cX7_put_ok {l : Launch} {ρ : bsR} {cA : Nat → ClassId} {dC : Nat → ClassId} {dI : Nat → Nat → Nat} {Rz : va_W}  {a1 : Int32} {X : bsX} {z : bsX} (hf : fX7_put a1 X = some z) : bsMv l yX7_put cX7_put 2 none rmX7_put ρ cA dC dI Rz [.ref (ρ 13 2 0), .int a1] X z := by
  refine bsMv_of (by decide) (Nat.le_of_ble_eq_true rfl) (fun p e s m args below meth c C => ?_)
  have C : bsCx p m c cX7_put 2 s args (Cond.code yX7_put cX7_put 2 none :: bsG) RX7 ρ cA dC dI Rz meth none := C
  rw [fX7_put] at hf
  refine v_sub [0, 1] rfl ?_
  refine v_aload_n C dX7_put_0 rfl rfl ?_
  refine gf_X7_15 C dX7_put_1 ?_
  refine v_if_lt (tgt := 38) C dX7_put_4 (by decide) (fun h3 => ?_) (fun h3 => ?_)
  · replace hf := bs_pos h3 hf
    exact v_vret C hf dX7_put_38
  · replace hf := bs_neg h3 hf
    refine v_aload_n C dX7_put_7 rfl rfl ?_
    refine gf_X7_15 C dX7_put_8 ?_
    refine v_sipush (v := 600) C dX7_put_11 (by decide) ?_
    refine v_icmp_ge (tgt := 38) C dX7_put_14 (by decide) (fun h2 => ?_) (fun h2 => ?_)
    · replace hf := bs_pos h2 hf
      exact v_vret C hf dX7_put_38
    · replace hf := bs_neg h2 hf
      refine v_aload_n C dX7_put_17 rfl rfl ?_
      refine gf_X7_9 C dX7_put_18 ?_
      refine v_aload_n C dX7_put_21 rfl rfl ?_
      refine gf_X7_15 C dX7_put_22 ?_
      refine v_iload_n C dX7_put_25 rfl rfl ?_
      refine v_i2b C dX7_put_26 ?_
      obtain ⟨hi1, hf⟩ := bs_if hf
      refine v_bast (n := 600) C bsm_13_8 (fun _ => bsc_13_8) hi1 dX7_put_27 ?_
      refine v_aload_n C dX7_put_28 rfl rfl ?_
      refine v_dup C dX7_put_29 rfl ?_
      refine gf_X7_15 C dX7_put_30 ?_
      refine v_iconst (v := 1) C dX7_put_33 (by decide) ?_
      refine v_iadd C dX7_put_34 ?_
      refine pf_X7_15 C dX7_put_35 ?_
      exact v_vret C hf dX7_put_38
/-! BootSlots$Text.putWord(Ljava/lang/String;)V -/
def fX7_putWord_2 (t1 : Nat) : Nat → Int32 → bsX → Option bsX
  | 0, _, _ => none
  | n + 1, x2, X => if (bsLen t1) ≤ x2 then (some X) else (if bsIn x2 (bsSl.getD t1 0) then ((fX7_put  (bsChr t1 (bsIx x2)) X).bind fun r2 => fX7_putWord_2 t1 n (x2 + (1 : Int32)) r2) else none)
def fX7_putWord (t1 : Nat) (X : bsX) : Option bsX := fX7_putWord_2 t1  bsF (0 : Int32) X
abbrev rmX7_putWord : Room := { frames := 4, cells := 0, slots := 0, locals := 85 }
set_option maxHeartbeats 4000000 in
set_option maxRecDepth 100000 in
theorem wX7_putWord_2 {p : Program} {l : Launch} {e : Env} {s : State} {m : MethodId} {args : Array Value} {below : List Frame} {meth : Method} {c : Code} {ρ : bsR} {cA : Nat → ClassId} {dC : Nat → ClassId} {dI : Nat → Nat → Nat} {Rz : va_W} {Ts : List Cond} {t1 : Nat} (ht1 : t1 < 22)  {z : bsX} (C : bsCx p m c cX7_putWord 3 s args Ts RX7 ρ cA dC dI Rz meth none) : ∀ (n : Nat) (x2 : Int32) (X : bsX), fX7_putWord_2 t1 n x2 X = some z → bsV p l e rmX7_putWord s m args below meth c 0 0 (MQ below (bsQv ρ cA dC dI Rz z s.heap.size) args s 0 0 (bsA ρ cA Rz s.heap.size)) ρ cA dC dI Rz 3 2 [(0, .ref (ρ 13 2 0)), (1, .ref (ρ 16 0 t1)), (2, .int x2)] [] X := by
  intro n
  induction n with
  | zero => intro x2 X hf; exact (nomatch hf)
  | succ n ih =>
    intro x2 X hf
    rw [fX7_putWord_2] at hf
    refine v_iload_n C dX7_putWord_2 rfl rfl ?_
    refine v_aload_n C dX7_putWord_3 rfl rfl ?_
    refine v_callTi (y := yJ0_length_8abf5) (As := []) (rest := [.int x2]) C ht1 rfl (cJ0_length_8abf5_ok ht1) ml_X7_19 wyJ0_length_8abf5 dpJ0_length_8abf5 ⟨Nat.le_of_ble_eq_true rfl, Nat.le_of_ble_eq_true rfl⟩ ⟨rfl, rfl⟩ ⟨Nat.zero_le _, Nat.zero_le _⟩ rfl (Nat.le_of_ble_eq_true rfl) dX7_putWord_4 ?_
    refine v_icmp_ge (tgt := 25) C dX7_putWord_7 (by decide) (fun h4 => ?_) (fun h4 => ?_)
    · replace hf := bs_pos h4 hf
      exact v_vret C hf dX7_putWord_25
    · replace hf := bs_neg h4 hf
      refine v_aload_n C dX7_putWord_10 rfl rfl ?_
      refine v_aload_n C dX7_putWord_11 rfl rfl ?_
      refine v_iload_n C dX7_putWord_12 rfl rfl ?_
      obtain ⟨hi1, hf⟩ := bs_if hf
      refine v_callTi (y := yJ0_charAt_5068e) (As := [.int x2]) (rest := [.ref (ρ 13 2 0)]) C ht1 rfl (cJ0_charAt_5068e_ok ht1 hi1) ml_X7_24 wyJ0_charAt_5068e dpJ0_charAt_5068e ⟨Nat.le_of_ble_eq_true rfl, Nat.le_of_ble_eq_true rfl⟩ ⟨rfl, rfl⟩ ⟨Nat.zero_le _, Nat.zero_le _⟩ rfl (Nat.le_of_ble_eq_true rfl) dX7_putWord_13 ?_
      obtain ⟨r2, hc3, hf⟩ := bs_bind hf
      refine v_callVv (y := yX7_put) (As := [.int (bsChr t1 (bsIx x2))]) (rest := []) C (cX7_put_ok  hc3) ml_X7_28 wyX7_put (bsm_X7) (bsc_X7) rfl dpX7_put ⟨Nat.le_of_ble_eq_true rfl, Nat.le_of_ble_eq_true rfl⟩ ⟨rfl, rfl⟩ ⟨Nat.le_of_ble_eq_true rfl, Nat.le_of_ble_eq_true rfl⟩ rfl (Nat.le_of_ble_eq_true rfl) dX7_putWord_16 ?_
      refine v_iinc (k0 := 2) (v := (x2 + (1 : Int32))) (lv' := [(2, .int (x2 + (1 : Int32))), (0, .ref (ρ 13 2 0)), (1, .ref (ρ 16 0 t1))]) C dX7_putWord_19 rfl rfl (by decide) rfl ?_
      refine v_goto (tgt := 2) C dX7_putWord_22 (by decide) ?_
      refine v_sub [1, 2, 0] rfl ?_
      exact ih _ _  hf
set_option maxHeartbeats 4000000 in
set_option maxRecDepth 100000 in
theorem cX7_putWord_ok {l : Launch} {ρ : bsR} {cA : Nat → ClassId} {dC : Nat → ClassId} {dI : Nat → Nat → Nat} {Rz : va_W} {t1 : Nat} (ht1 : t1 < 22) {X : bsX} {z : bsX} (hf : fX7_putWord t1 X = some z) : bsMv l yX7_putWord cX7_putWord 3 none rmX7_putWord ρ cA dC dI Rz [.ref (ρ 13 2 0), .ref (ρ 16 0 t1)] X z := by
  refine bsMv_of (by decide) (Nat.le_of_ble_eq_true rfl) (fun p e s m args below meth c C => ?_)
  have C : bsCx p m c cX7_putWord 3 s args (Cond.code yX7_putWord cX7_putWord 3 none :: bsG) RX7 ρ cA dC dI Rz meth none := C
  rw [fX7_putWord] at hf
  refine v_sub [0, 1] rfl ?_
  refine v_iconst (v := 0) C dX7_putWord_0 (by decide) ?_
  refine v_istore_n (lv' := [(2, .int (0 : Int32)), (0, .ref (ρ 13 2 0)), (1, .ref (ρ 16 0 t1))]) C dX7_putWord_1 rfl (by decide) rfl ?_
  refine v_sub [1, 2, 0] rfl ?_
  exact wX7_putWord_2 ht1  C  bsF _ _  hf
/-! BootSlots$Text.putNumber(I)V -/
def fX7_putNumber_32 (k4 : Int32 → Int32 → bsX → Option bsX) (x1 : Int32) (x2 : Int32) (X : bsX) : Option bsX := k4 x1 (x2 / (10 : Int32)) X
def fX7_putNumber_18 (k4 : Int32 → Int32 → bsX → Option bsX) (x1 : Int32) (x2 : Int32) (X : bsX) : Option bsX := if ¬ x2 = 0 then ((fX7_put  ((((48 : Int32) + ((x1 / x2) - (x1 / x2) / (10 : Int32) * (10 : Int32))).toUInt32 % 65536).toInt32) X).bind fun r2 => fX7_putNumber_32  k4 x1 x2 r2) else none
def fX7_putNumber_4 : Nat → Int32 → Int32 → bsX → Option bsX
  | 0, _, _, _ => none
  | n + 1, x1, x2, X => if x2 ≤ 0 then (some X) else (if x2 ≤ x1 then (fX7_putNumber_18  (fX7_putNumber_4  n) x1 x2 X) else (if x2 = (1 : Int32) then (fX7_putNumber_18  (fX7_putNumber_4  n) x1 x2 X) else (fX7_putNumber_32  (fX7_putNumber_4  n) x1 x2 X)))
def fX7_putNumber (a1 : Int32) (X : bsX) : Option bsX := fX7_putNumber_4   bsF a1 (1000 : Int32) X
abbrev rmX7_putNumber : Room := { frames := 1, cells := 0, slots := 0, locals := 21 }
set_option maxHeartbeats 4000000 in
set_option maxRecDepth 100000 in
theorem wX7_putNumber_32 {p : Program} {l : Launch} {e : Env} {s : State} {m : MethodId} {args : Array Value} {below : List Frame} {meth : Method} {c : Code} {ρ : bsR} {cA : Nat → ClassId} {dC : Nat → ClassId} {dI : Nat → Nat → Nat} {Rz : va_W} {Ts : List Cond}  (k4 : Int32 → Int32 → bsX → Option bsX)  {z : bsX} (C : bsCx p m c cX7_putNumber 3 s args Ts RX7 ρ cA dC dI Rz meth none) (hk4 : ∀ (x1 : Int32) (x2 : Int32) (X : bsX), k4 x1 x2 X = some z → bsV p l e rmX7_putNumber s m args below meth c 0 0 (MQ below (bsQv ρ cA dC dI Rz z s.heap.size) args s 0 0 (bsA ρ cA Rz s.heap.size)) ρ cA dC dI Rz 3 4 [(0, .ref (ρ 13 2 0)), (1, .int x1), (2, .int x2)] [] X)  (x1 : Int32) (x2 : Int32) (X : bsX) (hf : fX7_putNumber_32 k4 x1 x2 X = some z) : bsV p l e rmX7_putNumber s m args below meth c 0 0 (MQ below (bsQv ρ cA dC dI Rz z s.heap.size) args s 0 0 (bsA ρ cA Rz s.heap.size)) ρ cA dC dI Rz 3 32 [(0, .ref (ρ 13 2 0)), (1, .int x1), (2, .int x2)] [] X := by
  rw [fX7_putNumber_32] at hf
  refine v_iload_n C dX7_putNumber_32 rfl rfl ?_
  refine v_bipush (v := 10) C dX7_putNumber_33 (by decide) ?_
  refine v_idiv C dX7_putNumber_35 (by decide) ?_
  refine v_istore_n (lv' := [(2, .int (x2 / (10 : Int32))), (0, .ref (ρ 13 2 0)), (1, .int x1)]) C dX7_putNumber_36 rfl (by decide) rfl ?_
  refine v_goto (tgt := 4) C dX7_putNumber_37 (by decide) ?_
  refine v_sub [1, 2, 0] rfl ?_
  exact hk4 _ _ _  hf
set_option maxHeartbeats 4000000 in
set_option maxRecDepth 100000 in
theorem wX7_putNumber_18 {p : Program} {l : Launch} {e : Env} {s : State} {m : MethodId} {args : Array Value} {below : List Frame} {meth : Method} {c : Code} {ρ : bsR} {cA : Nat → ClassId} {dC : Nat → ClassId} {dI : Nat → Nat → Nat} {Rz : va_W} {Ts : List Cond}  (k4 : Int32 → Int32 → bsX → Option bsX)  {z : bsX} (C : bsCx p m c cX7_putNumber 3 s args Ts RX7 ρ cA dC dI Rz meth none) (hk4 : ∀ (x1 : Int32) (x2 : Int32) (X : bsX), k4 x1 x2 X = some z → bsV p l e rmX7_putNumber s m args below meth c 0 0 (MQ below (bsQv ρ cA dC dI Rz z s.heap.size) args s 0 0 (bsA ρ cA Rz s.heap.size)) ρ cA dC dI Rz 3 4 [(0, .ref (ρ 13 2 0)), (1, .int x1), (2, .int x2)] [] X)  (x1 : Int32) (x2 : Int32) (X : bsX) (hf : fX7_putNumber_18 k4 x1 x2 X = some z) : bsV p l e rmX7_putNumber s m args below meth c 0 0 (MQ below (bsQv ρ cA dC dI Rz z s.heap.size) args s 0 0 (bsA ρ cA Rz s.heap.size)) ρ cA dC dI Rz 3 18 [(0, .ref (ρ 13 2 0)), (1, .int x1), (2, .int x2)] [] X := by
  rw [fX7_putNumber_18] at hf
  refine v_aload_n C dX7_putNumber_18 rfl rfl ?_
  refine v_bipush (v := 48) C dX7_putNumber_19 (by decide) ?_
  refine v_iload_n C dX7_putNumber_21 rfl rfl ?_
  refine v_iload_n C dX7_putNumber_22 rfl rfl ?_
  obtain ⟨hd1, hf⟩ := bs_if hf
  refine v_idiv C dX7_putNumber_23 hd1 ?_
  refine v_bipush (v := 10) C dX7_putNumber_24 (by decide) ?_
  refine v_irem C dX7_putNumber_26 (by decide) ?_
  refine v_iadd C dX7_putNumber_27 ?_
  refine v_i2c C dX7_putNumber_28 ?_
  obtain ⟨r2, hc3, hf⟩ := bs_bind hf
  refine v_callVv (y := yX7_put) (As := [.int (((48 : Int32) + ((x1 / x2) - (x1 / x2) / (10 : Int32) * (10 : Int32))).toUInt32 % 65536).toInt32]) (rest := []) C (cX7_put_ok  hc3) ml_X7_28 wyX7_put (bsm_X7) (bsc_X7) rfl dpX7_put ⟨Nat.le_of_ble_eq_true rfl, Nat.le_of_ble_eq_true rfl⟩ ⟨rfl, rfl⟩ ⟨Nat.le_of_ble_eq_true rfl, Nat.le_of_ble_eq_true rfl⟩ rfl (Nat.le_of_ble_eq_true rfl) dX7_putNumber_29 ?_
  refine v_sub [0, 1, 2] rfl ?_
  exact wX7_putNumber_32  k4 C hk4 _ _ _  hf
set_option maxHeartbeats 4000000 in
set_option maxRecDepth 100000 in
theorem wX7_putNumber_4 {p : Program} {l : Launch} {e : Env} {s : State} {m : MethodId} {args : Array Value} {below : List Frame} {meth : Method} {c : Code} {ρ : bsR} {cA : Nat → ClassId} {dC : Nat → ClassId} {dI : Nat → Nat → Nat} {Rz : va_W} {Ts : List Cond}   {z : bsX} (C : bsCx p m c cX7_putNumber 3 s args Ts RX7 ρ cA dC dI Rz meth none) : ∀ (n : Nat) (x1 : Int32) (x2 : Int32) (X : bsX), fX7_putNumber_4  n x1 x2 X = some z → bsV p l e rmX7_putNumber s m args below meth c 0 0 (MQ below (bsQv ρ cA dC dI Rz z s.heap.size) args s 0 0 (bsA ρ cA Rz s.heap.size)) ρ cA dC dI Rz 3 4 [(0, .ref (ρ 13 2 0)), (1, .int x1), (2, .int x2)] [] X := by
  intro n
  induction n with
  | zero => intro x1 x2 X hf; exact (nomatch hf)
  | succ n ih =>
    intro x1 x2 X hf
    rw [fX7_putNumber_4] at hf
    refine v_iload_n C dX7_putNumber_4 rfl rfl ?_
    refine v_if_le (tgt := 40) C dX7_putNumber_5 (by decide) (fun h6 => ?_) (fun h6 => ?_)
    · replace hf := bs_pos h6 hf
      exact v_vret C hf dX7_putNumber_40
    · replace hf := bs_neg h6 hf
      refine v_iload_n C dX7_putNumber_8 rfl rfl ?_
      refine v_iload_n C dX7_putNumber_9 rfl rfl ?_
      refine v_icmp_ge (tgt := 18) C dX7_putNumber_10 (by decide) (fun h5 => ?_) (fun h5 => ?_)
      · replace hf := bs_pos h5 hf
        refine v_sub [0, 1, 2] rfl ?_
        exact wX7_putNumber_18  (fX7_putNumber_4  n) C (fun b0 b1 X  h => ih b0 b1 X  h) _ _ _  hf
      · replace hf := bs_neg h5 hf
        refine v_iload_n C dX7_putNumber_13 rfl rfl ?_
        refine v_iconst (v := 1) C dX7_putNumber_14 (by decide) ?_
        refine v_icmp_ne (tgt := 32) C dX7_putNumber_15 (by decide) (fun h4 => ?_) (fun h4 => ?_)
        · replace hf := bs_neg h4 hf
          refine v_sub [0, 1, 2] rfl ?_
          exact wX7_putNumber_32  (fX7_putNumber_4  n) C (fun b0 b1 X  h => ih b0 b1 X  h) _ _ _  hf
        · replace hf := bs_pos h4 hf
          refine v_sub [0, 1, 2] rfl ?_
          exact wX7_putNumber_18  (fX7_putNumber_4  n) C (fun b0 b1 X  h => ih b0 b1 X  h) _ _ _  hf
set_option maxHeartbeats 4000000 in
set_option maxRecDepth 100000 in
theorem cX7_putNumber_ok {l : Launch} {ρ : bsR} {cA : Nat → ClassId} {dC : Nat → ClassId} {dI : Nat → Nat → Nat} {Rz : va_W}  {a1 : Int32} {X : bsX} {z : bsX} (hf : fX7_putNumber a1 X = some z) : bsMv l yX7_putNumber cX7_putNumber 3 none rmX7_putNumber ρ cA dC dI Rz [.ref (ρ 13 2 0), .int a1] X z := by
  refine bsMv_of (by decide) (Nat.le_of_ble_eq_true rfl) (fun p e s m args below meth c C => ?_)
  have C : bsCx p m c cX7_putNumber 3 s args (Cond.code yX7_putNumber cX7_putNumber 3 none :: bsG) RX7 ρ cA dC dI Rz meth none := C
  rw [fX7_putNumber] at hf
  refine v_sub [0, 1] rfl ?_
  refine v_sipush (v := 1000) C dX7_putNumber_0 (by decide) ?_
  refine v_istore_n (lv' := [(2, .int (1000 : Int32)), (0, .ref (ρ 13 2 0)), (1, .int a1)]) C dX7_putNumber_3 rfl (by decide) rfl ?_
  refine v_sub [1, 2, 0] rfl ?_
  exact wX7_putNumber_4   C  bsF _ _ _  hf
/-! BootSlots$Text.putBlankAndNumber(I)V -/
def fX7_putBlankAndNumber (a1 : Int32) (X : bsX) : Option bsX := (fX7_put  (32 : Int32) X).bind fun r1 => (fX7_putNumber  a1 r1).bind fun r3 => some r3
abbrev rmX7_putBlankAndNumber : Room := { frames := 2, cells := 0, slots := 0, locals := 43 }
set_option maxHeartbeats 4000000 in
set_option maxRecDepth 100000 in
theorem cX7_putBlankAndNumber_ok {l : Launch} {ρ : bsR} {cA : Nat → ClassId} {dC : Nat → ClassId} {dI : Nat → Nat → Nat} {Rz : va_W}  {a1 : Int32} {X : bsX} {z : bsX} (hf : fX7_putBlankAndNumber a1 X = some z) : bsMv l yX7_putBlankAndNumber cX7_putBlankAndNumber 2 none rmX7_putBlankAndNumber ρ cA dC dI Rz [.ref (ρ 13 2 0), .int a1] X z := by
  refine bsMv_of (by decide) (Nat.le_of_ble_eq_true rfl) (fun p e s m args below meth c C => ?_)
  have C : bsCx p m c cX7_putBlankAndNumber 2 s args (Cond.code yX7_putBlankAndNumber cX7_putBlankAndNumber 2 none :: bsG) RX7 ρ cA dC dI Rz meth none := C
  rw [fX7_putBlankAndNumber] at hf
  refine v_sub [0, 1] rfl ?_
  refine v_aload_n C dX7_putBlankAndNumber_0 rfl rfl ?_
  refine v_bipush (v := 32) C dX7_putBlankAndNumber_1 (by decide) ?_
  obtain ⟨r1, hc2, hf⟩ := bs_bind hf
  refine v_callVv (y := yX7_put) (As := [.int (32 : Int32)]) (rest := []) C (cX7_put_ok  hc2) ml_X7_28 wyX7_put (bsm_X7) (bsc_X7) rfl dpX7_put ⟨Nat.le_of_ble_eq_true rfl, Nat.le_of_ble_eq_true rfl⟩ ⟨rfl, rfl⟩ ⟨Nat.le_of_ble_eq_true rfl, Nat.le_of_ble_eq_true rfl⟩ rfl (Nat.le_of_ble_eq_true rfl) dX7_putBlankAndNumber_3 ?_
  refine v_aload_n C dX7_putBlankAndNumber_6 rfl rfl ?_
  refine v_iload_n C dX7_putBlankAndNumber_7 rfl rfl ?_
  obtain ⟨r3, hc4, hf⟩ := bs_bind hf
  refine v_callVv (y := yX7_putNumber) (As := [.int a1]) (rest := []) C (cX7_putNumber_ok  hc4) ml_X7_32 wyX7_putNumber (bsm_X7) (bsc_X7) rfl dpX7_putNumber ⟨Nat.le_of_ble_eq_true rfl, Nat.le_of_ble_eq_true rfl⟩ ⟨rfl, rfl⟩ ⟨Nat.le_of_ble_eq_true rfl, Nat.le_of_ble_eq_true rfl⟩ rfl (Nat.le_of_ble_eq_true rfl) dX7_putBlankAndNumber_8 ?_
  exact v_vret C hf dX7_putBlankAndNumber_11
/-! BootSlots$Parser.addFour(I)V -/
def fX4_addFour_47 (k3 : Int32 → Int32 → bsX → Option bsX) (x1 : Int32) (x2 : Int32) (X : bsX) : Option bsX := k3 x1 (x2 + (-8 : Int32)) X
def fX4_addFour_3 : Nat → Int32 → Int32 → bsX → Option bsX
  | 0, _, _, _ => none
  | n + 1, x1, x2, X => if x2 < 0 then (some X) else (if (X 13 1 0 3) < 0 then (fX4_addFour_47  (fX4_addFour_3  n) x1 x2 X) else (if (600 : Int32) ≤ (X 13 1 0 3) then (fX4_addFour_47  (fX4_addFour_3  n) x1 x2 X) else (if bsIn (X 13 1 0 3) 600 then (fX4_addFour_47  (fX4_addFour_3  n) x1 x2 (bsWr (bsWr X 13 6 0 (bsIx (X 13 1 0 3)) (vp_nar .byte (((x1.toUInt32 >>> (x2.toUInt32 &&& Int32.toUInt32 31)).toInt32).toInt8.toInt32))) 13 1 0 3 (((bsWr X 13 6 0 (bsIx (X 13 1 0 3)) (vp_nar .byte (((x1.toUInt32 >>> (x2.toUInt32 &&& Int32.toUInt32 31)).toInt32).toInt8.toInt32))) 13 1 0 3) + (1 : Int32)))) else none)))
def fX4_addFour (a1 : Int32) (X : bsX) : Option bsX := fX4_addFour_3   bsF a1 (24 : Int32) X
abbrev rmX4_addFour : Room := { frames := 0, cells := 0, slots := 0, locals := 0 }
set_option maxHeartbeats 4000000 in
set_option maxRecDepth 100000 in
theorem wX4_addFour_47 {p : Program} {l : Launch} {e : Env} {s : State} {m : MethodId} {args : Array Value} {below : List Frame} {meth : Method} {c : Code} {ρ : bsR} {cA : Nat → ClassId} {dC : Nat → ClassId} {dI : Nat → Nat → Nat} {Rz : va_W} {Ts : List Cond}  (k3 : Int32 → Int32 → bsX → Option bsX)  {z : bsX} (C : bsCx p m c cX4_addFour 3 s args Ts RX4 ρ cA dC dI Rz meth none) (hk3 : ∀ (x1 : Int32) (x2 : Int32) (X : bsX), k3 x1 x2 X = some z → bsV p l e rmX4_addFour s m args below meth c 0 0 (MQ below (bsQv ρ cA dC dI Rz z s.heap.size) args s 0 0 (bsA ρ cA Rz s.heap.size)) ρ cA dC dI Rz 3 3 [(0, .ref (ρ 13 1 0)), (1, .int x1), (2, .int x2)] [] X)  (x1 : Int32) (x2 : Int32) (X : bsX) (hf : fX4_addFour_47 k3 x1 x2 X = some z) : bsV p l e rmX4_addFour s m args below meth c 0 0 (MQ below (bsQv ρ cA dC dI Rz z s.heap.size) args s 0 0 (bsA ρ cA Rz s.heap.size)) ρ cA dC dI Rz 3 47 [(0, .ref (ρ 13 1 0)), (1, .int x1), (2, .int x2)] [] X := by
  rw [fX4_addFour_47] at hf
  refine v_iinc (k0 := 2) (v := (x2 + (-8 : Int32))) (lv' := [(2, .int (x2 + (-8 : Int32))), (0, .ref (ρ 13 1 0)), (1, .int x1)]) C dX4_addFour_47 rfl rfl (by decide) rfl ?_
  refine v_goto (tgt := 3) C dX4_addFour_50 (by decide) ?_
  refine v_sub [1, 2, 0] rfl ?_
  exact hk3 _ _ _  hf
set_option maxHeartbeats 4000000 in
set_option maxRecDepth 100000 in
theorem wX4_addFour_3 {p : Program} {l : Launch} {e : Env} {s : State} {m : MethodId} {args : Array Value} {below : List Frame} {meth : Method} {c : Code} {ρ : bsR} {cA : Nat → ClassId} {dC : Nat → ClassId} {dI : Nat → Nat → Nat} {Rz : va_W} {Ts : List Cond}   {z : bsX} (C : bsCx p m c cX4_addFour 3 s args Ts RX4 ρ cA dC dI Rz meth none) : ∀ (n : Nat) (x1 : Int32) (x2 : Int32) (X : bsX), fX4_addFour_3  n x1 x2 X = some z → bsV p l e rmX4_addFour s m args below meth c 0 0 (MQ below (bsQv ρ cA dC dI Rz z s.heap.size) args s 0 0 (bsA ρ cA Rz s.heap.size)) ρ cA dC dI Rz 3 3 [(0, .ref (ρ 13 1 0)), (1, .int x1), (2, .int x2)] [] X := by
  intro n
  induction n with
  | zero => intro x1 x2 X hf; exact (nomatch hf)
  | succ n ih =>
    intro x1 x2 X hf
    rw [fX4_addFour_3] at hf
    refine v_iload_n C dX4_addFour_3 rfl rfl ?_
    refine v_if_lt (tgt := 53) C dX4_addFour_4 (by decide) (fun h4 => ?_) (fun h4 => ?_)
    · replace hf := bs_pos h4 hf
      exact v_vret C hf dX4_addFour_53
    · replace hf := bs_neg h4 hf
      refine v_aload_n C dX4_addFour_7 rfl rfl ?_
      refine gf_X4_30 C dX4_addFour_8 ?_
      refine v_if_lt (tgt := 47) C dX4_addFour_11 (by decide) (fun h3 => ?_) (fun h3 => ?_)
      · replace hf := bs_pos h3 hf
        refine v_sub [0, 1, 2] rfl ?_
        exact wX4_addFour_47  (fX4_addFour_3  n) C (fun b0 b1 X  h => ih b0 b1 X  h) _ _ _  hf
      · replace hf := bs_neg h3 hf
        refine v_aload_n C dX4_addFour_14 rfl rfl ?_
        refine gf_X4_30 C dX4_addFour_15 ?_
        refine v_sipush (v := 600) C dX4_addFour_18 (by decide) ?_
        refine v_icmp_ge (tgt := 47) C dX4_addFour_21 (by decide) (fun h2 => ?_) (fun h2 => ?_)
        · replace hf := bs_pos h2 hf
          refine v_sub [0, 1, 2] rfl ?_
          exact wX4_addFour_47  (fX4_addFour_3  n) C (fun b0 b1 X  h => ih b0 b1 X  h) _ _ _  hf
        · replace hf := bs_neg h2 hf
          refine v_aload_n C dX4_addFour_24 rfl rfl ?_
          refine gf_X4_9 C dX4_addFour_25 ?_
          refine v_aload_n C dX4_addFour_28 rfl rfl ?_
          refine gf_X4_30 C dX4_addFour_29 ?_
          refine v_iload_n C dX4_addFour_32 rfl rfl ?_
          refine v_iload_n C dX4_addFour_33 rfl rfl ?_
          refine v_iushr C dX4_addFour_34 ?_
          refine v_i2b C dX4_addFour_35 ?_
          obtain ⟨hi1, hf⟩ := bs_if hf
          refine v_bast (n := 600) C bsm_13_6 (fun _ => bsc_13_6) hi1 dX4_addFour_36 ?_
          refine v_aload_n C dX4_addFour_37 rfl rfl ?_
          refine v_dup C dX4_addFour_38 rfl ?_
          refine gf_X4_30 C dX4_addFour_39 ?_
          refine v_iconst (v := 1) C dX4_addFour_42 (by decide) ?_
          refine v_iadd C dX4_addFour_43 ?_
          refine pf_X4_30 C dX4_addFour_44 ?_
          refine v_sub [0, 1, 2] rfl ?_
          exact wX4_addFour_47  (fX4_addFour_3  n) C (fun b0 b1 X  h => ih b0 b1 X  h) _ _ _  hf
set_option maxHeartbeats 4000000 in
set_option maxRecDepth 100000 in
theorem cX4_addFour_ok {l : Launch} {ρ : bsR} {cA : Nat → ClassId} {dC : Nat → ClassId} {dI : Nat → Nat → Nat} {Rz : va_W}  {a1 : Int32} {X : bsX} {z : bsX} (hf : fX4_addFour a1 X = some z) : bsMv l yX4_addFour cX4_addFour 3 none rmX4_addFour ρ cA dC dI Rz [.ref (ρ 13 1 0), .int a1] X z := by
  refine bsMv_of (by decide) (Nat.le_of_ble_eq_true rfl) (fun p e s m args below meth c C => ?_)
  have C : bsCx p m c cX4_addFour 3 s args (Cond.code yX4_addFour cX4_addFour 3 none :: bsG) RX4 ρ cA dC dI Rz meth none := C
  rw [fX4_addFour] at hf
  refine v_sub [0, 1] rfl ?_
  refine v_bipush (v := 24) C dX4_addFour_0 (by decide) ?_
  refine v_istore_n (lv' := [(2, .int (24 : Int32)), (0, .ref (ρ 13 1 0)), (1, .int a1)]) C dX4_addFour_2 rfl (by decide) rfl ?_
  refine v_sub [1, 2, 0] rfl ?_
  exact wX4_addFour_3   C  bsF _ _ _  hf
/-! BootSlots$Parser.byteAt(I)I -/
def fX4_byteAt (a1 : Int32) (X : bsX) : Option (Int32 × bsX) := if a1 < 0 then (some ((-1 : Int32), X)) else (if (X 13 1 0 4) ≤ a1 then (some ((-1 : Int32), X)) else (if (600 : Int32) ≤ a1 then (some ((-1 : Int32), X)) else (if bsIn a1 600 then (some (((X 13 6 0 (bsIx a1)) &&& (255 : Int32)), X)) else none)))
abbrev rmX4_byteAt : Room := { frames := 0, cells := 0, slots := 0, locals := 0 }
set_option maxHeartbeats 4000000 in
set_option maxRecDepth 100000 in
theorem cX4_byteAt_ok {l : Launch} {ρ : bsR} {cA : Nat → ClassId} {dC : Nat → ClassId} {dI : Nat → Nat → Nat} {Rz : va_W}  {a1 : Int32} {X : bsX} {z : (Int32 × bsX)} (hf : fX4_byteAt a1 X = some z) : bsMi l yX4_byteAt cX4_byteAt 2 (some .int) rmX4_byteAt ρ cA dC dI Rz [.ref (ρ 13 1 0), .int a1] X z := by
  refine bsMi_of (by decide) (Nat.le_of_ble_eq_true rfl) (fun p e s m args below meth c C => ?_)
  have C : bsCx p m c cX4_byteAt 2 s args (Cond.code yX4_byteAt cX4_byteAt 2 (some .int) :: bsG) RX4 ρ cA dC dI Rz meth (some .int) := C
  rw [fX4_byteAt] at hf
  refine v_sub [0, 1] rfl ?_
  refine v_iload_n C dX4_byteAt_0 rfl rfl ?_
  refine v_if_lt (tgt := 32) C dX4_byteAt_1 (by decide) (fun h4 => ?_) (fun h4 => ?_)
  · replace hf := bs_pos h4 hf
    refine v_iconst (v := -1) C dX4_byteAt_32 (by decide) ?_
    exact v_iret C hf dX4_byteAt_33
  · replace hf := bs_neg h4 hf
    refine v_iload_n C dX4_byteAt_4 rfl rfl ?_
    refine v_aload_n C dX4_byteAt_5 rfl rfl ?_
    refine gf_X4_33 C dX4_byteAt_6 ?_
    refine v_icmp_ge (tgt := 32) C dX4_byteAt_9 (by decide) (fun h3 => ?_) (fun h3 => ?_)
    · replace hf := bs_pos h3 hf
      refine v_iconst (v := -1) C dX4_byteAt_32 (by decide) ?_
      exact v_iret C hf dX4_byteAt_33
    · replace hf := bs_neg h3 hf
      refine v_iload_n C dX4_byteAt_12 rfl rfl ?_
      refine v_sipush (v := 600) C dX4_byteAt_13 (by decide) ?_
      refine v_icmp_ge (tgt := 32) C dX4_byteAt_16 (by decide) (fun h2 => ?_) (fun h2 => ?_)
      · replace hf := bs_pos h2 hf
        refine v_iconst (v := -1) C dX4_byteAt_32 (by decide) ?_
        exact v_iret C hf dX4_byteAt_33
      · replace hf := bs_neg h2 hf
        refine v_aload_n C dX4_byteAt_19 rfl rfl ?_
        refine gf_X4_9 C dX4_byteAt_20 ?_
        refine v_iload_n C dX4_byteAt_23 rfl rfl ?_
        obtain ⟨hi1, hf⟩ := bs_if hf
        refine v_bald (n := 600) C bsm_13_6 bsc_13_6 hi1 dX4_byteAt_24 ?_
        refine v_sipush (v := 255) C dX4_byteAt_25 (by decide) ?_
        refine v_iand C dX4_byteAt_28 ?_
        refine v_goto (tgt := 33) C dX4_byteAt_29 (by decide) ?_
        exact v_iret C hf dX4_byteAt_33
/-! BootSlots$Parser.kindOf(I)I -/
def fX4_kindOf_35 (x0 : Int32) (X : bsX) : Option (Int32 × bsX) := if x0 = (32 : Int32) then (some ((1 : Int32), X)) else (if x0 = (59 : Int32) then (some ((4 : Int32), X)) else (some ((5 : Int32), X)))
def fX4_kindOf_21 (x0 : Int32) (X : bsX) : Option (Int32 × bsX) := if x0 < (48 : Int32) then (fX4_kindOf_35   x0 X) else (if (57 : Int32) < x0 then (fX4_kindOf_35   x0 X) else (some ((3 : Int32), X)))
def fX4_kindOf (a0 : Int32) (X : bsX) : Option (Int32 × bsX) := if a0 = (-1 : Int32) then (some ((0 : Int32), X)) else (if a0 < (97 : Int32) then (fX4_kindOf_21   a0 X) else (if (122 : Int32) < a0 then (fX4_kindOf_21   a0 X) else (some ((2 : Int32), X))))
abbrev rmX4_kindOf : Room := { frames := 0, cells := 0, slots := 0, locals := 0 }
set_option maxHeartbeats 4000000 in
set_option maxRecDepth 100000 in
theorem wX4_kindOf_35 {p : Program} {l : Launch} {e : Env} {s : State} {m : MethodId} {args : Array Value} {below : List Frame} {meth : Method} {c : Code} {ρ : bsR} {cA : Nat → ClassId} {dC : Nat → ClassId} {dI : Nat → Nat → Nat} {Rz : va_W} {Ts : List Cond}   {z : (Int32 × bsX)} (C : bsCx p m c cX4_kindOf 1 s args Ts RX4 ρ cA dC dI Rz meth (some .int)) (x0 : Int32) (X : bsX) (hf : fX4_kindOf_35 x0 X = some z) : bsV p l e rmX4_kindOf s m args below meth c 0 0 (MQ below (bsQi ρ cA dC dI Rz z s.heap.size) args s 0 0 (bsA ρ cA Rz s.heap.size)) ρ cA dC dI Rz 1 35 [(0, .int x0)] [] X := by
  rw [fX4_kindOf_35] at hf
  refine v_iload_n C dX4_kindOf_35 rfl rfl ?_
  refine v_bipush (v := 32) C dX4_kindOf_36 (by decide) ?_
  refine v_icmp_ne (tgt := 43) C dX4_kindOf_38 (by decide) (fun h2 => ?_) (fun h2 => ?_)
  · replace hf := bs_neg h2 hf
    refine v_iload_n C dX4_kindOf_43 rfl rfl ?_
    refine v_bipush (v := 59) C dX4_kindOf_44 (by decide) ?_
    refine v_icmp_ne (tgt := 53) C dX4_kindOf_46 (by decide) (fun h1 => ?_) (fun h1 => ?_)
    · replace hf := bs_neg h1 hf
      refine v_iconst (v := 5) C dX4_kindOf_53 (by decide) ?_
      exact v_iret C hf dX4_kindOf_54
    · replace hf := bs_pos h1 hf
      refine v_iconst (v := 4) C dX4_kindOf_49 (by decide) ?_
      refine v_goto (tgt := 54) C dX4_kindOf_50 (by decide) ?_
      exact v_iret C hf dX4_kindOf_54
  · replace hf := bs_pos h2 hf
    refine v_iconst (v := 1) C dX4_kindOf_41 (by decide) ?_
    exact v_iret C hf dX4_kindOf_42
set_option maxHeartbeats 4000000 in
set_option maxRecDepth 100000 in
theorem wX4_kindOf_21 {p : Program} {l : Launch} {e : Env} {s : State} {m : MethodId} {args : Array Value} {below : List Frame} {meth : Method} {c : Code} {ρ : bsR} {cA : Nat → ClassId} {dC : Nat → ClassId} {dI : Nat → Nat → Nat} {Rz : va_W} {Ts : List Cond}   {z : (Int32 × bsX)} (C : bsCx p m c cX4_kindOf 1 s args Ts RX4 ρ cA dC dI Rz meth (some .int)) (x0 : Int32) (X : bsX) (hf : fX4_kindOf_21 x0 X = some z) : bsV p l e rmX4_kindOf s m args below meth c 0 0 (MQ below (bsQi ρ cA dC dI Rz z s.heap.size) args s 0 0 (bsA ρ cA Rz s.heap.size)) ρ cA dC dI Rz 1 21 [(0, .int x0)] [] X := by
  rw [fX4_kindOf_21] at hf
  refine v_iload_n C dX4_kindOf_21 rfl rfl ?_
  refine v_bipush (v := 48) C dX4_kindOf_22 (by decide) ?_
  refine v_icmp_lt (tgt := 35) C dX4_kindOf_24 (by decide) (fun h4 => ?_) (fun h4 => ?_)
  · replace hf := bs_pos h4 hf
    refine v_sub [0] rfl ?_
    exact wX4_kindOf_35   C  _ _  hf
  · replace hf := bs_neg h4 hf
    refine v_iload_n C dX4_kindOf_27 rfl rfl ?_
    refine v_bipush (v := 57) C dX4_kindOf_28 (by decide) ?_
    refine v_icmp_gt (tgt := 35) C dX4_kindOf_30 (by decide) (fun h3 => ?_) (fun h3 => ?_)
    · replace hf := bs_pos h3 hf
      refine v_sub [0] rfl ?_
      exact wX4_kindOf_35   C  _ _  hf
    · replace hf := bs_neg h3 hf
      refine v_iconst (v := 3) C dX4_kindOf_33 (by decide) ?_
      exact v_iret C hf dX4_kindOf_34
set_option maxHeartbeats 4000000 in
set_option maxRecDepth 100000 in
theorem cX4_kindOf_ok {l : Launch} {ρ : bsR} {cA : Nat → ClassId} {dC : Nat → ClassId} {dI : Nat → Nat → Nat} {Rz : va_W}  {a0 : Int32} {X : bsX} {z : (Int32 × bsX)} (hf : fX4_kindOf a0 X = some z) : bsMi l yX4_kindOf cX4_kindOf 1 (some .int) rmX4_kindOf ρ cA dC dI Rz [.int a0] X z := by
  refine bsMi_of (by decide) (Nat.le_of_ble_eq_true rfl) (fun p e s m args below meth c C => ?_)
  have C : bsCx p m c cX4_kindOf 1 s args (Cond.code yX4_kindOf cX4_kindOf 1 (some .int) :: bsG) RX4 ρ cA dC dI Rz meth (some .int) := C
  rw [fX4_kindOf] at hf
  refine v_sub [0] rfl ?_
  refine v_iload_n C dX4_kindOf_0 rfl rfl ?_
  refine v_iconst (v := -1) C dX4_kindOf_1 (by decide) ?_
  refine v_icmp_ne (tgt := 7) C dX4_kindOf_2 (by decide) (fun h7 => ?_) (fun h7 => ?_)
  · replace hf := bs_neg h7 hf
    refine v_iload_n C dX4_kindOf_7 rfl rfl ?_
    refine v_bipush (v := 97) C dX4_kindOf_8 (by decide) ?_
    refine v_icmp_lt (tgt := 21) C dX4_kindOf_10 (by decide) (fun h6 => ?_) (fun h6 => ?_)
    · replace hf := bs_pos h6 hf
      refine v_sub [0] rfl ?_
      exact wX4_kindOf_21   C  _ _  hf
    · replace hf := bs_neg h6 hf
      refine v_iload_n C dX4_kindOf_13 rfl rfl ?_
      refine v_bipush (v := 122) C dX4_kindOf_14 (by decide) ?_
      refine v_icmp_gt (tgt := 21) C dX4_kindOf_16 (by decide) (fun h5 => ?_) (fun h5 => ?_)
      · replace hf := bs_pos h5 hf
        refine v_sub [0] rfl ?_
        exact wX4_kindOf_21   C  _ _  hf
      · replace hf := bs_neg h5 hf
        refine v_iconst (v := 2) C dX4_kindOf_19 (by decide) ?_
        exact v_iret C hf dX4_kindOf_20
  · replace hf := bs_pos h7 hf
    refine v_iconst (v := 0) C dX4_kindOf_5 (by decide) ?_
    exact v_iret C hf dX4_kindOf_6
/-! BootSlots$Parser.readToken()V -/
def fX4_readToken_195 (X : bsX) : Option bsX := some (bsWr X 13 1 0 5 (5 : Int32))
def fX4_readToken_182 (x2 : Int32) (X : bsX) : Option bsX := if (X 13 1 0 5) = (3 : Int32) then (if x2 ≤ (2 : Int32) then (some X) else (fX4_readToken_195    X)) else (some X)
def fX4_readToken_158 (X : bsX) : Option bsX := if (X 13 1 0 5) = (2 : Int32) then (if (8 : Int32) < ((X 13 1 0 7) - (X 13 1 0 6)) then (fX4_readToken_195    X) else (fX4_readToken_182   ((X 13 1 0 7) - (X 13 1 0 6)) X)) else (fX4_readToken_182   ((X 13 1 0 7) - (X 13 1 0 6)) X)
def fX4_readToken_115 : Nat → Int32 → Int32 → bsX → Option bsX
  | 0, _, _, _ => none
  | n + 1, x1, x2, X => if x1 = 0 then (fX4_readToken_158    X) else (if (X 13 1 0 4) ≤ x2 then (fX4_readToken_158    X) else ((fX4_byteAt  x2 X).bind fun r12 => (fX4_kindOf  r12.1 r12.2).bind fun r14 => if r14.1 = (r14.2 13 1 0 5) then (fX4_readToken_115 n x1 (x2 + (1 : Int32)) (bsWr r14.2 13 1 0 7 ((r14.2 13 1 0 7) + (1 : Int32)))) else (fX4_readToken_158    r14.2)))
def fX4_readToken_109 (y0 : Int32) (X : bsX) : Option bsX := fX4_readToken_115   bsF y0 (X 13 1 0 7) X
def fX4_readToken_104 (X : bsX) : Option bsX := fX4_readToken_109   (1 : Int32) X
def fX4_readToken_47 (X : bsX) : Option bsX := (fX4_byteAt  (X 13 1 0 6) X).bind fun r5 => (fX4_kindOf  r5.1 r5.2).bind fun r7 => if ((bsWr (bsWr r7.2 13 1 0 5 r7.1) 13 1 0 7 ((bsWr r7.2 13 1 0 5 r7.1) 13 1 0 6)) 13 1 0 5) = 0 then (some (bsWr (bsWr r7.2 13 1 0 5 r7.1) 13 1 0 7 ((bsWr r7.2 13 1 0 5 r7.1) 13 1 0 6))) else (if ((bsWr (bsWr (bsWr r7.2 13 1 0 5 r7.1) 13 1 0 7 ((bsWr r7.2 13 1 0 5 r7.1) 13 1 0 6)) 13 1 0 7 (((bsWr (bsWr r7.2 13 1 0 5 r7.1) 13 1 0 7 ((bsWr r7.2 13 1 0 5 r7.1) 13 1 0 6)) 13 1 0 7) + (1 : Int32))) 13 1 0 5) = (2 : Int32) then (fX4_readToken_104    (bsWr (bsWr (bsWr r7.2 13 1 0 5 r7.1) 13 1 0 7 ((bsWr r7.2 13 1 0 5 r7.1) 13 1 0 6)) 13 1 0 7 (((bsWr (bsWr r7.2 13 1 0 5 r7.1) 13 1 0 7 ((bsWr r7.2 13 1 0 5 r7.1) 13 1 0 6)) 13 1 0 7) + (1 : Int32)))) else (if ((bsWr (bsWr (bsWr r7.2 13 1 0 5 r7.1) 13 1 0 7 ((bsWr r7.2 13 1 0 5 r7.1) 13 1 0 6)) 13 1 0 7 (((bsWr (bsWr r7.2 13 1 0 5 r7.1) 13 1 0 7 ((bsWr r7.2 13 1 0 5 r7.1) 13 1 0 6)) 13 1 0 7) + (1 : Int32))) 13 1 0 5) = (3 : Int32) then (fX4_readToken_104    (bsWr (bsWr (bsWr r7.2 13 1 0 5 r7.1) 13 1 0 7 ((bsWr r7.2 13 1 0 5 r7.1) 13 1 0 6)) 13 1 0 7 (((bsWr (bsWr r7.2 13 1 0 5 r7.1) 13 1 0 7 ((bsWr r7.2 13 1 0 5 r7.1) 13 1 0 6)) 13 1 0 7) + (1 : Int32)))) else (fX4_readToken_109   (0 : Int32) (bsWr (bsWr (bsWr r7.2 13 1 0 5 r7.1) 13 1 0 7 ((bsWr r7.2 13 1 0 5 r7.1) 13 1 0 6)) 13 1 0 7 (((bsWr (bsWr r7.2 13 1 0 5 r7.1) 13 1 0 7 ((bsWr r7.2 13 1 0 5 r7.1) 13 1 0 6)) 13 1 0 7) + (1 : Int32))))))
def fX4_readToken_13 : Nat → Int32 → bsX → Option bsX
  | 0, _, _ => none
  | n + 1, x1, X => if (X 13 1 0 4) ≤ x1 then (fX4_readToken_47    X) else ((fX4_byteAt  x1 X).bind fun r1 => if r1.1 = (32 : Int32) then (fX4_readToken_13 n (x1 + (1 : Int32)) (bsWr r1.2 13 1 0 6 ((r1.2 13 1 0 6) + (1 : Int32)))) else (fX4_readToken_47    r1.2))
def fX4_readToken (X : bsX) : Option bsX := fX4_readToken_13   bsF ((bsWr X 13 1 0 6 (X 13 1 0 7)) 13 1 0 7) (bsWr X 13 1 0 6 (X 13 1 0 7))
abbrev rmX4_readToken : Room := { frames := 1, cells := 0, slots := 0, locals := 21 }
set_option maxHeartbeats 4000000 in
set_option maxRecDepth 100000 in
theorem wX4_readToken_195 {p : Program} {l : Launch} {e : Env} {s : State} {m : MethodId} {args : Array Value} {below : List Frame} {meth : Method} {c : Code} {ρ : bsR} {cA : Nat → ClassId} {dC : Nat → ClassId} {dI : Nat → Nat → Nat} {Rz : va_W} {Ts : List Cond}   {z : bsX} (C : bsCx p m c cX4_readToken 3 s args Ts RX4 ρ cA dC dI Rz meth none) (X : bsX) (hf : fX4_readToken_195  X = some z) : bsV p l e rmX4_readToken s m args below meth c 0 0 (MQ below (bsQv ρ cA dC dI Rz z s.heap.size) args s 0 0 (bsA ρ cA Rz s.heap.size)) ρ cA dC dI Rz 3 195 [(0, .ref (ρ 13 1 0))] [] X := by
  rw [fX4_readToken_195] at hf
  refine v_aload_n C dX4_readToken_195 rfl rfl ?_
  refine v_iconst (v := 5) C dX4_readToken_196 (by decide) ?_
  refine pf_X4_52 C dX4_readToken_197 ?_
  exact v_vret C hf dX4_readToken_200
set_option maxHeartbeats 4000000 in
set_option maxRecDepth 100000 in
theorem wX4_readToken_182 {p : Program} {l : Launch} {e : Env} {s : State} {m : MethodId} {args : Array Value} {below : List Frame} {meth : Method} {c : Code} {ρ : bsR} {cA : Nat → ClassId} {dC : Nat → ClassId} {dI : Nat → Nat → Nat} {Rz : va_W} {Ts : List Cond}   {z : bsX} (C : bsCx p m c cX4_readToken 3 s args Ts RX4 ρ cA dC dI Rz meth none) (x2 : Int32) (X : bsX) (hf : fX4_readToken_182 x2 X = some z) : bsV p l e rmX4_readToken s m args below meth c 0 0 (MQ below (bsQv ρ cA dC dI Rz z s.heap.size) args s 0 0 (bsA ρ cA Rz s.heap.size)) ρ cA dC dI Rz 3 182 [(0, .ref (ρ 13 1 0)), (2, .int x2)] [] X := by
  rw [fX4_readToken_182] at hf
  refine v_aload_n C dX4_readToken_182 rfl rfl ?_
  refine gf_X4_52 C dX4_readToken_183 ?_
  refine v_iconst (v := 3) C dX4_readToken_186 (by decide) ?_
  refine v_icmp_ne (tgt := 200) C dX4_readToken_187 (by decide) (fun h20 => ?_) (fun h20 => ?_)
  · replace hf := bs_neg h20 hf
    exact v_vret C hf dX4_readToken_200
  · replace hf := bs_pos h20 hf
    refine v_iload_n C dX4_readToken_190 rfl rfl ?_
    refine v_iconst (v := 2) C dX4_readToken_191 (by decide) ?_
    refine v_icmp_le (tgt := 200) C dX4_readToken_192 (by decide) (fun h19 => ?_) (fun h19 => ?_)
    · replace hf := bs_pos h19 hf
      exact v_vret C hf dX4_readToken_200
    · replace hf := bs_neg h19 hf
      refine v_sub [0] rfl ?_
      exact wX4_readToken_195   C  _  hf
set_option maxHeartbeats 4000000 in
set_option maxRecDepth 100000 in
theorem wX4_readToken_158 {p : Program} {l : Launch} {e : Env} {s : State} {m : MethodId} {args : Array Value} {below : List Frame} {meth : Method} {c : Code} {ρ : bsR} {cA : Nat → ClassId} {dC : Nat → ClassId} {dI : Nat → Nat → Nat} {Rz : va_W} {Ts : List Cond}   {z : bsX} (C : bsCx p m c cX4_readToken 3 s args Ts RX4 ρ cA dC dI Rz meth none) (X : bsX) (hf : fX4_readToken_158  X = some z) : bsV p l e rmX4_readToken s m args below meth c 0 0 (MQ below (bsQv ρ cA dC dI Rz z s.heap.size) args s 0 0 (bsA ρ cA Rz s.heap.size)) ρ cA dC dI Rz 3 158 [(0, .ref (ρ 13 1 0))] [] X := by
  rw [fX4_readToken_158] at hf
  refine v_aload_n C dX4_readToken_158 rfl rfl ?_
  refine gf_X4_36 C dX4_readToken_159 ?_
  refine v_aload_n C dX4_readToken_162 rfl rfl ?_
  refine gf_X4_141 C dX4_readToken_163 ?_
  refine v_isub C dX4_readToken_166 ?_
  refine v_istore_n (lv' := [(2, .int ((X 13 1 0 7) - (X 13 1 0 6))), (0, .ref (ρ 13 1 0))]) C dX4_readToken_167 rfl (by decide) rfl ?_
  refine v_aload_n C dX4_readToken_168 rfl rfl ?_
  refine gf_X4_52 C dX4_readToken_169 ?_
  refine v_iconst (v := 2) C dX4_readToken_172 (by decide) ?_
  refine v_icmp_ne (tgt := 182) C dX4_readToken_173 (by decide) (fun h22 => ?_) (fun h22 => ?_)
  · replace hf := bs_neg h22 hf
    refine v_sub [1, 0] rfl ?_
    exact wX4_readToken_182   C  _ _  hf
  · replace hf := bs_pos h22 hf
    refine v_iload_n C dX4_readToken_176 rfl rfl ?_
    refine v_bipush (v := 8) C dX4_readToken_177 (by decide) ?_
    refine v_icmp_gt (tgt := 195) C dX4_readToken_179 (by decide) (fun h21 => ?_) (fun h21 => ?_)
    · replace hf := bs_pos h21 hf
      refine v_sub [1] rfl ?_
      exact wX4_readToken_195   C  _  hf
    · replace hf := bs_neg h21 hf
      refine v_sub [1, 0] rfl ?_
      exact wX4_readToken_182   C  _ _  hf
set_option maxHeartbeats 4000000 in
set_option maxRecDepth 100000 in
theorem wX4_readToken_115 {p : Program} {l : Launch} {e : Env} {s : State} {m : MethodId} {args : Array Value} {below : List Frame} {meth : Method} {c : Code} {ρ : bsR} {cA : Nat → ClassId} {dC : Nat → ClassId} {dI : Nat → Nat → Nat} {Rz : va_W} {Ts : List Cond}   {z : bsX} (C : bsCx p m c cX4_readToken 3 s args Ts RX4 ρ cA dC dI Rz meth none) : ∀ (n : Nat) (x1 : Int32) (x2 : Int32) (X : bsX), fX4_readToken_115  n x1 x2 X = some z → bsV p l e rmX4_readToken s m args below meth c 0 0 (MQ below (bsQv ρ cA dC dI Rz z s.heap.size) args s 0 0 (bsA ρ cA Rz s.heap.size)) ρ cA dC dI Rz 3 115 [(0, .ref (ρ 13 1 0)), (1, .int x1), (2, .int x2)] [] X := by
  intro n
  induction n with
  | zero => intro x1 x2 X hf; exact (nomatch hf)
  | succ n ih =>
    intro x1 x2 X hf
    rw [fX4_readToken_115] at hf
    refine v_iload_n C dX4_readToken_115 rfl rfl ?_
    refine v_if_eq (tgt := 158) C dX4_readToken_116 (by decide) (fun h18 => ?_) (fun h18 => ?_)
    · replace hf := bs_pos h18 hf
      refine v_sub [0] rfl ?_
      exact wX4_readToken_158   C  _  hf
    · replace hf := bs_neg h18 hf
      refine v_iload_n C dX4_readToken_119 rfl rfl ?_
      refine v_aload_n C dX4_readToken_120 rfl rfl ?_
      refine gf_X4_33 C dX4_readToken_121 ?_
      refine v_icmp_ge (tgt := 158) C dX4_readToken_124 (by decide) (fun h17 => ?_) (fun h17 => ?_)
      · replace hf := bs_pos h17 hf
        refine v_sub [0] rfl ?_
        exact wX4_readToken_158   C  _  hf
      · replace hf := bs_neg h17 hf
        refine v_aload_n C dX4_readToken_127 rfl rfl ?_
        refine v_iload_n C dX4_readToken_128 rfl rfl ?_
        obtain ⟨r12, hc13, hf⟩ := bs_bind hf
        refine v_callVi (y := yX4_byteAt) (As := [.int x2]) (rest := []) C (cX4_byteAt_ok  hc13) ml_X4_144 wyX4_byteAt (bsm_X4) (bsc_X4) rfl dpX4_byteAt ⟨Nat.le_of_ble_eq_true rfl, Nat.le_of_ble_eq_true rfl⟩ ⟨rfl, rfl⟩ ⟨Nat.le_of_ble_eq_true rfl, Nat.le_of_ble_eq_true rfl⟩ rfl (Nat.le_of_ble_eq_true rfl) dX4_readToken_129 ?_
        obtain ⟨r14, hc15, hf⟩ := bs_bind hf
        refine v_callSi (y := yX4_kindOf) (As := [.int r12.1]) (rest := []) C (cX4_kindOf_ok  hc15) ml_X4_158 wzX4_kindOf dpX4_kindOf ⟨Nat.le_of_ble_eq_true rfl, Nat.le_of_ble_eq_true rfl⟩ ⟨rfl, rfl⟩ ⟨Nat.le_of_ble_eq_true rfl, Nat.le_of_ble_eq_true rfl⟩ rfl (Nat.le_of_ble_eq_true rfl) dX4_readToken_132 ?_
        refine v_aload_n C dX4_readToken_135 rfl rfl ?_
        refine gf_X4_52 C dX4_readToken_136 ?_
        refine v_icmp_ne (tgt := 158) C dX4_readToken_139 (by decide) (fun h16 => ?_) (fun h16 => ?_)
        · replace hf := bs_neg h16 hf
          refine v_sub [0] rfl ?_
          exact wX4_readToken_158   C  _  hf
        · replace hf := bs_pos h16 hf
          refine v_aload_n C dX4_readToken_142 rfl rfl ?_
          refine v_dup C dX4_readToken_143 rfl ?_
          refine gf_X4_36 C dX4_readToken_144 ?_
          refine v_iconst (v := 1) C dX4_readToken_147 (by decide) ?_
          refine v_iadd C dX4_readToken_148 ?_
          refine pf_X4_36 C dX4_readToken_149 ?_
          refine v_iinc (k0 := 2) (v := (x2 + (1 : Int32))) (lv' := [(2, .int (x2 + (1 : Int32))), (0, .ref (ρ 13 1 0)), (1, .int x1)]) C dX4_readToken_152 rfl rfl (by decide) rfl ?_
          refine v_goto (tgt := 115) C dX4_readToken_155 (by decide) ?_
          refine v_sub [1, 2, 0] rfl ?_
          exact ih _ _ _  hf
set_option maxHeartbeats 4000000 in
set_option maxRecDepth 100000 in
theorem wX4_readToken_109 {p : Program} {l : Launch} {e : Env} {s : State} {m : MethodId} {args : Array Value} {below : List Frame} {meth : Method} {c : Code} {ρ : bsR} {cA : Nat → ClassId} {dC : Nat → ClassId} {dI : Nat → Nat → Nat} {Rz : va_W} {Ts : List Cond}   {z : bsX} (C : bsCx p m c cX4_readToken 3 s args Ts RX4 ρ cA dC dI Rz meth none) (y0 : Int32) (X : bsX) (hf : fX4_readToken_109 y0 X = some z) : bsV p l e rmX4_readToken s m args below meth c 0 0 (MQ below (bsQv ρ cA dC dI Rz z s.heap.size) args s 0 0 (bsA ρ cA Rz s.heap.size)) ρ cA dC dI Rz 3 109 [(0, .ref (ρ 13 1 0))] [.int y0] X := by
  rw [fX4_readToken_109] at hf
  refine v_istore_n (lv' := [(1, .int y0), (0, .ref (ρ 13 1 0))]) C dX4_readToken_109 rfl (by decide) rfl ?_
  refine v_aload_n C dX4_readToken_110 rfl rfl ?_
  refine gf_X4_36 C dX4_readToken_111 ?_
  refine v_istore_n (lv' := [(2, .int (X 13 1 0 7)), (1, .int y0), (0, .ref (ρ 13 1 0))]) C dX4_readToken_114 rfl (by decide) rfl ?_
  refine v_sub [2, 1, 0] rfl ?_
  exact wX4_readToken_115   C  bsF _ _ _  hf
set_option maxHeartbeats 4000000 in
set_option maxRecDepth 100000 in
theorem wX4_readToken_104 {p : Program} {l : Launch} {e : Env} {s : State} {m : MethodId} {args : Array Value} {below : List Frame} {meth : Method} {c : Code} {ρ : bsR} {cA : Nat → ClassId} {dC : Nat → ClassId} {dI : Nat → Nat → Nat} {Rz : va_W} {Ts : List Cond}   {z : bsX} (C : bsCx p m c cX4_readToken 3 s args Ts RX4 ρ cA dC dI Rz meth none) (X : bsX) (hf : fX4_readToken_104  X = some z) : bsV p l e rmX4_readToken s m args below meth c 0 0 (MQ below (bsQv ρ cA dC dI Rz z s.heap.size) args s 0 0 (bsA ρ cA Rz s.heap.size)) ρ cA dC dI Rz 3 104 [(0, .ref (ρ 13 1 0))] [] X := by
  rw [fX4_readToken_104] at hf
  refine v_iconst (v := 1) C dX4_readToken_104 (by decide) ?_
  refine v_goto (tgt := 109) C dX4_readToken_105 (by decide) ?_
  refine v_sub [0] rfl ?_
  exact wX4_readToken_109   C  _ _  hf
set_option maxHeartbeats 4000000 in
set_option maxRecDepth 100000 in
theorem wX4_readToken_47 {p : Program} {l : Launch} {e : Env} {s : State} {m : MethodId} {args : Array Value} {below : List Frame} {meth : Method} {c : Code} {ρ : bsR} {cA : Nat → ClassId} {dC : Nat → ClassId} {dI : Nat → Nat → Nat} {Rz : va_W} {Ts : List Cond}   {z : bsX} (C : bsCx p m c cX4_readToken 3 s args Ts RX4 ρ cA dC dI Rz meth none) (X : bsX) (hf : fX4_readToken_47  X = some z) : bsV p l e rmX4_readToken s m args below meth c 0 0 (MQ below (bsQv ρ cA dC dI Rz z s.heap.size) args s 0 0 (bsA ρ cA Rz s.heap.size)) ρ cA dC dI Rz 3 47 [(0, .ref (ρ 13 1 0))] [] X := by
  rw [fX4_readToken_47] at hf
  refine v_aload_n C dX4_readToken_47 rfl rfl ?_
  refine v_aload_n C dX4_readToken_48 rfl rfl ?_
  refine v_aload_n C dX4_readToken_49 rfl rfl ?_
  refine gf_X4_141 C dX4_readToken_50 ?_
  obtain ⟨r5, hc6, hf⟩ := bs_bind hf
  refine v_callVi (y := yX4_byteAt) (As := [.int (X 13 1 0 6)]) (rest := [.ref (ρ 13 1 0)]) C (cX4_byteAt_ok  hc6) ml_X4_144 wyX4_byteAt (bsm_X4) (bsc_X4) rfl dpX4_byteAt ⟨Nat.le_of_ble_eq_true rfl, Nat.le_of_ble_eq_true rfl⟩ ⟨rfl, rfl⟩ ⟨Nat.le_of_ble_eq_true rfl, Nat.le_of_ble_eq_true rfl⟩ rfl (Nat.le_of_ble_eq_true rfl) dX4_readToken_53 ?_
  obtain ⟨r7, hc8, hf⟩ := bs_bind hf
  refine v_callSi (y := yX4_kindOf) (As := [.int r5.1]) (rest := [.ref (ρ 13 1 0)]) C (cX4_kindOf_ok  hc8) ml_X4_158 wzX4_kindOf dpX4_kindOf ⟨Nat.le_of_ble_eq_true rfl, Nat.le_of_ble_eq_true rfl⟩ ⟨rfl, rfl⟩ ⟨Nat.le_of_ble_eq_true rfl, Nat.le_of_ble_eq_true rfl⟩ rfl (Nat.le_of_ble_eq_true rfl) dX4_readToken_56 ?_
  refine pf_X4_52 C dX4_readToken_59 ?_
  refine v_aload_n C dX4_readToken_62 rfl rfl ?_
  refine v_aload_n C dX4_readToken_63 rfl rfl ?_
  refine gf_X4_141 C dX4_readToken_64 ?_
  refine pf_X4_36 C dX4_readToken_67 ?_
  refine v_aload_n C dX4_readToken_70 rfl rfl ?_
  refine gf_X4_52 C dX4_readToken_71 ?_
  refine v_if_ne (tgt := 78) C dX4_readToken_74 (by decide) (fun h11 => ?_) (fun h11 => ?_)
  · replace hf := bs_neg h11 hf
    refine v_aload_n C dX4_readToken_78 rfl rfl ?_
    refine v_dup C dX4_readToken_79 rfl ?_
    refine gf_X4_36 C dX4_readToken_80 ?_
    refine v_iconst (v := 1) C dX4_readToken_83 (by decide) ?_
    refine v_iadd C dX4_readToken_84 ?_
    refine pf_X4_36 C dX4_readToken_85 ?_
    refine v_aload_n C dX4_readToken_88 rfl rfl ?_
    refine gf_X4_52 C dX4_readToken_89 ?_
    refine v_iconst (v := 2) C dX4_readToken_92 (by decide) ?_
    refine v_icmp_eq (tgt := 104) C dX4_readToken_93 (by decide) (fun h10 => ?_) (fun h10 => ?_)
    · replace hf := bs_pos h10 hf
      refine v_sub [0] rfl ?_
      exact wX4_readToken_104   C  _  hf
    · replace hf := bs_neg h10 hf
      refine v_aload_n C dX4_readToken_96 rfl rfl ?_
      refine gf_X4_52 C dX4_readToken_97 ?_
      refine v_iconst (v := 3) C dX4_readToken_100 (by decide) ?_
      refine v_icmp_ne (tgt := 108) C dX4_readToken_101 (by decide) (fun h9 => ?_) (fun h9 => ?_)
      · replace hf := bs_neg h9 hf
        refine v_iconst (v := 0) C dX4_readToken_108 (by decide) ?_
        refine v_sub [0] rfl ?_
        exact wX4_readToken_109   C  _ _  hf
      · replace hf := bs_pos h9 hf
        refine v_sub [0] rfl ?_
        exact wX4_readToken_104   C  _  hf
  · replace hf := bs_pos h11 hf
    exact v_vret C hf dX4_readToken_77
set_option maxHeartbeats 4000000 in
set_option maxRecDepth 100000 in
theorem wX4_readToken_13 {p : Program} {l : Launch} {e : Env} {s : State} {m : MethodId} {args : Array Value} {below : List Frame} {meth : Method} {c : Code} {ρ : bsR} {cA : Nat → ClassId} {dC : Nat → ClassId} {dI : Nat → Nat → Nat} {Rz : va_W} {Ts : List Cond}   {z : bsX} (C : bsCx p m c cX4_readToken 3 s args Ts RX4 ρ cA dC dI Rz meth none) : ∀ (n : Nat) (x1 : Int32) (X : bsX), fX4_readToken_13  n x1 X = some z → bsV p l e rmX4_readToken s m args below meth c 0 0 (MQ below (bsQv ρ cA dC dI Rz z s.heap.size) args s 0 0 (bsA ρ cA Rz s.heap.size)) ρ cA dC dI Rz 3 13 [(0, .ref (ρ 13 1 0)), (1, .int x1)] [] X := by
  intro n
  induction n with
  | zero => intro x1 X hf; exact (nomatch hf)
  | succ n ih =>
    intro x1 X hf
    rw [fX4_readToken_13] at hf
    refine v_iload_n C dX4_readToken_13 rfl rfl ?_
    refine v_aload_n C dX4_readToken_14 rfl rfl ?_
    refine gf_X4_33 C dX4_readToken_15 ?_
    refine v_icmp_ge (tgt := 47) C dX4_readToken_18 (by decide) (fun h4 => ?_) (fun h4 => ?_)
    · replace hf := bs_pos h4 hf
      refine v_sub [0] rfl ?_
      exact wX4_readToken_47   C  _  hf
    · replace hf := bs_neg h4 hf
      refine v_aload_n C dX4_readToken_21 rfl rfl ?_
      refine v_iload_n C dX4_readToken_22 rfl rfl ?_
      obtain ⟨r1, hc2, hf⟩ := bs_bind hf
      refine v_callVi (y := yX4_byteAt) (As := [.int x1]) (rest := []) C (cX4_byteAt_ok  hc2) ml_X4_144 wyX4_byteAt (bsm_X4) (bsc_X4) rfl dpX4_byteAt ⟨Nat.le_of_ble_eq_true rfl, Nat.le_of_ble_eq_true rfl⟩ ⟨rfl, rfl⟩ ⟨Nat.le_of_ble_eq_true rfl, Nat.le_of_ble_eq_true rfl⟩ rfl (Nat.le_of_ble_eq_true rfl) dX4_readToken_23 ?_
      refine v_bipush (v := 32) C dX4_readToken_26 (by decide) ?_
      refine v_icmp_ne (tgt := 47) C dX4_readToken_28 (by decide) (fun h3 => ?_) (fun h3 => ?_)
      · replace hf := bs_neg h3 hf
        refine v_sub [0] rfl ?_
        exact wX4_readToken_47   C  _  hf
      · replace hf := bs_pos h3 hf
        refine v_aload_n C dX4_readToken_31 rfl rfl ?_
        refine v_dup C dX4_readToken_32 rfl ?_
        refine gf_X4_141 C dX4_readToken_33 ?_
        refine v_iconst (v := 1) C dX4_readToken_36 (by decide) ?_
        refine v_iadd C dX4_readToken_37 ?_
        refine pf_X4_141 C dX4_readToken_38 ?_
        refine v_iinc (k0 := 1) (v := (x1 + (1 : Int32))) (lv' := [(1, .int (x1 + (1 : Int32))), (0, .ref (ρ 13 1 0))]) C dX4_readToken_41 rfl rfl (by decide) rfl ?_
        refine v_goto (tgt := 13) C dX4_readToken_44 (by decide) ?_
        refine v_sub [1, 0] rfl ?_
        exact ih _ _  hf
set_option maxHeartbeats 4000000 in
set_option maxRecDepth 100000 in
theorem cX4_readToken_ok {l : Launch} {ρ : bsR} {cA : Nat → ClassId} {dC : Nat → ClassId} {dI : Nat → Nat → Nat} {Rz : va_W}  {X : bsX} {z : bsX} (hf : fX4_readToken  X = some z) : bsMv l yX4_readToken cX4_readToken 3 none rmX4_readToken ρ cA dC dI Rz [.ref (ρ 13 1 0)] X z := by
  refine bsMv_of (by decide) (Nat.le_of_ble_eq_true rfl) (fun p e s m args below meth c C => ?_)
  have C : bsCx p m c cX4_readToken 3 s args (Cond.code yX4_readToken cX4_readToken 3 none :: bsG) RX4 ρ cA dC dI Rz meth none := C
  rw [fX4_readToken] at hf
  refine v_sub [0] rfl ?_
  refine v_aload_n C dX4_readToken_0 rfl rfl ?_
  refine v_aload_n C dX4_readToken_1 rfl rfl ?_
  refine gf_X4_36 C dX4_readToken_2 ?_
  refine pf_X4_141 C dX4_readToken_5 ?_
  refine v_aload_n C dX4_readToken_8 rfl rfl ?_
  refine gf_X4_36 C dX4_readToken_9 ?_
  refine v_istore_n (lv' := [(1, .int ((bsWr X 13 1 0 6 (X 13 1 0 7)) 13 1 0 7)), (0, .ref (ρ 13 1 0))]) C dX4_readToken_12 rfl (by decide) rfl ?_
  refine v_sub [1, 0] rfl ?_
  exact wX4_readToken_13   C  bsF _ _  hf
/-! BootSlots$Parser.isWord(Ljava/lang/String;)Z -/
def fX4_isWord_28 (t1 : Nat) : Nat → Int32 → bsX → Option (Int32 × bsX)
  | 0, _, _ => none
  | n + 1, x2, X => if (bsLen t1) ≤ x2 then (some ((1 : Int32), X)) else ((fX4_byteAt  ((X 13 1 0 6) + x2) X).bind fun r1 => if bsIn x2 (bsSl.getD t1 0) then (if r1.1 = (bsChr t1 (bsIx x2)) then (fX4_isWord_28 t1 n (x2 + (1 : Int32)) r1.2) else (some ((0 : Int32), r1.2))) else none)
def fX4_isWord (t1 : Nat) (X : bsX) : Option (Int32 × bsX) := if (X 13 1 0 5) = (2 : Int32) then (if ((X 13 1 0 7) - (X 13 1 0 6)) = (bsLen t1) then (fX4_isWord_28 t1  bsF (0 : Int32) X) else (some ((0 : Int32), X))) else (some ((0 : Int32), X))
abbrev rmX4_isWord : Room := { frames := 4, cells := 0, slots := 0, locals := 85 }
set_option maxHeartbeats 4000000 in
set_option maxRecDepth 100000 in
theorem wX4_isWord_28 {p : Program} {l : Launch} {e : Env} {s : State} {m : MethodId} {args : Array Value} {below : List Frame} {meth : Method} {c : Code} {ρ : bsR} {cA : Nat → ClassId} {dC : Nat → ClassId} {dI : Nat → Nat → Nat} {Rz : va_W} {Ts : List Cond} {t1 : Nat} (ht1 : t1 < 22)  {z : (Int32 × bsX)} (C : bsCx p m c cX4_isWord 3 s args Ts RX4 ρ cA dC dI Rz meth (some .boolean)) : ∀ (n : Nat) (x2 : Int32) (X : bsX), fX4_isWord_28 t1 n x2 X = some z → bsV p l e rmX4_isWord s m args below meth c 0 0 (MQ below (bsQi ρ cA dC dI Rz z s.heap.size) args s 0 0 (bsA ρ cA Rz s.heap.size)) ρ cA dC dI Rz 3 28 [(0, .ref (ρ 13 1 0)), (1, .ref (ρ 16 0 t1)), (2, .int x2)] [] X := by
  intro n
  induction n with
  | zero => intro x2 X hf; exact (nomatch hf)
  | succ n ih =>
    intro x2 X hf
    rw [fX4_isWord_28] at hf
    refine v_iload_n C dX4_isWord_28 rfl rfl ?_
    refine v_aload_n C dX4_isWord_29 rfl rfl ?_
    refine v_callTi (y := yJ0_length_8abf5) (As := []) (rest := [.int x2]) C ht1 rfl (cJ0_length_8abf5_ok ht1) ml_X4_148 wyJ0_length_8abf5 dpJ0_length_8abf5 ⟨Nat.le_of_ble_eq_true rfl, Nat.le_of_ble_eq_true rfl⟩ ⟨rfl, rfl⟩ ⟨Nat.zero_le _, Nat.zero_le _⟩ rfl (Nat.le_of_ble_eq_true rfl) dX4_isWord_30 ?_
    refine v_icmp_ge (tgt := 62) C dX4_isWord_33 (by decide) (fun h5 => ?_) (fun h5 => ?_)
    · replace hf := bs_pos h5 hf
      refine v_iconst (v := 1) C dX4_isWord_62 (by decide) ?_
      exact v_zret C (bsZ01 (by decide)).1 hf dX4_isWord_63
    · replace hf := bs_neg h5 hf
      refine v_aload_n C dX4_isWord_36 rfl rfl ?_
      refine v_aload_n C dX4_isWord_37 rfl rfl ?_
      refine gf_X4_141 C dX4_isWord_38 ?_
      refine v_iload_n C dX4_isWord_41 rfl rfl ?_
      refine v_iadd C dX4_isWord_42 ?_
      obtain ⟨r1, hc2, hf⟩ := bs_bind hf
      refine v_callVi (y := yX4_byteAt) (As := [.int ((X 13 1 0 6) + x2)]) (rest := []) C (cX4_byteAt_ok  hc2) ml_X4_144 wyX4_byteAt (bsm_X4) (bsc_X4) rfl dpX4_byteAt ⟨Nat.le_of_ble_eq_true rfl, Nat.le_of_ble_eq_true rfl⟩ ⟨rfl, rfl⟩ ⟨Nat.le_of_ble_eq_true rfl, Nat.le_of_ble_eq_true rfl⟩ rfl (Nat.le_of_ble_eq_true rfl) dX4_isWord_43 ?_
      refine v_aload_n C dX4_isWord_46 rfl rfl ?_
      refine v_iload_n C dX4_isWord_47 rfl rfl ?_
      obtain ⟨hi3, hf⟩ := bs_if hf
      refine v_callTi (y := yJ0_charAt_5068e) (As := [.int x2]) (rest := [.int r1.1]) C ht1 rfl (cJ0_charAt_5068e_ok ht1 hi3) ml_X4_154 wyJ0_charAt_5068e dpJ0_charAt_5068e ⟨Nat.le_of_ble_eq_true rfl, Nat.le_of_ble_eq_true rfl⟩ ⟨rfl, rfl⟩ ⟨Nat.zero_le _, Nat.zero_le _⟩ rfl (Nat.le_of_ble_eq_true rfl) dX4_isWord_48 ?_
      refine v_icmp_eq (tgt := 56) C dX4_isWord_51 (by decide) (fun h4 => ?_) (fun h4 => ?_)
      · replace hf := bs_pos h4 hf
        refine v_iinc (k0 := 2) (v := (x2 + (1 : Int32))) (lv' := [(2, .int (x2 + (1 : Int32))), (0, .ref (ρ 13 1 0)), (1, .ref (ρ 16 0 t1))]) C dX4_isWord_56 rfl rfl (by decide) rfl ?_
        refine v_goto (tgt := 28) C dX4_isWord_59 (by decide) ?_
        refine v_sub [1, 2, 0] rfl ?_
        exact ih _ _  hf
      · replace hf := bs_neg h4 hf
        refine v_iconst (v := 0) C dX4_isWord_54 (by decide) ?_
        exact v_zret C (bsZ01 (by decide)).1 hf dX4_isWord_55
set_option maxHeartbeats 4000000 in
set_option maxRecDepth 100000 in
theorem cX4_isWord_ok {l : Launch} {ρ : bsR} {cA : Nat → ClassId} {dC : Nat → ClassId} {dI : Nat → Nat → Nat} {Rz : va_W} {t1 : Nat} (ht1 : t1 < 22) {X : bsX} {z : (Int32 × bsX)} (hf : fX4_isWord t1 X = some z) : bsMi l yX4_isWord cX4_isWord 3 (some .boolean) rmX4_isWord ρ cA dC dI Rz [.ref (ρ 13 1 0), .ref (ρ 16 0 t1)] X z := by
  refine bsMi_of (by decide) (Nat.le_of_ble_eq_true rfl) (fun p e s m args below meth c C => ?_)
  have C : bsCx p m c cX4_isWord 3 s args (Cond.code yX4_isWord cX4_isWord 3 (some .boolean) :: bsG) RX4 ρ cA dC dI Rz meth (some .boolean) := C
  rw [fX4_isWord] at hf
  refine v_sub [0, 1] rfl ?_
  refine v_aload_n C dX4_isWord_0 rfl rfl ?_
  refine gf_X4_52 C dX4_isWord_1 ?_
  refine v_iconst (v := 2) C dX4_isWord_4 (by decide) ?_
  refine v_icmp_ne (tgt := 24) C dX4_isWord_5 (by decide) (fun h7 => ?_) (fun h7 => ?_)
  · replace hf := bs_neg h7 hf
    refine v_iconst (v := 0) C dX4_isWord_24 (by decide) ?_
    exact v_zret C (bsZ01 (by decide)).1 hf dX4_isWord_25
  · replace hf := bs_pos h7 hf
    refine v_aload_n C dX4_isWord_8 rfl rfl ?_
    refine gf_X4_36 C dX4_isWord_9 ?_
    refine v_aload_n C dX4_isWord_12 rfl rfl ?_
    refine gf_X4_141 C dX4_isWord_13 ?_
    refine v_isub C dX4_isWord_16 ?_
    refine v_aload_n C dX4_isWord_17 rfl rfl ?_
    refine v_callTi (y := yJ0_length_8abf5) (As := []) (rest := [.int ((X 13 1 0 7) - (X 13 1 0 6))]) C ht1 rfl (cJ0_length_8abf5_ok ht1) ml_X4_148 wyJ0_length_8abf5 dpJ0_length_8abf5 ⟨Nat.le_of_ble_eq_true rfl, Nat.le_of_ble_eq_true rfl⟩ ⟨rfl, rfl⟩ ⟨Nat.zero_le _, Nat.zero_le _⟩ rfl (Nat.le_of_ble_eq_true rfl) dX4_isWord_18 ?_
    refine v_icmp_eq (tgt := 26) C dX4_isWord_21 (by decide) (fun h6 => ?_) (fun h6 => ?_)
    · replace hf := bs_pos h6 hf
      refine v_iconst (v := 0) C dX4_isWord_26 (by decide) ?_
      refine v_istore_n (lv' := [(2, .int (0 : Int32)), (0, .ref (ρ 13 1 0)), (1, .ref (ρ 16 0 t1))]) C dX4_isWord_27 rfl (by decide) rfl ?_
      refine v_sub [1, 2, 0] rfl ?_
      exact wX4_isWord_28 ht1  C  bsF _ _  hf
    · replace hf := bs_neg h6 hf
      refine v_iconst (v := 0) C dX4_isWord_24 (by decide) ?_
      exact v_zret C (bsZ01 (by decide)).1 hf dX4_isWord_25
/-! BootSlots$Parser.fail(I)V -/
def fX4_fail (a1 : Int32) (X : bsX) : Option bsX := if (X 13 1 0 8) = 0 then (some (bsWr (bsWr X 13 1 0 8 a1) 13 1 0 9 ((bsWr X 13 1 0 8 a1) 13 1 0 6))) else (some X)
abbrev rmX4_fail : Room := { frames := 0, cells := 0, slots := 0, locals := 0 }
set_option maxHeartbeats 4000000 in
set_option maxRecDepth 100000 in
theorem cX4_fail_ok {l : Launch} {ρ : bsR} {cA : Nat → ClassId} {dC : Nat → ClassId} {dI : Nat → Nat → Nat} {Rz : va_W}  {a1 : Int32} {X : bsX} {z : bsX} (hf : fX4_fail a1 X = some z) : bsMv l yX4_fail cX4_fail 2 none rmX4_fail ρ cA dC dI Rz [.ref (ρ 13 1 0), .int a1] X z := by
  refine bsMv_of (by decide) (Nat.le_of_ble_eq_true rfl) (fun p e s m args below meth c C => ?_)
  have C : bsCx p m c cX4_fail 2 s args (Cond.code yX4_fail cX4_fail 2 none :: bsG) RX4 ρ cA dC dI Rz meth none := C
  rw [fX4_fail] at hf
  refine v_sub [0, 1] rfl ?_
  refine v_aload_n C dX4_fail_0 rfl rfl ?_
  refine gf_X4_39 C dX4_fail_1 ?_
  refine v_if_ne (tgt := 20) C dX4_fail_4 (by decide) (fun h1 => ?_) (fun h1 => ?_)
  · replace hf := bs_neg h1 hf
    exact v_vret C hf dX4_fail_20
  · replace hf := bs_pos h1 hf
    refine v_aload_n C dX4_fail_7 rfl rfl ?_
    refine v_iload_n C dX4_fail_8 rfl rfl ?_
    refine pf_X4_39 C dX4_fail_9 ?_
    refine v_aload_n C dX4_fail_12 rfl rfl ?_
    refine v_aload_n C dX4_fail_13 rfl rfl ?_
    refine gf_X4_141 C dX4_fail_14 ?_
    refine pf_X4_26 C dX4_fail_17 ?_
    exact v_vret C hf dX4_fail_20
/-! BootSlots$Parser.numberWithin(II)I -/
def fX4_numberWithin_63 (X : bsX) : Option (Int32 × bsX) := (fX4_fail  (2 : Int32) X).bind fun r1 => some ((-1 : Int32), r1)
def fX4_numberWithin_23 : Nat → Int32 → Int32 → Int32 → Int32 → bsX → Option (Int32 × bsX)
  | 0, _, _, _, _, _ => none
  | n + 1, x1, x2, x3, x4, X => if (X 13 1 0 7) ≤ x4 then (if x3 < x1 then (fX4_numberWithin_63    X) else (if x3 ≤ x2 then (some (x3, X)) else (fX4_numberWithin_63    X))) else ((fX4_byteAt  x4 X).bind fun r5 => fX4_numberWithin_23 n x1 x2 (((x3 * (10 : Int32)) + r5.1) - (48 : Int32)) (x4 + (1 : Int32)) r5.2)
def fX4_numberWithin (a1 : Int32) (a2 : Int32) (X : bsX) : Option (Int32 × bsX) := if (X 13 1 0 5) = (3 : Int32) then (fX4_numberWithin_23   bsF a1 a2 (0 : Int32) (X 13 1 0 6) X) else ((fX4_fail  (1 : Int32) X).bind fun r8 => some ((-1 : Int32), r8))
abbrev rmX4_numberWithin : Room := { frames := 1, cells := 0, slots := 0, locals := 21 }
set_option maxHeartbeats 4000000 in
set_option maxRecDepth 100000 in
theorem wX4_numberWithin_63 {p : Program} {l : Launch} {e : Env} {s : State} {m : MethodId} {args : Array Value} {below : List Frame} {meth : Method} {c : Code} {ρ : bsR} {cA : Nat → ClassId} {dC : Nat → ClassId} {dI : Nat → Nat → Nat} {Rz : va_W} {Ts : List Cond}   {z : (Int32 × bsX)} (C : bsCx p m c cX4_numberWithin 5 s args Ts RX4 ρ cA dC dI Rz meth (some .int)) (X : bsX) (hf : fX4_numberWithin_63  X = some z) : bsV p l e rmX4_numberWithin s m args below meth c 0 0 (MQ below (bsQi ρ cA dC dI Rz z s.heap.size) args s 0 0 (bsA ρ cA Rz s.heap.size)) ρ cA dC dI Rz 5 63 [(0, .ref (ρ 13 1 0))] [] X := by
  rw [fX4_numberWithin_63] at hf
  refine v_aload_n C dX4_numberWithin_63 rfl rfl ?_
  refine v_iconst (v := 2) C dX4_numberWithin_64 (by decide) ?_
  obtain ⟨r1, hc2, hf⟩ := bs_bind hf
  refine v_callVv (y := yX4_fail) (As := [.int (2 : Int32)]) (rest := []) C (cX4_fail_ok  hc2) ml_X4_61 wyX4_fail (bsm_X4) (bsc_X4) rfl dpX4_fail ⟨Nat.le_of_ble_eq_true rfl, Nat.le_of_ble_eq_true rfl⟩ ⟨rfl, rfl⟩ ⟨Nat.le_of_ble_eq_true rfl, Nat.le_of_ble_eq_true rfl⟩ rfl (Nat.le_of_ble_eq_true rfl) dX4_numberWithin_65 ?_
  refine v_iconst (v := -1) C dX4_numberWithin_68 (by decide) ?_
  exact v_iret C hf dX4_numberWithin_69
set_option maxHeartbeats 4000000 in
set_option maxRecDepth 100000 in
theorem wX4_numberWithin_23 {p : Program} {l : Launch} {e : Env} {s : State} {m : MethodId} {args : Array Value} {below : List Frame} {meth : Method} {c : Code} {ρ : bsR} {cA : Nat → ClassId} {dC : Nat → ClassId} {dI : Nat → Nat → Nat} {Rz : va_W} {Ts : List Cond}   {z : (Int32 × bsX)} (C : bsCx p m c cX4_numberWithin 5 s args Ts RX4 ρ cA dC dI Rz meth (some .int)) : ∀ (n : Nat) (x1 : Int32) (x2 : Int32) (x3 : Int32) (x4 : Int32) (X : bsX), fX4_numberWithin_23  n x1 x2 x3 x4 X = some z → bsV p l e rmX4_numberWithin s m args below meth c 0 0 (MQ below (bsQi ρ cA dC dI Rz z s.heap.size) args s 0 0 (bsA ρ cA Rz s.heap.size)) ρ cA dC dI Rz 5 23 [(0, .ref (ρ 13 1 0)), (1, .int x1), (2, .int x2), (3, .int x3), (4, .int x4)] [] X := by
  intro n
  induction n with
  | zero => intro x1 x2 x3 x4 X hf; exact (nomatch hf)
  | succ n ih =>
    intro x1 x2 x3 x4 X hf
    rw [fX4_numberWithin_23] at hf
    refine v_iload C dX4_numberWithin_23 rfl ?_
    refine v_aload_n C dX4_numberWithin_25 rfl rfl ?_
    refine gf_X4_36 C dX4_numberWithin_26 ?_
    refine v_icmp_ge (tgt := 53) C dX4_numberWithin_29 (by decide) (fun h7 => ?_) (fun h7 => ?_)
    · replace hf := bs_pos h7 hf
      refine v_iload_n C dX4_numberWithin_53 rfl rfl ?_
      refine v_iload_n C dX4_numberWithin_54 rfl rfl ?_
      refine v_icmp_lt (tgt := 63) C dX4_numberWithin_55 (by decide) (fun h4 => ?_) (fun h4 => ?_)
      · replace hf := bs_pos h4 hf
        refine v_sub [0] rfl ?_
        exact wX4_numberWithin_63   C  _  hf
      · replace hf := bs_neg h4 hf
        refine v_iload_n C dX4_numberWithin_58 rfl rfl ?_
        refine v_iload_n C dX4_numberWithin_59 rfl rfl ?_
        refine v_icmp_le (tgt := 70) C dX4_numberWithin_60 (by decide) (fun h3 => ?_) (fun h3 => ?_)
        · replace hf := bs_pos h3 hf
          refine v_iload_n C dX4_numberWithin_70 rfl rfl ?_
          exact v_iret C hf dX4_numberWithin_71
        · replace hf := bs_neg h3 hf
          refine v_sub [0] rfl ?_
          exact wX4_numberWithin_63   C  _  hf
    · replace hf := bs_neg h7 hf
      refine v_iload_n C dX4_numberWithin_32 rfl rfl ?_
      refine v_bipush (v := 10) C dX4_numberWithin_33 (by decide) ?_
      refine v_imul C dX4_numberWithin_35 ?_
      refine v_aload_n C dX4_numberWithin_36 rfl rfl ?_
      refine v_iload C dX4_numberWithin_37 rfl ?_
      obtain ⟨r5, hc6, hf⟩ := bs_bind hf
      refine v_callVi (y := yX4_byteAt) (As := [.int x4]) (rest := [.int (x3 * (10 : Int32))]) C (cX4_byteAt_ok  hc6) ml_X4_144 wyX4_byteAt (bsm_X4) (bsc_X4) rfl dpX4_byteAt ⟨Nat.le_of_ble_eq_true rfl, Nat.le_of_ble_eq_true rfl⟩ ⟨rfl, rfl⟩ ⟨Nat.le_of_ble_eq_true rfl, Nat.le_of_ble_eq_true rfl⟩ rfl (Nat.le_of_ble_eq_true rfl) dX4_numberWithin_39 ?_
      refine v_iadd C dX4_numberWithin_42 ?_
      refine v_bipush (v := 48) C dX4_numberWithin_43 (by decide) ?_
      refine v_isub C dX4_numberWithin_45 ?_
      refine v_istore_n (lv' := [(3, .int (((x3 * (10 : Int32)) + r5.1) - (48 : Int32))), (0, .ref (ρ 13 1 0)), (1, .int x1), (2, .int x2), (4, .int x4)]) C dX4_numberWithin_46 rfl (by decide) rfl ?_
      refine v_iinc (k0 := 4) (v := (x4 + (1 : Int32))) (lv' := [(4, .int (x4 + (1 : Int32))), (3, .int (((x3 * (10 : Int32)) + r5.1) - (48 : Int32))), (0, .ref (ρ 13 1 0)), (1, .int x1), (2, .int x2)]) C dX4_numberWithin_47 rfl rfl (by decide) rfl ?_
      refine v_goto (tgt := 23) C dX4_numberWithin_50 (by decide) ?_
      refine v_sub [2, 3, 4, 1, 0] rfl ?_
      exact ih _ _ _ _ _  hf
set_option maxHeartbeats 4000000 in
set_option maxRecDepth 100000 in
theorem cX4_numberWithin_ok {l : Launch} {ρ : bsR} {cA : Nat → ClassId} {dC : Nat → ClassId} {dI : Nat → Nat → Nat} {Rz : va_W}  {a1 : Int32} {a2 : Int32} {X : bsX} {z : (Int32 × bsX)} (hf : fX4_numberWithin a1 a2 X = some z) : bsMi l yX4_numberWithin cX4_numberWithin 5 (some .int) rmX4_numberWithin ρ cA dC dI Rz [.ref (ρ 13 1 0), .int a1, .int a2] X z := by
  refine bsMi_of (by decide) (Nat.le_of_ble_eq_true rfl) (fun p e s m args below meth c C => ?_)
  have C : bsCx p m c cX4_numberWithin 5 s args (Cond.code yX4_numberWithin cX4_numberWithin 5 (some .int) :: bsG) RX4 ρ cA dC dI Rz meth (some .int) := C
  rw [fX4_numberWithin] at hf
  refine v_sub [0, 1, 2] rfl ?_
  refine v_aload_n C dX4_numberWithin_0 rfl rfl ?_
  refine gf_X4_52 C dX4_numberWithin_1 ?_
  refine v_iconst (v := 3) C dX4_numberWithin_4 (by decide) ?_
  refine v_icmp_eq (tgt := 15) C dX4_numberWithin_5 (by decide) (fun h10 => ?_) (fun h10 => ?_)
  · replace hf := bs_pos h10 hf
    refine v_iconst (v := 0) C dX4_numberWithin_15 (by decide) ?_
    refine v_istore_n (lv' := [(3, .int (0 : Int32)), (0, .ref (ρ 13 1 0)), (1, .int a1), (2, .int a2)]) C dX4_numberWithin_16 rfl (by decide) rfl ?_
    refine v_aload_n C dX4_numberWithin_17 rfl rfl ?_
    refine gf_X4_141 C dX4_numberWithin_18 ?_
    refine v_istore (lv' := [(4, .int (X 13 1 0 6)), (3, .int (0 : Int32)), (0, .ref (ρ 13 1 0)), (1, .int a1), (2, .int a2)]) C dX4_numberWithin_21 (by decide) rfl ?_
    refine v_sub [2, 3, 4, 1, 0] rfl ?_
    exact wX4_numberWithin_23   C  bsF _ _ _ _ _  hf
  · replace hf := bs_neg h10 hf
    refine v_aload_n C dX4_numberWithin_8 rfl rfl ?_
    refine v_iconst (v := 1) C dX4_numberWithin_9 (by decide) ?_
    obtain ⟨r8, hc9, hf⟩ := bs_bind hf
    refine v_callVv (y := yX4_fail) (As := [.int (1 : Int32)]) (rest := []) C (cX4_fail_ok  hc9) ml_X4_61 wyX4_fail (bsm_X4) (bsc_X4) rfl dpX4_fail ⟨Nat.le_of_ble_eq_true rfl, Nat.le_of_ble_eq_true rfl⟩ ⟨rfl, rfl⟩ ⟨Nat.le_of_ble_eq_true rfl, Nat.le_of_ble_eq_true rfl⟩ rfl (Nat.le_of_ble_eq_true rfl) dX4_numberWithin_10 ?_
    refine v_iconst (v := -1) C dX4_numberWithin_13 (by decide) ?_
    exact v_iret C hf dX4_numberWithin_14
/-! BootSlots$Parser.takeNumber(II)I -/
def fX4_takeNumber (a1 : Int32) (a2 : Int32) (X : bsX) : Option (Int32 × bsX) := (fX4_numberWithin  a1 a2 X).bind fun r1 => (fX4_readToken   r1.2).bind fun r3 => some (r1.1, r3)
abbrev rmX4_takeNumber : Room := { frames := 2, cells := 0, slots := 0, locals := 45 }
set_option maxHeartbeats 4000000 in
set_option maxRecDepth 100000 in
theorem cX4_takeNumber_ok {l : Launch} {ρ : bsR} {cA : Nat → ClassId} {dC : Nat → ClassId} {dI : Nat → Nat → Nat} {Rz : va_W}  {a1 : Int32} {a2 : Int32} {X : bsX} {z : (Int32 × bsX)} (hf : fX4_takeNumber a1 a2 X = some z) : bsMi l yX4_takeNumber cX4_takeNumber 4 (some .int) rmX4_takeNumber ρ cA dC dI Rz [.ref (ρ 13 1 0), .int a1, .int a2] X z := by
  refine bsMi_of (by decide) (Nat.le_of_ble_eq_true rfl) (fun p e s m args below meth c C => ?_)
  have C : bsCx p m c cX4_takeNumber 4 s args (Cond.code yX4_takeNumber cX4_takeNumber 4 (some .int) :: bsG) RX4 ρ cA dC dI Rz meth (some .int) := C
  rw [fX4_takeNumber] at hf
  refine v_sub [0, 1, 2] rfl ?_
  refine v_aload_n C dX4_takeNumber_0 rfl rfl ?_
  refine v_iload_n C dX4_takeNumber_1 rfl rfl ?_
  refine v_iload_n C dX4_takeNumber_2 rfl rfl ?_
  obtain ⟨r1, hc2, hf⟩ := bs_bind hf
  refine v_callVi (y := yX4_numberWithin) (As := [.int a1, .int a2]) (rest := []) C (cX4_numberWithin_ok  hc2) ml_X4_102 wyX4_numberWithin (bsm_X4) (bsc_X4) rfl dpX4_numberWithin ⟨Nat.le_of_ble_eq_true rfl, Nat.le_of_ble_eq_true rfl⟩ ⟨rfl, rfl⟩ ⟨Nat.le_of_ble_eq_true rfl, Nat.le_of_ble_eq_true rfl⟩ rfl (Nat.le_of_ble_eq_true rfl) dX4_takeNumber_3 ?_
  refine v_istore_n (lv' := [(3, .int r1.1), (0, .ref (ρ 13 1 0)), (1, .int a1), (2, .int a2)]) C dX4_takeNumber_6 rfl (by decide) rfl ?_
  refine v_aload_n C dX4_takeNumber_7 rfl rfl ?_
  obtain ⟨r3, hc4, hf⟩ := bs_bind hf
  refine v_callVv (y := yX4_readToken) (As := []) (rest := []) C (cX4_readToken_ok  hc4) ml_X4_46 wyX4_readToken (bsm_X4) (bsc_X4) rfl dpX4_readToken ⟨Nat.le_of_ble_eq_true rfl, Nat.le_of_ble_eq_true rfl⟩ ⟨rfl, rfl⟩ ⟨Nat.le_of_ble_eq_true rfl, Nat.le_of_ble_eq_true rfl⟩ rfl (Nat.le_of_ble_eq_true rfl) dX4_takeNumber_8 ?_
  refine v_iload_n C dX4_takeNumber_11 rfl rfl ?_
  exact v_iret C hf dX4_takeNumber_12
/-! BootSlots$Parser.readFirstLine(LBootSlots$Machine;)V -/
def fX4_readFirstLine_14 (g : Nat) (X : bsX) : Option bsX := (fX4_readToken   X).bind fun r1 => (fX4_takeNumber  (1 : Int32) (99 : Int32) r1).bind fun r3 => (fX4_takeNumber  (1 : Int32) (9 : Int32) (bsWr r3.2 g 0 0 5 r3.1)).bind fun r5 => (fX4_takeNumber  (0 : Int32) (7 : Int32) (bsWr r5.2 g 0 0 6 r5.1)).bind fun r7 => (fX4_takeNumber  (0 : Int32) (99 : Int32) (bsWr r7.2 g 0 0 7 r7.1)).bind fun r9 => some (bsWr r9.2 g 0 0 8 r9.1)
def fX4_readFirstLine (g : Nat) (X : bsX) : Option bsX := (fX4_isWord 0  X).bind fun r11 => if r11.1 = 0 then ((fX4_fail  (1 : Int32) r11.2).bind fun r13 => fX4_readFirstLine_14 g   r13) else (fX4_readFirstLine_14 g   r11.2)
abbrev rmX4_readFirstLine : Room := { frames := 5, cells := 0, slots := 0, locals := 107 }
set_option maxHeartbeats 4000000 in
set_option maxRecDepth 100000 in
theorem wX4_readFirstLine_14 {p : Program} {l : Launch} {e : Env} {s : State} {m : MethodId} {args : Array Value} {below : List Frame} {meth : Method} {c : Code} {ρ : bsR} {cA : Nat → ClassId} {dC : Nat → ClassId} {dI : Nat → Nat → Nat} {Rz : va_W} {Ts : List Cond} {g : Nat} (hg : g < 13)  {z : bsX} (C : bsCx p m c cX4_readFirstLine 2 s args Ts RX4 ρ cA dC dI Rz meth none) (X : bsX) (hf : fX4_readFirstLine_14 g X = some z) : bsV p l e rmX4_readFirstLine s m args below meth c 0 0 (MQ below (bsQv ρ cA dC dI Rz z s.heap.size) args s 0 0 (bsA ρ cA Rz s.heap.size)) ρ cA dC dI Rz 2 14 [(0, .ref (ρ 13 1 0)), (1, .ref (ρ g 0 0))] [] X := by
  rw [fX4_readFirstLine_14] at hf
  refine v_aload_n C dX4_readFirstLine_14 rfl rfl ?_
  obtain ⟨r1, hc2, hf⟩ := bs_bind hf
  refine v_callVv (y := yX4_readToken) (As := []) (rest := []) C (cX4_readToken_ok  hc2) ml_X4_46 wyX4_readToken (bsm_X4) (bsc_X4) rfl dpX4_readToken ⟨Nat.le_of_ble_eq_true rfl, Nat.le_of_ble_eq_true rfl⟩ ⟨rfl, rfl⟩ ⟨Nat.le_of_ble_eq_true rfl, Nat.le_of_ble_eq_true rfl⟩ rfl (Nat.le_of_ble_eq_true rfl) dX4_readFirstLine_15 ?_
  refine v_aload_n C dX4_readFirstLine_18 rfl rfl ?_
  refine v_aload_n C dX4_readFirstLine_19 rfl rfl ?_
  refine v_iconst (v := 1) C dX4_readFirstLine_20 (by decide) ?_
  refine v_bipush (v := 99) C dX4_readFirstLine_21 (by decide) ?_
  obtain ⟨r3, hc4, hf⟩ := bs_bind hf
  refine v_callVi (y := yX4_takeNumber) (As := [.int (1 : Int32), .int (99 : Int32)]) (rest := [.ref (ρ g 0 0)]) C (cX4_takeNumber_ok  hc4) ml_X4_71 wyX4_takeNumber (bsm_X4) (bsc_X4) rfl dpX4_takeNumber ⟨Nat.le_of_ble_eq_true rfl, Nat.le_of_ble_eq_true rfl⟩ ⟨rfl, rfl⟩ ⟨Nat.le_of_ble_eq_true rfl, Nat.le_of_ble_eq_true rfl⟩ rfl (Nat.le_of_ble_eq_true rfl) dX4_readFirstLine_23 ?_
  refine pf_X4_75 C hg dX4_readFirstLine_26 ?_
  refine v_aload_n C dX4_readFirstLine_29 rfl rfl ?_
  refine v_aload_n C dX4_readFirstLine_30 rfl rfl ?_
  refine v_iconst (v := 1) C dX4_readFirstLine_31 (by decide) ?_
  refine v_bipush (v := 9) C dX4_readFirstLine_32 (by decide) ?_
  obtain ⟨r5, hc6, hf⟩ := bs_bind hf
  refine v_callVi (y := yX4_takeNumber) (As := [.int (1 : Int32), .int (9 : Int32)]) (rest := [.ref (ρ g 0 0)]) C (cX4_takeNumber_ok  hc6) ml_X4_71 wyX4_takeNumber (bsm_X4) (bsc_X4) rfl dpX4_takeNumber ⟨Nat.le_of_ble_eq_true rfl, Nat.le_of_ble_eq_true rfl⟩ ⟨rfl, rfl⟩ ⟨Nat.le_of_ble_eq_true rfl, Nat.le_of_ble_eq_true rfl⟩ rfl (Nat.le_of_ble_eq_true rfl) dX4_readFirstLine_34 ?_
  refine pf_X4_78 C hg dX4_readFirstLine_37 ?_
  refine v_aload_n C dX4_readFirstLine_40 rfl rfl ?_
  refine v_aload_n C dX4_readFirstLine_41 rfl rfl ?_
  refine v_iconst (v := 0) C dX4_readFirstLine_42 (by decide) ?_
  refine v_bipush (v := 7) C dX4_readFirstLine_43 (by decide) ?_
  obtain ⟨r7, hc8, hf⟩ := bs_bind hf
  refine v_callVi (y := yX4_takeNumber) (As := [.int (0 : Int32), .int (7 : Int32)]) (rest := [.ref (ρ g 0 0)]) C (cX4_takeNumber_ok  hc8) ml_X4_71 wyX4_takeNumber (bsm_X4) (bsc_X4) rfl dpX4_takeNumber ⟨Nat.le_of_ble_eq_true rfl, Nat.le_of_ble_eq_true rfl⟩ ⟨rfl, rfl⟩ ⟨Nat.le_of_ble_eq_true rfl, Nat.le_of_ble_eq_true rfl⟩ rfl (Nat.le_of_ble_eq_true rfl) dX4_readFirstLine_45 ?_
  refine pf_X4_81 C hg dX4_readFirstLine_48 ?_
  refine v_aload_n C dX4_readFirstLine_51 rfl rfl ?_
  refine v_aload_n C dX4_readFirstLine_52 rfl rfl ?_
  refine v_iconst (v := 0) C dX4_readFirstLine_53 (by decide) ?_
  refine v_bipush (v := 99) C dX4_readFirstLine_54 (by decide) ?_
  obtain ⟨r9, hc10, hf⟩ := bs_bind hf
  refine v_callVi (y := yX4_takeNumber) (As := [.int (0 : Int32), .int (99 : Int32)]) (rest := [.ref (ρ g 0 0)]) C (cX4_takeNumber_ok  hc10) ml_X4_71 wyX4_takeNumber (bsm_X4) (bsc_X4) rfl dpX4_takeNumber ⟨Nat.le_of_ble_eq_true rfl, Nat.le_of_ble_eq_true rfl⟩ ⟨rfl, rfl⟩ ⟨Nat.le_of_ble_eq_true rfl, Nat.le_of_ble_eq_true rfl⟩ rfl (Nat.le_of_ble_eq_true rfl) dX4_readFirstLine_56 ?_
  refine pf_X4_84 C hg dX4_readFirstLine_59 ?_
  exact v_vret C hf dX4_readFirstLine_62
set_option maxHeartbeats 4000000 in
set_option maxRecDepth 100000 in
theorem cX4_readFirstLine_ok {l : Launch} {ρ : bsR} {cA : Nat → ClassId} {dC : Nat → ClassId} {dI : Nat → Nat → Nat} {Rz : va_W} {g : Nat} (hg : g < 13) {X : bsX} {z : bsX} (hf : fX4_readFirstLine g X = some z) : bsMv l yX4_readFirstLine cX4_readFirstLine 2 none rmX4_readFirstLine ρ cA dC dI Rz [.ref (ρ 13 1 0), .ref (ρ g 0 0)] X z := by
  refine bsMv_of (by decide) (Nat.le_of_ble_eq_true rfl) (fun p e s m args below meth c C => ?_)
  have C : bsCx p m c cX4_readFirstLine 2 s args (Cond.code yX4_readFirstLine cX4_readFirstLine 2 none :: bsG) RX4 ρ cA dC dI Rz meth none := C
  rw [fX4_readFirstLine] at hf
  refine v_sub [0, 1] rfl ?_
  refine v_aload_n C dX4_readFirstLine_0 rfl rfl ?_
  refine v_ldcS (tx := "machine") (t := 0) C (by decide +kernel) dX4_readFirstLine_1 ?_
  obtain ⟨r11, hc12, hf⟩ := bs_bind hf
  refine v_callVi (y := yX4_isWord) (As := [.ref (ρ 16 0 0)]) (rest := []) C (cX4_isWord_ok (by decide) hc12) ml_X4_67 wyX4_isWord (bsm_X4) (bsc_X4) rfl dpX4_isWord ⟨Nat.le_of_ble_eq_true rfl, Nat.le_of_ble_eq_true rfl⟩ ⟨rfl, rfl⟩ ⟨Nat.le_of_ble_eq_true rfl, Nat.le_of_ble_eq_true rfl⟩ rfl (Nat.le_of_ble_eq_true rfl) dX4_readFirstLine_3 ?_
  refine v_if_ne (tgt := 14) C dX4_readFirstLine_6 (by decide) (fun h15 => ?_) (fun h15 => ?_)
  · replace hf := bs_neg h15 hf
    refine v_sub [0, 1] rfl ?_
    exact wX4_readFirstLine_14 hg  C  _  hf
  · replace hf := bs_pos h15 hf
    refine v_aload_n C dX4_readFirstLine_9 rfl rfl ?_
    refine v_iconst (v := 1) C dX4_readFirstLine_10 (by decide) ?_
    obtain ⟨r13, hc14, hf⟩ := bs_bind hf
    refine v_callVv (y := yX4_fail) (As := [.int (1 : Int32)]) (rest := []) C (cX4_fail_ok  hc14) ml_X4_61 wyX4_fail (bsm_X4) (bsc_X4) rfl dpX4_fail ⟨Nat.le_of_ble_eq_true rfl, Nat.le_of_ble_eq_true rfl⟩ ⟨rfl, rfl⟩ ⟨Nat.le_of_ble_eq_true rfl, Nat.le_of_ble_eq_true rfl⟩ rfl (Nat.le_of_ble_eq_true rfl) dX4_readFirstLine_11 ?_
    refine v_sub [0, 1] rfl ?_
    exact wX4_readFirstLine_14 hg  C  _  hf
/-! BootSlots$Parser.readSlotLine(LBootSlots$Machine;)V -/
def fX4_readSlotLine (g : Nat) (X : bsX) : Option bsX := if (X g 0 0 4) < (6 : Int32) then ((fX4_readToken   (bsWr X g 0 0 4 ((X g 0 0 4) + (1 : Int32)))).bind fun r1 => some r1) else ((fX4_fail  (5 : Int32) X).bind fun r3 => some r3)
abbrev rmX4_readSlotLine : Room := { frames := 2, cells := 0, slots := 0, locals := 43 }
set_option maxHeartbeats 4000000 in
set_option maxRecDepth 100000 in
theorem cX4_readSlotLine_ok {l : Launch} {ρ : bsR} {cA : Nat → ClassId} {dC : Nat → ClassId} {dI : Nat → Nat → Nat} {Rz : va_W} {g : Nat} (hg : g < 13) {X : bsX} {z : bsX} (hf : fX4_readSlotLine g X = some z) : bsMv l yX4_readSlotLine cX4_readSlotLine 2 none rmX4_readSlotLine ρ cA dC dI Rz [.ref (ρ 13 1 0), .ref (ρ g 0 0)] X z := by
  refine bsMv_of (by decide) (Nat.le_of_ble_eq_true rfl) (fun p e s m args below meth c C => ?_)
  have C : bsCx p m c cX4_readSlotLine 2 s args (Cond.code yX4_readSlotLine cX4_readSlotLine 2 none :: bsG) RX4 ρ cA dC dI Rz meth none := C
  rw [fX4_readSlotLine] at hf
  refine v_sub [0, 1] rfl ?_
  refine v_aload_n C dX4_readSlotLine_0 rfl rfl ?_
  refine gf_X4_58 C hg dX4_readSlotLine_1 ?_
  refine v_bipush (v := 6) C dX4_readSlotLine_4 (by decide) ?_
  refine v_icmp_lt (tgt := 15) C dX4_readSlotLine_6 (by decide) (fun h5 => ?_) (fun h5 => ?_)
  · replace hf := bs_pos h5 hf
    refine v_aload_n C dX4_readSlotLine_15 rfl rfl ?_
    refine v_dup C dX4_readSlotLine_16 rfl ?_
    refine gf_X4_58 C hg dX4_readSlotLine_17 ?_
    refine v_iconst (v := 1) C dX4_readSlotLine_20 (by decide) ?_
    refine v_iadd C dX4_readSlotLine_21 ?_
    refine pf_X4_58 C hg dX4_readSlotLine_22 ?_
    refine v_aload_n C dX4_readSlotLine_25 rfl rfl ?_
    obtain ⟨r1, hc2, hf⟩ := bs_bind hf
    refine v_callVv (y := yX4_readToken) (As := []) (rest := []) C (cX4_readToken_ok  hc2) ml_X4_46 wyX4_readToken (bsm_X4) (bsc_X4) rfl dpX4_readToken ⟨Nat.le_of_ble_eq_true rfl, Nat.le_of_ble_eq_true rfl⟩ ⟨rfl, rfl⟩ ⟨Nat.le_of_ble_eq_true rfl, Nat.le_of_ble_eq_true rfl⟩ rfl (Nat.le_of_ble_eq_true rfl) dX4_readSlotLine_26 ?_
    exact v_vret C hf dX4_readSlotLine_29
  · replace hf := bs_neg h5 hf
    refine v_aload_n C dX4_readSlotLine_9 rfl rfl ?_
    refine v_iconst (v := 5) C dX4_readSlotLine_10 (by decide) ?_
    obtain ⟨r3, hc4, hf⟩ := bs_bind hf
    refine v_callVv (y := yX4_fail) (As := [.int (5 : Int32)]) (rest := []) C (cX4_fail_ok  hc4) ml_X4_61 wyX4_fail (bsm_X4) (bsc_X4) rfl dpX4_fail ⟨Nat.le_of_ble_eq_true rfl, Nat.le_of_ble_eq_true rfl⟩ ⟨rfl, rfl⟩ ⟨Nat.le_of_ble_eq_true rfl, Nat.le_of_ble_eq_true rfl⟩ rfl (Nat.le_of_ble_eq_true rfl) dX4_readSlotLine_11 ?_
    exact v_vret C hf dX4_readSlotLine_14
/-! BootSlots$Parser.takeIfWord(Ljava/lang/String;)Z -/
def fX4_takeIfWord (t1 : Nat) (X : bsX) : Option (Int32 × bsX) := (fX4_isWord t1  X).bind fun r1 => if r1.1 = 0 then (if r1.1 = 0 ∨ r1.1 = 1 then (some (r1.1, r1.2)) else none) else ((fX4_readToken   r1.2).bind fun r4 => if r1.1 = 0 ∨ r1.1 = 1 then (some (r1.1, r4)) else none)
abbrev rmX4_takeIfWord : Room := { frames := 5, cells := 0, slots := 0, locals := 107 }
set_option maxHeartbeats 4000000 in
set_option maxRecDepth 100000 in
theorem cX4_takeIfWord_ok {l : Launch} {ρ : bsR} {cA : Nat → ClassId} {dC : Nat → ClassId} {dI : Nat → Nat → Nat} {Rz : va_W} {t1 : Nat} (ht1 : t1 < 22) {X : bsX} {z : (Int32 × bsX)} (hf : fX4_takeIfWord t1 X = some z) : bsMi l yX4_takeIfWord cX4_takeIfWord 3 (some .boolean) rmX4_takeIfWord ρ cA dC dI Rz [.ref (ρ 13 1 0), .ref (ρ 16 0 t1)] X z := by
  refine bsMi_of (by decide) (Nat.le_of_ble_eq_true rfl) (fun p e s m args below meth c C => ?_)
  have C : bsCx p m c cX4_takeIfWord 3 s args (Cond.code yX4_takeIfWord cX4_takeIfWord 3 (some .boolean) :: bsG) RX4 ρ cA dC dI Rz meth (some .boolean) := C
  rw [fX4_takeIfWord] at hf
  refine v_sub [0, 1] rfl ?_
  refine v_aload_n C dX4_takeIfWord_0 rfl rfl ?_
  refine v_aload_n C dX4_takeIfWord_1 rfl rfl ?_
  obtain ⟨r1, hc2, hf⟩ := bs_bind hf
  refine v_callVi (y := yX4_isWord) (As := [.ref (ρ 16 0 t1)]) (rest := []) C (cX4_isWord_ok ht1 hc2) ml_X4_67 wyX4_isWord (bsm_X4) (bsc_X4) rfl dpX4_isWord ⟨Nat.le_of_ble_eq_true rfl, Nat.le_of_ble_eq_true rfl⟩ ⟨rfl, rfl⟩ ⟨Nat.le_of_ble_eq_true rfl, Nat.le_of_ble_eq_true rfl⟩ rfl (Nat.le_of_ble_eq_true rfl) dX4_takeIfWord_2 ?_
  refine v_istore_n (lv' := [(2, .int r1.1), (0, .ref (ρ 13 1 0)), (1, .ref (ρ 16 0 t1))]) C dX4_takeIfWord_5 rfl (by decide) rfl ?_
  refine v_iload_n C dX4_takeIfWord_6 rfl rfl ?_
  refine v_if_eq (tgt := 14) C dX4_takeIfWord_7 (by decide) (fun h7 => ?_) (fun h7 => ?_)
  · replace hf := bs_pos h7 hf
    refine v_iload_n C dX4_takeIfWord_14 rfl rfl ?_
    obtain ⟨hb3, hf⟩ := bs_if hf
    exact v_zret C (bsZ01 hb3).1 hf dX4_takeIfWord_15
  · replace hf := bs_neg h7 hf
    refine v_aload_n C dX4_takeIfWord_10 rfl rfl ?_
    obtain ⟨r4, hc5, hf⟩ := bs_bind hf
    refine v_callVv (y := yX4_readToken) (As := []) (rest := []) C (cX4_readToken_ok  hc5) ml_X4_46 wyX4_readToken (bsm_X4) (bsc_X4) rfl dpX4_readToken ⟨Nat.le_of_ble_eq_true rfl, Nat.le_of_ble_eq_true rfl⟩ ⟨rfl, rfl⟩ ⟨Nat.le_of_ble_eq_true rfl, Nat.le_of_ble_eq_true rfl⟩ rfl (Nat.le_of_ble_eq_true rfl) dX4_takeIfWord_11 ?_
    refine v_iload_n C dX4_takeIfWord_14 rfl rfl ?_
    obtain ⟨hb6, hf⟩ := bs_if hf
    exact v_zret C (bsZ01 hb6).1 hf dX4_takeIfWord_15
/-! BootSlots$Parser.readImageLine(LBootSlots$Machine;)V -/
def fX4_readImageLine_49 (g : Nat) (q3 : Nat) (X : bsX) : Option bsX := (fX4_readToken   X).bind fun r1 => (fX4_takeNumber  (0 : Int32) (99 : Int32) r1).bind fun r3 => (fX4_takeNumber  (1 : Int32) (99 : Int32) r3.2).bind fun r5 => (fX4_takeNumber  (0 : Int32) (99 : Int32) r5.2).bind fun r7 => (fX1_set g q3 r3.1 r5.1 r7.1 r7.2).bind fun r9 => (fX4_takeIfWord 3  r9).bind fun r11 => if r11.1 = 0 ∨ r11.1 = 1 then ((fX4_takeIfWord 4  (bsWr r11.2 g 6 q3 4 r11.1)).bind fun r14 => if r14.1 = 0 ∨ r14.1 = 1 then ((fX5_setMark g q3 (1 : Int32) (1 : Int32) (0 : Int32) (bsWr r14.2 g 6 q3 5 r14.1)).bind fun r17 => some r17) else none) else none
def fX4_readImageLine (g : Nat) (X : bsX) : Option bsX := (fX4_readToken   X).bind fun r19 => (fX4_numberWithin  (0 : Int32) ((r19 g 0 0 4) - (1 : Int32)) r19).bind fun r21 => if r21.1 < 0 then (some r21.2) else (if r21.1 < (6 : Int32) then (if bsIn r21.1 6 then (if (r21.2 g 6 (bsIx r21.1) 0) = 0 then (fX4_readImageLine_49 g  (bsIx r21.1) r21.2) else ((fX4_fail  (3 : Int32) r21.2).bind fun r24 => fX4_readImageLine_49 g  (bsIx r21.1) r24)) else none) else (some r21.2))
abbrev rmX4_readImageLine : Room := { frames := 6, cells := 0, slots := 0, locals := 129 }
set_option maxHeartbeats 4000000 in
set_option maxRecDepth 100000 in
theorem wX4_readImageLine_49 {p : Program} {l : Launch} {e : Env} {s : State} {m : MethodId} {args : Array Value} {below : List Frame} {meth : Method} {c : Code} {ρ : bsR} {cA : Nat → ClassId} {dC : Nat → ClassId} {dI : Nat → Nat → Nat} {Rz : va_W} {Ts : List Cond} {g : Nat} (hg : g < 13)  {z : bsX} (C : bsCx p m c cX4_readImageLine 7 s args Ts RX4 ρ cA dC dI Rz meth none) (q3 : Nat) (X : bsX) (hq3 : q3 < 6) (hf : fX4_readImageLine_49 g q3 X = some z) : bsV p l e rmX4_readImageLine s m args below meth c 0 0 (MQ below (bsQv ρ cA dC dI Rz z s.heap.size) args s 0 0 (bsA ρ cA Rz s.heap.size)) ρ cA dC dI Rz 7 49 [(0, .ref (ρ 13 1 0)), (3, .ref (ρ g 5 q3))] [] X := by
  rw [fX4_readImageLine_49] at hf
  refine v_aload_n C dX4_readImageLine_49 rfl rfl ?_
  obtain ⟨r1, hc2, hf⟩ := bs_bind hf
  refine v_callVv (y := yX4_readToken) (As := []) (rest := []) C (cX4_readToken_ok  hc2) ml_X4_46 wyX4_readToken (bsm_X4) (bsc_X4) rfl dpX4_readToken ⟨Nat.le_of_ble_eq_true rfl, Nat.le_of_ble_eq_true rfl⟩ ⟨rfl, rfl⟩ ⟨Nat.le_of_ble_eq_true rfl, Nat.le_of_ble_eq_true rfl⟩ rfl (Nat.le_of_ble_eq_true rfl) dX4_readImageLine_50 ?_
  refine v_aload_n C dX4_readImageLine_53 rfl rfl ?_
  refine v_iconst (v := 0) C dX4_readImageLine_54 (by decide) ?_
  refine v_bipush (v := 99) C dX4_readImageLine_55 (by decide) ?_
  obtain ⟨r3, hc4, hf⟩ := bs_bind hf
  refine v_callVi (y := yX4_takeNumber) (As := [.int (0 : Int32), .int (99 : Int32)]) (rest := []) C (cX4_takeNumber_ok  hc4) ml_X4_71 wyX4_takeNumber (bsm_X4) (bsc_X4) rfl dpX4_takeNumber ⟨Nat.le_of_ble_eq_true rfl, Nat.le_of_ble_eq_true rfl⟩ ⟨rfl, rfl⟩ ⟨Nat.le_of_ble_eq_true rfl, Nat.le_of_ble_eq_true rfl⟩ rfl (Nat.le_of_ble_eq_true rfl) dX4_readImageLine_57 ?_
  refine v_istore (lv' := [(4, .int r3.1), (0, .ref (ρ 13 1 0)), (3, .ref (ρ g 5 q3))]) C dX4_readImageLine_60 (by decide) rfl ?_
  refine v_aload_n C dX4_readImageLine_62 rfl rfl ?_
  refine v_iconst (v := 1) C dX4_readImageLine_63 (by decide) ?_
  refine v_bipush (v := 99) C dX4_readImageLine_64 (by decide) ?_
  obtain ⟨r5, hc6, hf⟩ := bs_bind hf
  refine v_callVi (y := yX4_takeNumber) (As := [.int (1 : Int32), .int (99 : Int32)]) (rest := []) C (cX4_takeNumber_ok  hc6) ml_X4_71 wyX4_takeNumber (bsm_X4) (bsc_X4) rfl dpX4_takeNumber ⟨Nat.le_of_ble_eq_true rfl, Nat.le_of_ble_eq_true rfl⟩ ⟨rfl, rfl⟩ ⟨Nat.le_of_ble_eq_true rfl, Nat.le_of_ble_eq_true rfl⟩ rfl (Nat.le_of_ble_eq_true rfl) dX4_readImageLine_66 ?_
  refine v_istore (lv' := [(5, .int r5.1), (4, .int r3.1), (0, .ref (ρ 13 1 0)), (3, .ref (ρ g 5 q3))]) C dX4_readImageLine_69 (by decide) rfl ?_
  refine v_aload_n C dX4_readImageLine_71 rfl rfl ?_
  refine v_iconst (v := 0) C dX4_readImageLine_72 (by decide) ?_
  refine v_bipush (v := 99) C dX4_readImageLine_73 (by decide) ?_
  obtain ⟨r7, hc8, hf⟩ := bs_bind hf
  refine v_callVi (y := yX4_takeNumber) (As := [.int (0 : Int32), .int (99 : Int32)]) (rest := []) C (cX4_takeNumber_ok  hc8) ml_X4_71 wyX4_takeNumber (bsm_X4) (bsc_X4) rfl dpX4_takeNumber ⟨Nat.le_of_ble_eq_true rfl, Nat.le_of_ble_eq_true rfl⟩ ⟨rfl, rfl⟩ ⟨Nat.le_of_ble_eq_true rfl, Nat.le_of_ble_eq_true rfl⟩ rfl (Nat.le_of_ble_eq_true rfl) dX4_readImageLine_75 ?_
  refine v_istore (lv' := [(6, .int r7.1), (5, .int r5.1), (4, .int r3.1), (0, .ref (ρ 13 1 0)), (3, .ref (ρ g 5 q3))]) C dX4_readImageLine_78 (by decide) rfl ?_
  refine v_aload_n C dX4_readImageLine_80 rfl rfl ?_
  refine gf_X4_109 C hg hq3 dX4_readImageLine_81 ?_
  refine v_iload C dX4_readImageLine_84 rfl ?_
  refine v_iload C dX4_readImageLine_86 rfl ?_
  refine v_iload C dX4_readImageLine_88 rfl ?_
  obtain ⟨r9, hc10, hf⟩ := bs_bind hf
  refine v_callVv (y := yX1_set) (As := [.int r3.1, .int r5.1, .int r7.1]) (rest := []) C (cX1_set_ok hg (Nat.lt_succ_of_lt hq3) hc10) ml_X4_120 wyX1_set (bsm_X1 hg (Nat.lt_succ_of_lt hq3)) (bsc_X1 hg) rfl dpX1_set ⟨Nat.le_of_ble_eq_true rfl, Nat.le_of_ble_eq_true rfl⟩ ⟨rfl, rfl⟩ ⟨Nat.le_of_ble_eq_true rfl, Nat.le_of_ble_eq_true rfl⟩ rfl (Nat.le_of_ble_eq_true rfl) dX4_readImageLine_90 ?_
  refine v_aload_n C dX4_readImageLine_93 rfl rfl ?_
  refine gf_X4_109 C hg hq3 dX4_readImageLine_94 ?_
  refine v_aload_n C dX4_readImageLine_97 rfl rfl ?_
  refine v_ldcS (tx := "unsigned") (t := 3) C (by decide +kernel) dX4_readImageLine_98 ?_
  obtain ⟨r11, hc12, hf⟩ := bs_bind hf
  refine v_callVi (y := yX4_takeIfWord) (As := [.ref (ρ 16 0 3)]) (rest := [.ref (ρ g 6 q3)]) C (cX4_takeIfWord_ok (by decide) hc12) ml_X4_126 wyX4_takeIfWord (bsm_X4) (bsc_X4) rfl dpX4_takeIfWord ⟨Nat.le_of_ble_eq_true rfl, Nat.le_of_ble_eq_true rfl⟩ ⟨rfl, rfl⟩ ⟨Nat.le_of_ble_eq_true rfl, Nat.le_of_ble_eq_true rfl⟩ rfl (Nat.le_of_ble_eq_true rfl) dX4_readImageLine_100 ?_
  obtain ⟨hb13, hf⟩ := bs_if hf
  refine pf_X4_129 C hg (Nat.lt_succ_of_lt hq3) hb13 dX4_readImageLine_103 ?_
  refine v_aload_n C dX4_readImageLine_106 rfl rfl ?_
  refine gf_X4_109 C hg hq3 dX4_readImageLine_107 ?_
  refine v_aload_n C dX4_readImageLine_110 rfl rfl ?_
  refine v_ldcS (tx := "damaged") (t := 4) C (by decide +kernel) dX4_readImageLine_111 ?_
  obtain ⟨r14, hc15, hf⟩ := bs_bind hf
  refine v_callVi (y := yX4_takeIfWord) (As := [.ref (ρ 16 0 4)]) (rest := [.ref (ρ g 6 q3)]) C (cX4_takeIfWord_ok (by decide) hc15) ml_X4_126 wyX4_takeIfWord (bsm_X4) (bsc_X4) rfl dpX4_takeIfWord ⟨Nat.le_of_ble_eq_true rfl, Nat.le_of_ble_eq_true rfl⟩ ⟨rfl, rfl⟩ ⟨Nat.le_of_ble_eq_true rfl, Nat.le_of_ble_eq_true rfl⟩ rfl (Nat.le_of_ble_eq_true rfl) dX4_readImageLine_113 ?_
  obtain ⟨hb16, hf⟩ := bs_if hf
  refine pf_X4_133 C hg (Nat.lt_succ_of_lt hq3) hb16 dX4_readImageLine_116 ?_
  refine v_aload_n C dX4_readImageLine_119 rfl rfl ?_
  refine v_iconst (v := 1) C dX4_readImageLine_120 (by decide) ?_
  refine v_iconst (v := 1) C dX4_readImageLine_121 (by decide) ?_
  refine v_iconst (v := 0) C dX4_readImageLine_122 (by decide) ?_
  obtain ⟨r17, hc18, hf⟩ := bs_bind hf
  refine v_callVv (y := yX5_setMark) (As := [.int (1 : Int32), .int (1 : Int32), .int (0 : Int32)]) (rest := []) C (cX5_setMark_ok hg hq3 hc18) ml_X4_135 wyX5_setMark (bsm_X5 hg hq3) (bsc_X5 hg) rfl dpX5_setMark ⟨Nat.le_of_ble_eq_true rfl, Nat.le_of_ble_eq_true rfl⟩ ⟨rfl, rfl⟩ ⟨Nat.le_of_ble_eq_true rfl, Nat.le_of_ble_eq_true rfl⟩ rfl (Nat.le_of_ble_eq_true rfl) dX4_readImageLine_123 ?_
  exact v_vret C hf dX4_readImageLine_126
set_option maxHeartbeats 4000000 in
set_option maxRecDepth 100000 in
theorem cX4_readImageLine_ok {l : Launch} {ρ : bsR} {cA : Nat → ClassId} {dC : Nat → ClassId} {dI : Nat → Nat → Nat} {Rz : va_W} {g : Nat} (hg : g < 13) {X : bsX} {z : bsX} (hf : fX4_readImageLine g X = some z) : bsMv l yX4_readImageLine cX4_readImageLine 7 none rmX4_readImageLine ρ cA dC dI Rz [.ref (ρ 13 1 0), .ref (ρ g 0 0)] X z := by
  refine bsMv_of (by decide) (Nat.le_of_ble_eq_true rfl) (fun p e s m args below meth c C => ?_)
  have C : bsCx p m c cX4_readImageLine 7 s args (Cond.code yX4_readImageLine cX4_readImageLine 7 none :: bsG) RX4 ρ cA dC dI Rz meth none := C
  rw [fX4_readImageLine] at hf
  refine v_sub [0, 1] rfl ?_
  refine v_aload_n C dX4_readImageLine_0 rfl rfl ?_
  obtain ⟨r19, hc20, hf⟩ := bs_bind hf
  refine v_callVv (y := yX4_readToken) (As := []) (rest := []) C (cX4_readToken_ok  hc20) ml_X4_46 wyX4_readToken (bsm_X4) (bsc_X4) rfl dpX4_readToken ⟨Nat.le_of_ble_eq_true rfl, Nat.le_of_ble_eq_true rfl⟩ ⟨rfl, rfl⟩ ⟨Nat.le_of_ble_eq_true rfl, Nat.le_of_ble_eq_true rfl⟩ rfl (Nat.le_of_ble_eq_true rfl) dX4_readImageLine_1 ?_
  refine v_aload_n C dX4_readImageLine_4 rfl rfl ?_
  refine v_iconst (v := 0) C dX4_readImageLine_5 (by decide) ?_
  refine v_aload_n C dX4_readImageLine_6 rfl rfl ?_
  refine gf_X4_58 C hg dX4_readImageLine_7 ?_
  refine v_iconst (v := 1) C dX4_readImageLine_10 (by decide) ?_
  refine v_isub C dX4_readImageLine_11 ?_
  obtain ⟨r21, hc22, hf⟩ := bs_bind hf
  refine v_callVi (y := yX4_numberWithin) (As := [.int (0 : Int32), .int ((r19 g 0 0 4) - (1 : Int32))]) (rest := []) C (cX4_numberWithin_ok  hc22) ml_X4_102 wyX4_numberWithin (bsm_X4) (bsc_X4) rfl dpX4_numberWithin ⟨Nat.le_of_ble_eq_true rfl, Nat.le_of_ble_eq_true rfl⟩ ⟨rfl, rfl⟩ ⟨Nat.le_of_ble_eq_true rfl, Nat.le_of_ble_eq_true rfl⟩ rfl (Nat.le_of_ble_eq_true rfl) dX4_readImageLine_12 ?_
  refine v_istore_n (lv' := [(2, .int r21.1), (0, .ref (ρ 13 1 0)), (1, .ref (ρ g 0 0))]) C dX4_readImageLine_15 rfl (by decide) rfl ?_
  refine v_iload_n C dX4_readImageLine_16 rfl rfl ?_
  refine v_if_lt (tgt := 26) C dX4_readImageLine_17 (by decide) (fun h28 => ?_) (fun h28 => ?_)
  · replace hf := bs_pos h28 hf
    exact v_vret C hf dX4_readImageLine_26
  · replace hf := bs_neg h28 hf
    refine v_iload_n C dX4_readImageLine_20 rfl rfl ?_
    refine v_bipush (v := 6) C dX4_readImageLine_21 (by decide) ?_
    refine v_icmp_lt (tgt := 27) C dX4_readImageLine_23 (by decide) (fun h27 => ?_) (fun h27 => ?_)
    · replace hf := bs_pos h27 hf
      refine v_aload_n C dX4_readImageLine_27 rfl rfl ?_
      refine gf_X4_105 C hg dX4_readImageLine_28 ?_
      refine v_iload_n C dX4_readImageLine_31 rfl rfl ?_
      obtain ⟨hi23, hf⟩ := bs_if hf
      refine v_aald (t0 := 3) (n := 6) C (bsm_K1 hg) (bsc_K1 hg) rfl hi23 rfl dX4_readImageLine_32 ?_
      refine v_astore_n (lv' := [(3, .ref (ρ g 5 (bsIx r21.1))), (2, .int r21.1), (0, .ref (ρ 13 1 0)), (1, .ref (ρ g 0 0))]) C dX4_readImageLine_33 rfl (by decide) rfl ?_
      refine v_aload_n C dX4_readImageLine_34 rfl rfl ?_
      refine gf_X4_109 C hg (bsIx_lt hi23) dX4_readImageLine_35 ?_
      refine gf_X4_114 C hg (Nat.lt_succ_of_lt (bsIx_lt hi23)) dX4_readImageLine_38 ?_
      refine v_if_eq (tgt := 49) C dX4_readImageLine_41 (by decide) (fun h26 => ?_) (fun h26 => ?_)
      · replace hf := bs_pos h26 hf
        refine v_sub [2, 0] rfl ?_
        exact wX4_readImageLine_49 hg  C  _ _ (bsIx_lt hi23) hf
      · replace hf := bs_neg h26 hf
        refine v_aload_n C dX4_readImageLine_44 rfl rfl ?_
        refine v_iconst (v := 3) C dX4_readImageLine_45 (by decide) ?_
        obtain ⟨r24, hc25, hf⟩ := bs_bind hf
        refine v_callVv (y := yX4_fail) (As := [.int (3 : Int32)]) (rest := []) C (cX4_fail_ok  hc25) ml_X4_61 wyX4_fail (bsm_X4) (bsc_X4) rfl dpX4_fail ⟨Nat.le_of_ble_eq_true rfl, Nat.le_of_ble_eq_true rfl⟩ ⟨rfl, rfl⟩ ⟨Nat.le_of_ble_eq_true rfl, Nat.le_of_ble_eq_true rfl⟩ rfl (Nat.le_of_ble_eq_true rfl) dX4_readImageLine_46 ?_
        refine v_sub [2, 0] rfl ?_
        exact wX4_readImageLine_49 hg  C  _ _ (bsIx_lt hi23) hf
    · replace hf := bs_neg h27 hf
      exact v_vret C hf dX4_readImageLine_26
/-! BootSlots$Parser.readMarkLine(LBootSlots$Machine;)V -/
def fX4_readMarkLine_63 (g : Nat) (x2 : Int32) (q3 : Nat) (X : bsX) : Option bsX := if bsIn x2 6 then ((fX4_readToken   (bsWr X 13 7 0 (bsIx x2) (vp_nar .boolean (1 : Int32)))).bind fun r5 => (fX4_takeNumber  (0 : Int32) (15 : Int32) r5).bind fun r7 => (fX4_takeNumber  (0 : Int32) (7 : Int32) r7.2).bind fun r9 => (fX4_takeIfWord 6  r9.2).bind fun r11 => (fX5_setMark g q3 r7.1 r9.1 r11.1 r11.2).bind fun r13 => some r13) else none
def fX4_readMarkLine_48 (g : Nat) (x2 : Int32) (q3 : Nat) (X : bsX) : Option bsX := if (X g 6 q3 0) = 0 then ((fX4_fail  (4 : Int32) X).bind fun r1 => fX4_readMarkLine_63 g  x2 q3 r1) else (fX4_readMarkLine_63 g  x2 q3 X)
def fX4_readMarkLine (g : Nat) (X : bsX) : Option bsX := (fX4_readToken   X).bind fun r15 => (fX4_numberWithin  (0 : Int32) ((r15 g 0 0 4) - (1 : Int32)) r15).bind fun r17 => if r17.1 < 0 then (some r17.2) else (if r17.1 < (6 : Int32) then (if bsIn r17.1 6 then (if (r17.2 13 7 0 (bsIx r17.1)) = 0 then (fX4_readMarkLine_48 g  r17.1 (bsIx r17.1) r17.2) else ((fX4_fail  (3 : Int32) r17.2).bind fun r21 => fX4_readMarkLine_48 g  r17.1 (bsIx r17.1) r21)) else none) else (some r17.2))
abbrev rmX4_readMarkLine : Room := { frames := 6, cells := 0, slots := 0, locals := 129 }
set_option maxHeartbeats 4000000 in
set_option maxRecDepth 100000 in
theorem wX4_readMarkLine_63 {p : Program} {l : Launch} {e : Env} {s : State} {m : MethodId} {args : Array Value} {below : List Frame} {meth : Method} {c : Code} {ρ : bsR} {cA : Nat → ClassId} {dC : Nat → ClassId} {dI : Nat → Nat → Nat} {Rz : va_W} {Ts : List Cond} {g : Nat} (hg : g < 13)  {z : bsX} (C : bsCx p m c cX4_readMarkLine 6 s args Ts RX4 ρ cA dC dI Rz meth none) (x2 : Int32) (q3 : Nat) (X : bsX) (hq3 : q3 < 6) (hf : fX4_readMarkLine_63 g x2 q3 X = some z) : bsV p l e rmX4_readMarkLine s m args below meth c 0 0 (MQ below (bsQv ρ cA dC dI Rz z s.heap.size) args s 0 0 (bsA ρ cA Rz s.heap.size)) ρ cA dC dI Rz 6 63 [(0, .ref (ρ 13 1 0)), (2, .int x2), (3, .ref (ρ g 5 q3))] [] X := by
  rw [fX4_readMarkLine_63] at hf
  refine v_aload_n C dX4_readMarkLine_63 rfl rfl ?_
  refine gf_X4_22 C dX4_readMarkLine_64 ?_
  refine v_iload_n C dX4_readMarkLine_67 rfl rfl ?_
  refine v_iconst (v := 1) C dX4_readMarkLine_68 (by decide) ?_
  obtain ⟨hi4, hf⟩ := bs_if hf
  refine v_zast (n := 6) C bsm_13_7 (fun _ => bsc_13_7) hi4 dX4_readMarkLine_69 ?_
  refine v_aload_n C dX4_readMarkLine_70 rfl rfl ?_
  obtain ⟨r5, hc6, hf⟩ := bs_bind hf
  refine v_callVv (y := yX4_readToken) (As := []) (rest := []) C (cX4_readToken_ok  hc6) ml_X4_46 wyX4_readToken (bsm_X4) (bsc_X4) rfl dpX4_readToken ⟨Nat.le_of_ble_eq_true rfl, Nat.le_of_ble_eq_true rfl⟩ ⟨rfl, rfl⟩ ⟨Nat.le_of_ble_eq_true rfl, Nat.le_of_ble_eq_true rfl⟩ rfl (Nat.le_of_ble_eq_true rfl) dX4_readMarkLine_71 ?_
  refine v_aload_n C dX4_readMarkLine_74 rfl rfl ?_
  refine v_iconst (v := 0) C dX4_readMarkLine_75 (by decide) ?_
  refine v_bipush (v := 15) C dX4_readMarkLine_76 (by decide) ?_
  obtain ⟨r7, hc8, hf⟩ := bs_bind hf
  refine v_callVi (y := yX4_takeNumber) (As := [.int (0 : Int32), .int (15 : Int32)]) (rest := []) C (cX4_takeNumber_ok  hc8) ml_X4_71 wyX4_takeNumber (bsm_X4) (bsc_X4) rfl dpX4_takeNumber ⟨Nat.le_of_ble_eq_true rfl, Nat.le_of_ble_eq_true rfl⟩ ⟨rfl, rfl⟩ ⟨Nat.le_of_ble_eq_true rfl, Nat.le_of_ble_eq_true rfl⟩ rfl (Nat.le_of_ble_eq_true rfl) dX4_readMarkLine_78 ?_
  refine v_istore (lv' := [(4, .int r7.1), (0, .ref (ρ 13 1 0)), (2, .int x2), (3, .ref (ρ g 5 q3))]) C dX4_readMarkLine_81 (by decide) rfl ?_
  refine v_aload_n C dX4_readMarkLine_83 rfl rfl ?_
  refine v_iconst (v := 0) C dX4_readMarkLine_84 (by decide) ?_
  refine v_bipush (v := 7) C dX4_readMarkLine_85 (by decide) ?_
  obtain ⟨r9, hc10, hf⟩ := bs_bind hf
  refine v_callVi (y := yX4_takeNumber) (As := [.int (0 : Int32), .int (7 : Int32)]) (rest := []) C (cX4_takeNumber_ok  hc10) ml_X4_71 wyX4_takeNumber (bsm_X4) (bsc_X4) rfl dpX4_takeNumber ⟨Nat.le_of_ble_eq_true rfl, Nat.le_of_ble_eq_true rfl⟩ ⟨rfl, rfl⟩ ⟨Nat.le_of_ble_eq_true rfl, Nat.le_of_ble_eq_true rfl⟩ rfl (Nat.le_of_ble_eq_true rfl) dX4_readMarkLine_87 ?_
  refine v_istore (lv' := [(5, .int r9.1), (4, .int r7.1), (0, .ref (ρ 13 1 0)), (2, .int x2), (3, .ref (ρ g 5 q3))]) C dX4_readMarkLine_90 (by decide) rfl ?_
  refine v_aload_n C dX4_readMarkLine_92 rfl rfl ?_
  refine v_iload C dX4_readMarkLine_93 rfl ?_
  refine v_iload C dX4_readMarkLine_95 rfl ?_
  refine v_aload_n C dX4_readMarkLine_97 rfl rfl ?_
  refine v_ldcS (tx := "good") (t := 6) C (by decide +kernel) dX4_readMarkLine_98 ?_
  obtain ⟨r11, hc12, hf⟩ := bs_bind hf
  refine v_callVi (y := yX4_takeIfWord) (As := [.ref (ρ 16 0 6)]) (rest := [.int r9.1, .int r7.1, .ref (ρ g 5 q3)]) C (cX4_takeIfWord_ok (by decide) hc12) ml_X4_126 wyX4_takeIfWord (bsm_X4) (bsc_X4) rfl dpX4_takeIfWord ⟨Nat.le_of_ble_eq_true rfl, Nat.le_of_ble_eq_true rfl⟩ ⟨rfl, rfl⟩ ⟨Nat.le_of_ble_eq_true rfl, Nat.le_of_ble_eq_true rfl⟩ rfl (Nat.le_of_ble_eq_true rfl) dX4_readMarkLine_100 ?_
  obtain ⟨r13, hc14, hf⟩ := bs_bind hf
  refine v_callVv (y := yX5_setMark) (As := [.int r7.1, .int r9.1, .int r11.1]) (rest := []) C (cX5_setMark_ok hg hq3 hc14) ml_X4_135 wyX5_setMark (bsm_X5 hg hq3) (bsc_X5 hg) rfl dpX5_setMark ⟨Nat.le_of_ble_eq_true rfl, Nat.le_of_ble_eq_true rfl⟩ ⟨rfl, rfl⟩ ⟨Nat.le_of_ble_eq_true rfl, Nat.le_of_ble_eq_true rfl⟩ rfl (Nat.le_of_ble_eq_true rfl) dX4_readMarkLine_103 ?_
  exact v_vret C hf dX4_readMarkLine_106
set_option maxHeartbeats 4000000 in
set_option maxRecDepth 100000 in
theorem wX4_readMarkLine_48 {p : Program} {l : Launch} {e : Env} {s : State} {m : MethodId} {args : Array Value} {below : List Frame} {meth : Method} {c : Code} {ρ : bsR} {cA : Nat → ClassId} {dC : Nat → ClassId} {dI : Nat → Nat → Nat} {Rz : va_W} {Ts : List Cond} {g : Nat} (hg : g < 13)  {z : bsX} (C : bsCx p m c cX4_readMarkLine 6 s args Ts RX4 ρ cA dC dI Rz meth none) (x2 : Int32) (q3 : Nat) (X : bsX) (hq3 : q3 < 6) (hf : fX4_readMarkLine_48 g x2 q3 X = some z) : bsV p l e rmX4_readMarkLine s m args below meth c 0 0 (MQ below (bsQv ρ cA dC dI Rz z s.heap.size) args s 0 0 (bsA ρ cA Rz s.heap.size)) ρ cA dC dI Rz 6 48 [(0, .ref (ρ 13 1 0)), (2, .int x2), (3, .ref (ρ g 5 q3))] [] X := by
  rw [fX4_readMarkLine_48] at hf
  refine v_aload_n C dX4_readMarkLine_48 rfl rfl ?_
  refine gf_X4_109 C hg hq3 dX4_readMarkLine_49 ?_
  refine gf_X4_114 C hg (Nat.lt_succ_of_lt hq3) dX4_readMarkLine_52 ?_
  refine v_if_ne (tgt := 63) C dX4_readMarkLine_55 (by decide) (fun h3 => ?_) (fun h3 => ?_)
  · replace hf := bs_neg h3 hf
    refine v_sub [0, 1, 2] rfl ?_
    exact wX4_readMarkLine_63 hg  C  _ _ _ hq3 hf
  · replace hf := bs_pos h3 hf
    refine v_aload_n C dX4_readMarkLine_58 rfl rfl ?_
    refine v_iconst (v := 4) C dX4_readMarkLine_59 (by decide) ?_
    obtain ⟨r1, hc2, hf⟩ := bs_bind hf
    refine v_callVv (y := yX4_fail) (As := [.int (4 : Int32)]) (rest := []) C (cX4_fail_ok  hc2) ml_X4_61 wyX4_fail (bsm_X4) (bsc_X4) rfl dpX4_fail ⟨Nat.le_of_ble_eq_true rfl, Nat.le_of_ble_eq_true rfl⟩ ⟨rfl, rfl⟩ ⟨Nat.le_of_ble_eq_true rfl, Nat.le_of_ble_eq_true rfl⟩ rfl (Nat.le_of_ble_eq_true rfl) dX4_readMarkLine_60 ?_
    refine v_sub [0, 1, 2] rfl ?_
    exact wX4_readMarkLine_63 hg  C  _ _ _ hq3 hf
set_option maxHeartbeats 4000000 in
set_option maxRecDepth 100000 in
theorem cX4_readMarkLine_ok {l : Launch} {ρ : bsR} {cA : Nat → ClassId} {dC : Nat → ClassId} {dI : Nat → Nat → Nat} {Rz : va_W} {g : Nat} (hg : g < 13) {X : bsX} {z : bsX} (hf : fX4_readMarkLine g X = some z) : bsMv l yX4_readMarkLine cX4_readMarkLine 6 none rmX4_readMarkLine ρ cA dC dI Rz [.ref (ρ 13 1 0), .ref (ρ g 0 0)] X z := by
  refine bsMv_of (by decide) (Nat.le_of_ble_eq_true rfl) (fun p e s m args below meth c C => ?_)
  have C : bsCx p m c cX4_readMarkLine 6 s args (Cond.code yX4_readMarkLine cX4_readMarkLine 6 none :: bsG) RX4 ρ cA dC dI Rz meth none := C
  rw [fX4_readMarkLine] at hf
  refine v_sub [0, 1] rfl ?_
  refine v_aload_n C dX4_readMarkLine_0 rfl rfl ?_
  obtain ⟨r15, hc16, hf⟩ := bs_bind hf
  refine v_callVv (y := yX4_readToken) (As := []) (rest := []) C (cX4_readToken_ok  hc16) ml_X4_46 wyX4_readToken (bsm_X4) (bsc_X4) rfl dpX4_readToken ⟨Nat.le_of_ble_eq_true rfl, Nat.le_of_ble_eq_true rfl⟩ ⟨rfl, rfl⟩ ⟨Nat.le_of_ble_eq_true rfl, Nat.le_of_ble_eq_true rfl⟩ rfl (Nat.le_of_ble_eq_true rfl) dX4_readMarkLine_1 ?_
  refine v_aload_n C dX4_readMarkLine_4 rfl rfl ?_
  refine v_iconst (v := 0) C dX4_readMarkLine_5 (by decide) ?_
  refine v_aload_n C dX4_readMarkLine_6 rfl rfl ?_
  refine gf_X4_58 C hg dX4_readMarkLine_7 ?_
  refine v_iconst (v := 1) C dX4_readMarkLine_10 (by decide) ?_
  refine v_isub C dX4_readMarkLine_11 ?_
  obtain ⟨r17, hc18, hf⟩ := bs_bind hf
  refine v_callVi (y := yX4_numberWithin) (As := [.int (0 : Int32), .int ((r15 g 0 0 4) - (1 : Int32))]) (rest := []) C (cX4_numberWithin_ok  hc18) ml_X4_102 wyX4_numberWithin (bsm_X4) (bsc_X4) rfl dpX4_numberWithin ⟨Nat.le_of_ble_eq_true rfl, Nat.le_of_ble_eq_true rfl⟩ ⟨rfl, rfl⟩ ⟨Nat.le_of_ble_eq_true rfl, Nat.le_of_ble_eq_true rfl⟩ rfl (Nat.le_of_ble_eq_true rfl) dX4_readMarkLine_12 ?_
  refine v_istore_n (lv' := [(2, .int r17.1), (0, .ref (ρ 13 1 0)), (1, .ref (ρ g 0 0))]) C dX4_readMarkLine_15 rfl (by decide) rfl ?_
  refine v_iload_n C dX4_readMarkLine_16 rfl rfl ?_
  refine v_if_lt (tgt := 26) C dX4_readMarkLine_17 (by decide) (fun h25 => ?_) (fun h25 => ?_)
  · replace hf := bs_pos h25 hf
    exact v_vret C hf dX4_readMarkLine_26
  · replace hf := bs_neg h25 hf
    refine v_iload_n C dX4_readMarkLine_20 rfl rfl ?_
    refine v_bipush (v := 6) C dX4_readMarkLine_21 (by decide) ?_
    refine v_icmp_lt (tgt := 27) C dX4_readMarkLine_23 (by decide) (fun h24 => ?_) (fun h24 => ?_)
    · replace hf := bs_pos h24 hf
      refine v_aload_n C dX4_readMarkLine_27 rfl rfl ?_
      refine gf_X4_105 C hg dX4_readMarkLine_28 ?_
      refine v_iload_n C dX4_readMarkLine_31 rfl rfl ?_
      obtain ⟨hi19, hf⟩ := bs_if hf
      refine v_aald (t0 := 3) (n := 6) C (bsm_K1 hg) (bsc_K1 hg) rfl hi19 rfl dX4_readMarkLine_32 ?_
      refine v_astore_n (lv' := [(3, .ref (ρ g 5 (bsIx r17.1))), (2, .int r17.1), (0, .ref (ρ 13 1 0)), (1, .ref (ρ g 0 0))]) C dX4_readMarkLine_33 rfl (by decide) rfl ?_
      refine v_aload_n C dX4_readMarkLine_34 rfl rfl ?_
      refine gf_X4_22 C dX4_readMarkLine_35 ?_
      refine v_iload_n C dX4_readMarkLine_38 rfl rfl ?_
      refine v_zald (n := 6) C bsm_13_7 bsc_13_7 hi19 dX4_readMarkLine_39 ?_
      refine v_if_eq (tgt := 48) C dX4_readMarkLine_40 (by decide) (fun h23 => ?_) (fun h23 => ?_)
      · replace hf := bs_pos h23 hf
        refine v_sub [2, 1, 0] rfl ?_
        exact wX4_readMarkLine_48 hg  C  _ _ _ (bsIx_lt hi19) hf
      · replace hf := bs_neg h23 hf
        refine v_aload_n C dX4_readMarkLine_43 rfl rfl ?_
        refine v_iconst (v := 3) C dX4_readMarkLine_44 (by decide) ?_
        obtain ⟨r21, hc22, hf⟩ := bs_bind hf
        refine v_callVv (y := yX4_fail) (As := [.int (3 : Int32)]) (rest := []) C (cX4_fail_ok  hc22) ml_X4_61 wyX4_fail (bsm_X4) (bsc_X4) rfl dpX4_fail ⟨Nat.le_of_ble_eq_true rfl, Nat.le_of_ble_eq_true rfl⟩ ⟨rfl, rfl⟩ ⟨Nat.le_of_ble_eq_true rfl, Nat.le_of_ble_eq_true rfl⟩ rfl (Nat.le_of_ble_eq_true rfl) dX4_readMarkLine_45 ?_
        refine v_sub [2, 1, 0] rfl ?_
        exact wX4_readMarkLine_48 hg  C  _ _ _ (bsIx_lt hi19) hf
    · replace hf := bs_neg h24 hf
      exact v_vret C hf dX4_readMarkLine_26
/-! BootSlots$Parser.readLine(LBootSlots$Machine;)V -/
def fX4_readLine (g : Nat) (X : bsX) : Option bsX := if (X 13 1 0 5) = (4 : Int32) then ((fX4_readToken   X).bind fun r1 => (fX4_isWord 1  r1).bind fun r3 => if r3.1 = 0 then ((fX4_isWord 2  r3.2).bind fun r5 => if r5.1 = 0 then ((fX4_isWord 5  r5.2).bind fun r7 => if r7.1 = 0 then ((fX4_fail  (1 : Int32) r7.2).bind fun r9 => some r9) else ((fX4_readMarkLine g  r7.2).bind fun r11 => some r11)) else ((fX4_readImageLine g  r5.2).bind fun r14 => some r14)) else ((fX4_readSlotLine g  r3.2).bind fun r17 => some r17)) else ((fX4_fail  (1 : Int32) X).bind fun r20 => some r20)
abbrev rmX4_readLine : Room := { frames := 7, cells := 0, slots := 0, locals := 155 }
set_option maxHeartbeats 4000000 in
set_option maxRecDepth 100000 in
theorem cX4_readLine_ok {l : Launch} {ρ : bsR} {cA : Nat → ClassId} {dC : Nat → ClassId} {dI : Nat → Nat → Nat} {Rz : va_W} {g : Nat} (hg : g < 13) {X : bsX} {z : bsX} (hf : fX4_readLine g X = some z) : bsMv l yX4_readLine cX4_readLine 2 none rmX4_readLine ρ cA dC dI Rz [.ref (ρ 13 1 0), .ref (ρ g 0 0)] X z := by
  refine bsMv_of (by decide) (Nat.le_of_ble_eq_true rfl) (fun p e s m args below meth c C => ?_)
  have C : bsCx p m c cX4_readLine 2 s args (Cond.code yX4_readLine cX4_readLine 2 none :: bsG) RX4 ρ cA dC dI Rz meth none := C
  rw [fX4_readLine] at hf
  refine v_sub [0, 1] rfl ?_
  refine v_aload_n C dX4_readLine_0 rfl rfl ?_
  refine gf_X4_52 C dX4_readLine_1 ?_
  refine v_iconst (v := 4) C dX4_readLine_4 (by decide) ?_
  refine v_icmp_eq (tgt := 14) C dX4_readLine_5 (by decide) (fun h22 => ?_) (fun h22 => ?_)
  · replace hf := bs_pos h22 hf
    refine v_aload_n C dX4_readLine_14 rfl rfl ?_
    obtain ⟨r1, hc2, hf⟩ := bs_bind hf
    refine v_callVv (y := yX4_readToken) (As := []) (rest := []) C (cX4_readToken_ok  hc2) ml_X4_46 wyX4_readToken (bsm_X4) (bsc_X4) rfl dpX4_readToken ⟨Nat.le_of_ble_eq_true rfl, Nat.le_of_ble_eq_true rfl⟩ ⟨rfl, rfl⟩ ⟨Nat.le_of_ble_eq_true rfl, Nat.le_of_ble_eq_true rfl⟩ rfl (Nat.le_of_ble_eq_true rfl) dX4_readLine_15 ?_
    refine v_aload_n C dX4_readLine_18 rfl rfl ?_
    refine v_ldcS (tx := "slot") (t := 1) C (by decide +kernel) dX4_readLine_19 ?_
    obtain ⟨r3, hc4, hf⟩ := bs_bind hf
    refine v_callVi (y := yX4_isWord) (As := [.ref (ρ 16 0 1)]) (rest := []) C (cX4_isWord_ok (by decide) hc4) ml_X4_67 wyX4_isWord (bsm_X4) (bsc_X4) rfl dpX4_isWord ⟨Nat.le_of_ble_eq_true rfl, Nat.le_of_ble_eq_true rfl⟩ ⟨rfl, rfl⟩ ⟨Nat.le_of_ble_eq_true rfl, Nat.le_of_ble_eq_true rfl⟩ rfl (Nat.le_of_ble_eq_true rfl) dX4_readLine_21 ?_
    refine v_if_eq (tgt := 35) C dX4_readLine_24 (by decide) (fun h19 => ?_) (fun h19 => ?_)
    · replace hf := bs_pos h19 hf
      refine v_aload_n C dX4_readLine_35 rfl rfl ?_
      refine v_ldcS (tx := "image") (t := 2) C (by decide +kernel) dX4_readLine_36 ?_
      obtain ⟨r5, hc6, hf⟩ := bs_bind hf
      refine v_callVi (y := yX4_isWord) (As := [.ref (ρ 16 0 2)]) (rest := []) C (cX4_isWord_ok (by decide) hc6) ml_X4_67 wyX4_isWord (bsm_X4) (bsc_X4) rfl dpX4_isWord ⟨Nat.le_of_ble_eq_true rfl, Nat.le_of_ble_eq_true rfl⟩ ⟨rfl, rfl⟩ ⟨Nat.le_of_ble_eq_true rfl, Nat.le_of_ble_eq_true rfl⟩ rfl (Nat.le_of_ble_eq_true rfl) dX4_readLine_38 ?_
      refine v_if_eq (tgt := 52) C dX4_readLine_41 (by decide) (fun h16 => ?_) (fun h16 => ?_)
      · replace hf := bs_pos h16 hf
        refine v_aload_n C dX4_readLine_52 rfl rfl ?_
        refine v_ldcS (tx := "mark") (t := 5) C (by decide +kernel) dX4_readLine_53 ?_
        obtain ⟨r7, hc8, hf⟩ := bs_bind hf
        refine v_callVi (y := yX4_isWord) (As := [.ref (ρ 16 0 5)]) (rest := []) C (cX4_isWord_ok (by decide) hc8) ml_X4_67 wyX4_isWord (bsm_X4) (bsc_X4) rfl dpX4_isWord ⟨Nat.le_of_ble_eq_true rfl, Nat.le_of_ble_eq_true rfl⟩ ⟨rfl, rfl⟩ ⟨Nat.le_of_ble_eq_true rfl, Nat.le_of_ble_eq_true rfl⟩ rfl (Nat.le_of_ble_eq_true rfl) dX4_readLine_55 ?_
        refine v_if_eq (tgt := 69) C dX4_readLine_58 (by decide) (fun h13 => ?_) (fun h13 => ?_)
        · replace hf := bs_pos h13 hf
          refine v_aload_n C dX4_readLine_69 rfl rfl ?_
          refine v_iconst (v := 1) C dX4_readLine_70 (by decide) ?_
          obtain ⟨r9, hc10, hf⟩ := bs_bind hf
          refine v_callVv (y := yX4_fail) (As := [.int (1 : Int32)]) (rest := []) C (cX4_fail_ok  hc10) ml_X4_61 wyX4_fail (bsm_X4) (bsc_X4) rfl dpX4_fail ⟨Nat.le_of_ble_eq_true rfl, Nat.le_of_ble_eq_true rfl⟩ ⟨rfl, rfl⟩ ⟨Nat.le_of_ble_eq_true rfl, Nat.le_of_ble_eq_true rfl⟩ rfl (Nat.le_of_ble_eq_true rfl) dX4_readLine_71 ?_
          exact v_vret C hf dX4_readLine_74
        · replace hf := bs_neg h13 hf
          refine v_aload_n C dX4_readLine_61 rfl rfl ?_
          refine v_aload_n C dX4_readLine_62 rfl rfl ?_
          obtain ⟨r11, hc12, hf⟩ := bs_bind hf
          refine v_callVv (y := yX4_readMarkLine) (As := [.ref (ρ g 0 0)]) (rest := []) C (cX4_readMarkLine_ok hg hc12) ml_X4_99 wyX4_readMarkLine (bsm_X4) (bsc_X4) rfl dpX4_readMarkLine ⟨Nat.le_of_ble_eq_true rfl, Nat.le_of_ble_eq_true rfl⟩ ⟨rfl, rfl⟩ ⟨Nat.le_of_ble_eq_true rfl, Nat.le_of_ble_eq_true rfl⟩ rfl (Nat.le_of_ble_eq_true rfl) dX4_readLine_63 ?_
          refine v_goto (tgt := 74) C dX4_readLine_66 (by decide) ?_
          exact v_vret C hf dX4_readLine_74
      · replace hf := bs_neg h16 hf
        refine v_aload_n C dX4_readLine_44 rfl rfl ?_
        refine v_aload_n C dX4_readLine_45 rfl rfl ?_
        obtain ⟨r14, hc15, hf⟩ := bs_bind hf
        refine v_callVv (y := yX4_readImageLine) (As := [.ref (ρ g 0 0)]) (rest := []) C (cX4_readImageLine_ok hg hc15) ml_X4_94 wyX4_readImageLine (bsm_X4) (bsc_X4) rfl dpX4_readImageLine ⟨Nat.le_of_ble_eq_true rfl, Nat.le_of_ble_eq_true rfl⟩ ⟨rfl, rfl⟩ ⟨Nat.le_of_ble_eq_true rfl, Nat.le_of_ble_eq_true rfl⟩ rfl (Nat.le_of_ble_eq_true rfl) dX4_readLine_46 ?_
        refine v_goto (tgt := 74) C dX4_readLine_49 (by decide) ?_
        exact v_vret C hf dX4_readLine_74
    · replace hf := bs_neg h19 hf
      refine v_aload_n C dX4_readLine_27 rfl rfl ?_
      refine v_aload_n C dX4_readLine_28 rfl rfl ?_
      obtain ⟨r17, hc18, hf⟩ := bs_bind hf
      refine v_callVv (y := yX4_readSlotLine) (As := [.ref (ρ g 0 0)]) (rest := []) C (cX4_readSlotLine_ok hg hc18) ml_X4_89 wyX4_readSlotLine (bsm_X4) (bsc_X4) rfl dpX4_readSlotLine ⟨Nat.le_of_ble_eq_true rfl, Nat.le_of_ble_eq_true rfl⟩ ⟨rfl, rfl⟩ ⟨Nat.le_of_ble_eq_true rfl, Nat.le_of_ble_eq_true rfl⟩ rfl (Nat.le_of_ble_eq_true rfl) dX4_readLine_29 ?_
      refine v_goto (tgt := 74) C dX4_readLine_32 (by decide) ?_
      exact v_vret C hf dX4_readLine_74
  · replace hf := bs_neg h22 hf
    refine v_aload_n C dX4_readLine_8 rfl rfl ?_
    refine v_iconst (v := 1) C dX4_readLine_9 (by decide) ?_
    obtain ⟨r20, hc21, hf⟩ := bs_bind hf
    refine v_callVv (y := yX4_fail) (As := [.int (1 : Int32)]) (rest := []) C (cX4_fail_ok  hc21) ml_X4_61 wyX4_fail (bsm_X4) (bsc_X4) rfl dpX4_fail ⟨Nat.le_of_ble_eq_true rfl, Nat.le_of_ble_eq_true rfl⟩ ⟨rfl, rfl⟩ ⟨Nat.le_of_ble_eq_true rfl, Nat.le_of_ble_eq_true rfl⟩ rfl (Nat.le_of_ble_eq_true rfl) dX4_readLine_10 ?_
    exact v_vret C hf dX4_readLine_13
/-! BootSlots$Parser.parse(ILBootSlots$Machine;)V -/
def fX4_parse_95 (g : Nat) (X : bsX) : Option bsX := if (X g 0 0 4) = 0 then ((fX4_fail  (6 : Int32) X).bind fun r14 => some r14) else (some X)
def fX4_parse_65 (g : Nat) : Nat → Int32 → Int32 → bsX → Option bsX
  | 0, _, _, _ => none
  | n + 1, x1, x3, X => if x1 ≤ x3 then (fX4_parse_95 g   X) else (if (X 13 1 0 8) = 0 then (if (X 13 1 0 5) = 0 then (fX4_parse_95 g   X) else ((fX4_readLine g  X).bind fun r1 => fX4_parse_65 g n x1 (x3 + (1 : Int32)) r1)) else (fX4_parse_95 g   X))
def fX4_parse_27 (g : Nat) : Nat → Int32 → Int32 → bsX → Option bsX
  | 0, _, _, _ => none
  | n + 1, x1, x3, X => if (6 : Int32) ≤ x3 then ((fX3_copyFrom g 12  X).bind fun r6 => (fX4_readToken   r6).bind fun r8 => (fX4_readFirstLine g  r8).bind fun r10 => fX4_parse_65 g  bsF x1 (0 : Int32) r10) else (if bsIn x3 6 then (fX4_parse_27 g n x1 (x3 + (1 : Int32)) (bsWr X 13 7 0 (bsIx x3) (vp_nar .boolean (0 : Int32)))) else none)
def fX4_parse (g : Nat) (a1 : Int32) (X : bsX) : Option bsX := fX4_parse_27 g  bsF a1 (0 : Int32) (bsWr (bsWr (bsWr (bsWr (bsWr X 13 1 0 3 (0 : Int32)) 13 1 0 4 a1) 13 1 0 7 (0 : Int32)) 13 1 0 8 (0 : Int32)) 13 1 0 9 (-1 : Int32))
abbrev rmX4_parse : Room := { frames := 8, cells := 0, slots := 0, locals := 176 }
set_option maxHeartbeats 4000000 in
set_option maxRecDepth 100000 in
theorem wX4_parse_95 {p : Program} {l : Launch} {e : Env} {s : State} {m : MethodId} {args : Array Value} {below : List Frame} {meth : Method} {c : Code} {ρ : bsR} {cA : Nat → ClassId} {dC : Nat → ClassId} {dI : Nat → Nat → Nat} {Rz : va_W} {Ts : List Cond} {g : Nat} (hg : g < 13)  {z : bsX} (C : bsCx p m c cX4_parse 4 s args Ts RX4 ρ cA dC dI Rz meth none) (X : bsX) (hf : fX4_parse_95 g X = some z) : bsV p l e rmX4_parse s m args below meth c 0 0 (MQ below (bsQv ρ cA dC dI Rz z s.heap.size) args s 0 0 (bsA ρ cA Rz s.heap.size)) ρ cA dC dI Rz 4 95 [(0, .ref (ρ 13 1 0)), (2, .ref (ρ g 0 0))] [] X := by
  rw [fX4_parse_95] at hf
  refine v_aload_n C dX4_parse_95 rfl rfl ?_
  refine gf_X4_58 C hg dX4_parse_96 ?_
  refine v_if_ne (tgt := 108) C dX4_parse_99 (by decide) (fun h16 => ?_) (fun h16 => ?_)
  · replace hf := bs_neg h16 hf
    exact v_vret C hf dX4_parse_108
  · replace hf := bs_pos h16 hf
    refine v_aload_n C dX4_parse_102 rfl rfl ?_
    refine v_bipush (v := 6) C dX4_parse_103 (by decide) ?_
    obtain ⟨r14, hc15, hf⟩ := bs_bind hf
    refine v_callVv (y := yX4_fail) (As := [.int (6 : Int32)]) (rest := []) C (cX4_fail_ok  hc15) ml_X4_61 wyX4_fail (bsm_X4) (bsc_X4) rfl dpX4_fail ⟨Nat.le_of_ble_eq_true rfl, Nat.le_of_ble_eq_true rfl⟩ ⟨rfl, rfl⟩ ⟨Nat.le_of_ble_eq_true rfl, Nat.le_of_ble_eq_true rfl⟩ rfl (Nat.le_of_ble_eq_true rfl) dX4_parse_105 ?_
    exact v_vret C hf dX4_parse_108
set_option maxHeartbeats 4000000 in
set_option maxRecDepth 100000 in
theorem wX4_parse_65 {p : Program} {l : Launch} {e : Env} {s : State} {m : MethodId} {args : Array Value} {below : List Frame} {meth : Method} {c : Code} {ρ : bsR} {cA : Nat → ClassId} {dC : Nat → ClassId} {dI : Nat → Nat → Nat} {Rz : va_W} {Ts : List Cond} {g : Nat} (hg : g < 13)  {z : bsX} (C : bsCx p m c cX4_parse 4 s args Ts RX4 ρ cA dC dI Rz meth none) : ∀ (n : Nat) (x1 : Int32) (x3 : Int32) (X : bsX), fX4_parse_65 g n x1 x3 X = some z → bsV p l e rmX4_parse s m args below meth c 0 0 (MQ below (bsQv ρ cA dC dI Rz z s.heap.size) args s 0 0 (bsA ρ cA Rz s.heap.size)) ρ cA dC dI Rz 4 65 [(0, .ref (ρ 13 1 0)), (1, .int x1), (2, .ref (ρ g 0 0)), (3, .int x3)] [] X := by
  intro n
  induction n with
  | zero => intro x1 x3 X hf; exact (nomatch hf)
  | succ n ih =>
    intro x1 x3 X hf
    rw [fX4_parse_65] at hf
    refine v_iload_n C dX4_parse_65 rfl rfl ?_
    refine v_iload_n C dX4_parse_66 rfl rfl ?_
    refine v_icmp_ge (tgt := 95) C dX4_parse_67 (by decide) (fun h5 => ?_) (fun h5 => ?_)
    · replace hf := bs_pos h5 hf
      refine v_sub [0, 2] rfl ?_
      exact wX4_parse_95 hg  C  _  hf
    · replace hf := bs_neg h5 hf
      refine v_aload_n C dX4_parse_70 rfl rfl ?_
      refine gf_X4_39 C dX4_parse_71 ?_
      refine v_if_ne (tgt := 95) C dX4_parse_74 (by decide) (fun h4 => ?_) (fun h4 => ?_)
      · replace hf := bs_neg h4 hf
        refine v_sub [0, 2] rfl ?_
        exact wX4_parse_95 hg  C  _  hf
      · replace hf := bs_pos h4 hf
        refine v_aload_n C dX4_parse_77 rfl rfl ?_
        refine gf_X4_52 C dX4_parse_78 ?_
        refine v_if_eq (tgt := 95) C dX4_parse_81 (by decide) (fun h3 => ?_) (fun h3 => ?_)
        · replace hf := bs_pos h3 hf
          refine v_sub [0, 2] rfl ?_
          exact wX4_parse_95 hg  C  _  hf
        · replace hf := bs_neg h3 hf
          refine v_aload_n C dX4_parse_84 rfl rfl ?_
          refine v_aload_n C dX4_parse_85 rfl rfl ?_
          obtain ⟨r1, hc2, hf⟩ := bs_bind hf
          refine v_callVv (y := yX4_readLine) (As := [.ref (ρ g 0 0)]) (rest := []) C (cX4_readLine_ok hg hc2) ml_X4_55 wyX4_readLine (bsm_X4) (bsc_X4) rfl dpX4_readLine ⟨Nat.le_of_ble_eq_true rfl, Nat.le_of_ble_eq_true rfl⟩ ⟨rfl, rfl⟩ ⟨Nat.le_of_ble_eq_true rfl, Nat.le_of_ble_eq_true rfl⟩ rfl (Nat.le_of_ble_eq_true rfl) dX4_parse_86 ?_
          refine v_iinc (k0 := 3) (v := (x3 + (1 : Int32))) (lv' := [(3, .int (x3 + (1 : Int32))), (0, .ref (ρ 13 1 0)), (1, .int x1), (2, .ref (ρ g 0 0))]) C dX4_parse_89 rfl rfl (by decide) rfl ?_
          refine v_goto (tgt := 65) C dX4_parse_92 (by decide) ?_
          refine v_sub [1, 2, 3, 0] rfl ?_
          exact ih _ _ _  hf
set_option maxHeartbeats 4000000 in
set_option maxRecDepth 100000 in
theorem wX4_parse_27 {p : Program} {l : Launch} {e : Env} {s : State} {m : MethodId} {args : Array Value} {below : List Frame} {meth : Method} {c : Code} {ρ : bsR} {cA : Nat → ClassId} {dC : Nat → ClassId} {dI : Nat → Nat → Nat} {Rz : va_W} {Ts : List Cond} {g : Nat} (hg : g < 13)  {z : bsX} (C : bsCx p m c cX4_parse 4 s args Ts RX4 ρ cA dC dI Rz meth none) : ∀ (n : Nat) (x1 : Int32) (x3 : Int32) (X : bsX), fX4_parse_27 g n x1 x3 X = some z → bsV p l e rmX4_parse s m args below meth c 0 0 (MQ below (bsQv ρ cA dC dI Rz z s.heap.size) args s 0 0 (bsA ρ cA Rz s.heap.size)) ρ cA dC dI Rz 4 27 [(0, .ref (ρ 13 1 0)), (1, .int x1), (2, .ref (ρ g 0 0)), (3, .int x3)] [] X := by
  intro n
  induction n with
  | zero => intro x1 x3 X hf; exact (nomatch hf)
  | succ n ih =>
    intro x1 x3 X hf
    rw [fX4_parse_27] at hf
    refine v_iload_n C dX4_parse_27 rfl rfl ?_
    refine v_bipush (v := 6) C dX4_parse_28 (by decide) ?_
    refine v_icmp_ge (tgt := 46) C dX4_parse_30 (by decide) (fun h13 => ?_) (fun h13 => ?_)
    · replace hf := bs_pos h13 hf
      refine v_aload_n C dX4_parse_46 rfl rfl ?_
      refine v_aload_n C dX4_parse_47 rfl rfl ?_
      refine gf_X4_18 C dX4_parse_48 ?_
      obtain ⟨r6, hc7, hf⟩ := bs_bind hf
      refine v_callVv (y := yX3_copyFrom) (As := [.ref (ρ 12 0 0)]) (rest := []) C (cX3_copyFrom_ok hg (by decide) hc7) ml_X4_42 wyX3_copyFrom (bsm_X3 hg) (bsc_X3 hg) rfl dpX3_copyFrom ⟨Nat.le_of_ble_eq_true rfl, Nat.le_of_ble_eq_true rfl⟩ ⟨rfl, rfl⟩ ⟨Nat.le_of_ble_eq_true rfl, Nat.le_of_ble_eq_true rfl⟩ rfl (Nat.le_of_ble_eq_true rfl) dX4_parse_51 ?_
      refine v_aload_n C dX4_parse_54 rfl rfl ?_
      obtain ⟨r8, hc9, hf⟩ := bs_bind hf
      refine v_callVv (y := yX4_readToken) (As := []) (rest := []) C (cX4_readToken_ok  hc9) ml_X4_46 wyX4_readToken (bsm_X4) (bsc_X4) rfl dpX4_readToken ⟨Nat.le_of_ble_eq_true rfl, Nat.le_of_ble_eq_true rfl⟩ ⟨rfl, rfl⟩ ⟨Nat.le_of_ble_eq_true rfl, Nat.le_of_ble_eq_true rfl⟩ rfl (Nat.le_of_ble_eq_true rfl) dX4_parse_55 ?_
      refine v_aload_n C dX4_parse_58 rfl rfl ?_
      refine v_aload_n C dX4_parse_59 rfl rfl ?_
      obtain ⟨r10, hc11, hf⟩ := bs_bind hf
      refine v_callVv (y := yX4_readFirstLine) (As := [.ref (ρ g 0 0)]) (rest := []) C (cX4_readFirstLine_ok hg hc11) ml_X4_49 wyX4_readFirstLine (bsm_X4) (bsc_X4) rfl dpX4_readFirstLine ⟨Nat.le_of_ble_eq_true rfl, Nat.le_of_ble_eq_true rfl⟩ ⟨rfl, rfl⟩ ⟨Nat.le_of_ble_eq_true rfl, Nat.le_of_ble_eq_true rfl⟩ rfl (Nat.le_of_ble_eq_true rfl) dX4_parse_60 ?_
      refine v_iconst (v := 0) C dX4_parse_63 (by decide) ?_
      refine v_istore_n (lv' := [(3, .int (0 : Int32)), (0, .ref (ρ 13 1 0)), (1, .int x1), (2, .ref (ρ g 0 0))]) C dX4_parse_64 rfl (by decide) rfl ?_
      refine v_sub [1, 2, 3, 0] rfl ?_
      exact wX4_parse_65 hg  C  bsF _ _ _  hf
    · replace hf := bs_neg h13 hf
      refine v_aload_n C dX4_parse_33 rfl rfl ?_
      refine gf_X4_22 C dX4_parse_34 ?_
      refine v_iload_n C dX4_parse_37 rfl rfl ?_
      refine v_iconst (v := 0) C dX4_parse_38 (by decide) ?_
      obtain ⟨hi12, hf⟩ := bs_if hf
      refine v_zast (n := 6) C bsm_13_7 (fun _ => bsc_13_7) hi12 dX4_parse_39 ?_
      refine v_iinc (k0 := 3) (v := (x3 + (1 : Int32))) (lv' := [(3, .int (x3 + (1 : Int32))), (0, .ref (ρ 13 1 0)), (1, .int x1), (2, .ref (ρ g 0 0))]) C dX4_parse_40 rfl rfl (by decide) rfl ?_
      refine v_goto (tgt := 27) C dX4_parse_43 (by decide) ?_
      refine v_sub [1, 2, 3, 0] rfl ?_
      exact ih _ _ _  hf
set_option maxHeartbeats 4000000 in
set_option maxRecDepth 100000 in
theorem cX4_parse_ok {l : Launch} {ρ : bsR} {cA : Nat → ClassId} {dC : Nat → ClassId} {dI : Nat → Nat → Nat} {Rz : va_W} {g : Nat} (hg : g < 13) {a1 : Int32} {X : bsX} {z : bsX} (hf : fX4_parse g a1 X = some z) : bsMv l yX4_parse cX4_parse 4 none rmX4_parse ρ cA dC dI Rz [.ref (ρ 13 1 0), .int a1, .ref (ρ g 0 0)] X z := by
  refine bsMv_of (by decide) (Nat.le_of_ble_eq_true rfl) (fun p e s m args below meth c C => ?_)
  have C : bsCx p m c cX4_parse 4 s args (Cond.code yX4_parse cX4_parse 4 none :: bsG) RX4 ρ cA dC dI Rz meth none := C
  rw [fX4_parse] at hf
  refine v_sub [0, 1, 2] rfl ?_
  refine v_aload_n C dX4_parse_0 rfl rfl ?_
  refine v_iconst (v := 0) C dX4_parse_1 (by decide) ?_
  refine pf_X4_30 C dX4_parse_2 ?_
  refine v_aload_n C dX4_parse_5 rfl rfl ?_
  refine v_iload_n C dX4_parse_6 rfl rfl ?_
  refine pf_X4_33 C dX4_parse_7 ?_
  refine v_aload_n C dX4_parse_10 rfl rfl ?_
  refine v_iconst (v := 0) C dX4_parse_11 (by decide) ?_
  refine pf_X4_36 C dX4_parse_12 ?_
  refine v_aload_n C dX4_parse_15 rfl rfl ?_
  refine v_iconst (v := 0) C dX4_parse_16 (by decide) ?_
  refine pf_X4_39 C dX4_parse_17 ?_
  refine v_aload_n C dX4_parse_20 rfl rfl ?_
  refine v_iconst (v := -1) C dX4_parse_21 (by decide) ?_
  refine pf_X4_26 C dX4_parse_22 ?_
  refine v_iconst (v := 0) C dX4_parse_25 (by decide) ?_
  refine v_istore_n (lv' := [(3, .int (0 : Int32)), (0, .ref (ρ 13 1 0)), (1, .int a1), (2, .ref (ρ g 0 0))]) C dX4_parse_26 rfl (by decide) rfl ?_
  refine v_sub [1, 2, 3, 0] rfl ?_
  exact wX4_parse_27 hg  C  bsF _ _ _  hf
