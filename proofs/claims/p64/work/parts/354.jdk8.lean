/-! THE JDK: Strings at run time -/
abbrev rmJ0_coder_7d493R : Room := { frames := 0, cells := 0, slots := 0, locals := 0 }
set_option maxHeartbeats 4000000 in
set_option maxRecDepth 100000 in
theorem cJ0_coder_7d493R_ok {l : Launch} {ρ : bsR} {sc L : Nat} {xs : Nat → Int32} {cA : Nat → ClassId} {dC : Nat → ClassId} {dI : Nat → Nat → Nat} {X : bsX} {q0 q1 g v n : Nat} {a : Nat → Int32} {Rz : va_W} (he : Rz[q0]? = some (g, stC v)) (hv : Rz[q1]? = some (v, byC cA n a)) : xMi l yJ0_coder_7d493 cJ0_coder_7d493 1 (some .byte) rmJ0_coder_7d493R ρ sc L xs cA dC dI [.ref g] X (Rz) (fun r X' R' => r = 0 ∧ X' = X ∧ R' = Rz) := by
  refine xMi_of (by decide +kernel) (Nat.le_of_ble_eq_true rfl) (fun p e s m args below meth c C => ?_)
  have C : xCx p m c cJ0_coder_7d493 1 s args (Cond.code yJ0_coder_7d493 cJ0_coder_7d493 1 (some .byte) :: bsG) RJ0 ρ sc L xs cA dC dI (bsA ρ cA (Rz) s.heap.size) meth (some .byte) := C
  refine x_sub [0] rfl ?_
  refine x_gsCS C (bsG_in 482 (by decide +kernel) rfl) dJ0_coder_7d493_0 ?_
  refine x_if_eq (tgt := 13) C dJ0_coder_7d493_3 (by decide) (fun h => absurd h (by decide)) (fun _ => ?_)
  refine x_aload_n C dJ0_coder_7d493_6 rfl rfl ?_
  refine x_get C (T := TJ0) (N := 4) (k := 1) (Cn := RJ0) (ref := "java/lang/String") he rfl bsin_J0 (by decide) (bsG_in 1559 (by decide +kernel) rfl) rfl rfl dJ0_coder_7d493_7 ?_
  refine x_goto (tgt := 14) C dJ0_coder_7d493_10 (by decide) ?_
  exact x_xret C (rfl) (⟨rfl, rfl, rfl⟩) (Nat.le_of_ble_eq_true rfl) (Nat.le_of_ble_eq_true rfl) dJ0_coder_7d493_14
abbrev rmJ0_isLatin1_aae02R : Room := { frames := 0, cells := 0, slots := 0, locals := 0 }
set_option maxHeartbeats 4000000 in
set_option maxRecDepth 100000 in
theorem cJ0_isLatin1_aae02R_ok {l : Launch} {ρ : bsR} {sc L : Nat} {xs : Nat → Int32} {cA : Nat → ClassId} {dC : Nat → ClassId} {dI : Nat → Nat → Nat} {X : bsX} {q0 q1 g v n : Nat} {a : Nat → Int32} {Rz : va_W} (he : Rz[q0]? = some (g, stC v)) (hv : Rz[q1]? = some (v, byC cA n a)) : xMi l yJ0_isLatin1_aae02 cJ0_isLatin1_aae02 1 (some .boolean) rmJ0_isLatin1_aae02R ρ sc L xs cA dC dI [.ref g] X (Rz) (fun r X' R' => r = 1 ∧ X' = X ∧ R' = Rz) := by
  refine xMi_of (by decide +kernel) (Nat.le_of_ble_eq_true rfl) (fun p e s m args below meth c C => ?_)
  have C : xCx p m c cJ0_isLatin1_aae02 1 s args (Cond.code yJ0_isLatin1_aae02 cJ0_isLatin1_aae02 1 (some .boolean) :: bsG) RJ0 ρ sc L xs cA dC dI (bsA ρ cA (Rz) s.heap.size) meth (some .boolean) := C
  refine x_sub [0] rfl ?_
  refine x_gsCS C (bsG_in 482 (by decide +kernel) rfl) dJ0_isLatin1_aae02_0 ?_
  refine x_if_eq (tgt := 17) C dJ0_isLatin1_aae02_3 (by decide) (fun h => absurd h (by decide)) (fun _ => ?_)
  refine x_aload_n C dJ0_isLatin1_aae02_6 rfl rfl ?_
  refine x_get C (T := TJ0) (N := 4) (k := 1) (Cn := RJ0) (ref := "java/lang/String") he rfl bsin_J0 (by decide) (bsG_in 1559 (by decide +kernel) rfl) rfl rfl dJ0_isLatin1_aae02_7 ?_
  refine x_if_ne (tgt := 17) C dJ0_isLatin1_aae02_10 (by decide) (fun h => absurd (rfl) h) (fun _ => ?_)
  refine x_iconst (v := 1) C dJ0_isLatin1_aae02_13 (by decide) ?_
  refine x_goto (tgt := 18) C dJ0_isLatin1_aae02_14 (by decide) ?_
  exact x_xret C (rfl) (⟨rfl, rfl, rfl⟩) (Nat.le_of_ble_eq_true rfl) (Nat.le_of_ble_eq_true rfl) dJ0_isLatin1_aae02_18
abbrev rmJ0_length_8abf5R : Room := { frames := 1, cells := 0, slots := 0, locals := 20 }
set_option maxHeartbeats 4000000 in
set_option maxRecDepth 100000 in
theorem cJ0_length_8abf5R_ok {l : Launch} {ρ : bsR} {sc L : Nat} {xs : Nat → Int32} {cA : Nat → ClassId} {dC : Nat → ClassId} {dI : Nat → Nat → Nat} {X : bsX} {q0 q1 g v n : Nat} {a : Nat → Int32} {Rz : va_W} (he : Rz[q0]? = some (g, stC v)) (hv : Rz[q1]? = some (v, byC cA n a)) : xMi l yJ0_length_8abf5 cJ0_length_8abf5 1 (some .int) rmJ0_length_8abf5R ρ sc L xs cA dC dI [.ref g] X (Rz) (fun r X' R' => r = nI n ∧ X' = X ∧ R' = Rz) := by
  refine xMi_of (by decide +kernel) (Nat.le_of_ble_eq_true rfl) (fun p e s m args below meth c C => ?_)
  have C : xCx p m c cJ0_length_8abf5 1 s args (Cond.code yJ0_length_8abf5 cJ0_length_8abf5 1 (some .int) :: bsG) RJ0 ρ sc L xs cA dC dI (bsA ρ cA (Rz) s.heap.size) meth (some .int) := C
  refine x_sub [0] rfl ?_
  refine x_aload_n C dJ0_length_8abf5_0 rfl rfl ?_
  refine x_get C (T := TJ0) (N := 4) (k := 0) (Cn := RJ0) (ref := "java/lang/String") he rfl bsin_J0 (by decide) (bsG_in 1558 (by decide +kernel) rfl) rfl rfl dJ0_length_8abf5_1 ?_
  refine x_alen C (v := nI n) (ty := .byte) hv rfl rfl dJ0_length_8abf5_4 ?_
  refine x_aload_n C dJ0_length_8abf5_5 rfl rfl ?_
  refine x_callVi (y := yJ0_coder_7d493) (As := []) (rest := [.int (nI n)]) C (cJ0_coder_7d493R_ok he hv) (bsG_in 478 (by decide +kernel) rfl) wyJ0_coder_7d493 he rfl dpJ0_coder_7d493 ⟨Nat.le_of_ble_eq_true rfl, Nat.le_of_ble_eq_true rfl⟩ ⟨Nat.le_of_ble_eq_true rfl, Nat.le_of_ble_eq_true rfl⟩ rfl (Nat.le_of_ble_eq_true rfl) dJ0_length_8abf5_6 (fun r X' R' hp => ?_)
  obtain ⟨e1, e2, e3⟩ := hp
  rw [e1, e2, e3]
  clear e1 e2 e3 r X' R'
  refine x_ishr C dJ0_length_8abf5_9 ?_
  refine x_topi (y := (nI n)) (sb_shr0 _) ?_
  exact x_iret C (⟨rfl, rfl, rfl⟩) (Nat.le_of_ble_eq_true rfl) (Nat.le_of_ble_eq_true rfl) dJ0_length_8abf5_10
abbrev rmJ3_checkIndex_8e157R : Room := { frames := 0, cells := 0, slots := 0, locals := 0 }
set_option maxHeartbeats 4000000 in
set_option maxRecDepth 100000 in
theorem cJ3_checkIndex_8e157R_ok {l : Launch} {ρ : bsR} {sc L : Nat} {xs : Nat → Int32} {cA : Nat → ClassId} {dC : Nat → ClassId} {dI : Nat → Nat → Nat} {X : bsX} {i n : Int32} {w : Value} {Rz : va_W} (hw : w = .null ∨ ∃ a, w = .ref a) (h0 : ¬ i < 0) (h1 : i < n) : xMi l yJ3_checkIndex_8e157 cJ3_checkIndex_8e157 3 (some .int) rmJ3_checkIndex_8e157R ρ sc L xs cA dC dI [.int i, .int n, w] X (Rz) (fun r X' R' => r = i ∧ X' = X ∧ R' = Rz) := by
  refine xMi_of (by decide +kernel) (by rcases hw with rfl | ⟨_, rfl⟩ <;> exact Nat.le_of_ble_eq_true rfl) (fun p e s m args below meth c C => ?_)
  have C : xCx p m c cJ3_checkIndex_8e157 3 s args (Cond.code yJ3_checkIndex_8e157 cJ3_checkIndex_8e157 3 (some .int) :: bsG) RJ3 ρ sc L xs cA dC dI (bsA ρ cA (Rz) s.heap.size) meth (some .int) := C
  rcases hw with rfl | ⟨w0, rfl⟩
  · refine x_sub [0, 1, 2] rfl ?_
    refine x_iload_n C dJ3_checkIndex_8e157_0 rfl rfl ?_
    refine x_if_lt (tgt := 9) C dJ3_checkIndex_8e157_1 (by decide) (fun h => absurd h (h0)) (fun _ => ?_)
    refine x_iload_n C dJ3_checkIndex_8e157_4 rfl rfl ?_
    refine x_iload_n C dJ3_checkIndex_8e157_5 rfl rfl ?_
    refine x_icmp_lt (tgt := 16) C dJ3_checkIndex_8e157_6 (by decide) (fun _ => ?_) (fun h => absurd (h1) h)
    refine x_iload_n C dJ3_checkIndex_8e157_16 rfl rfl ?_
    exact x_iret C (⟨rfl, rfl, rfl⟩) (Nat.le_of_ble_eq_true rfl) (Nat.le_of_ble_eq_true rfl) dJ3_checkIndex_8e157_17
  · refine x_sub [0, 1, 2] rfl ?_
    refine x_iload_n C dJ3_checkIndex_8e157_0 rfl rfl ?_
    refine x_if_lt (tgt := 9) C dJ3_checkIndex_8e157_1 (by decide) (fun h => absurd h (h0)) (fun _ => ?_)
    refine x_iload_n C dJ3_checkIndex_8e157_4 rfl rfl ?_
    refine x_iload_n C dJ3_checkIndex_8e157_5 rfl rfl ?_
    refine x_icmp_lt (tgt := 16) C dJ3_checkIndex_8e157_6 (by decide) (fun _ => ?_) (fun h => absurd (h1) h)
    refine x_iload_n C dJ3_checkIndex_8e157_16 rfl rfl ?_
    exact x_iret C (⟨rfl, rfl, rfl⟩) (Nat.le_of_ble_eq_true rfl) (Nat.le_of_ble_eq_true rfl) dJ3_checkIndex_8e157_17
abbrev rmJ0_checkIndex_df160R : Room := { frames := 1, cells := 0, slots := 0, locals := 22 }
set_option maxHeartbeats 4000000 in
set_option maxRecDepth 100000 in
theorem cJ0_checkIndex_df160R_ok {l : Launch} {ρ : bsR} {sc L : Nat} {xs : Nat → Int32} {cA : Nat → ClassId} {dC : Nat → ClassId} {dI : Nat → Nat → Nat} {X : bsX} {i n : Int32} {Rz : va_W} (h0 : ¬ i < 0) (h1 : i < n) : xMv l yJ0_checkIndex_df160 cJ0_checkIndex_df160 2 none rmJ0_checkIndex_df160R ρ sc L xs cA dC dI [.int i, .int n] X (Rz) (fun X' R' => X' = X ∧ R' = Rz) := by
  refine xMv_of (by decide +kernel) (Nat.le_of_ble_eq_true rfl) (fun p e s m args below meth c C => ?_)
  have C : xCx p m c cJ0_checkIndex_df160 2 s args (Cond.code yJ0_checkIndex_df160 cJ0_checkIndex_df160 2 none :: bsG) RJ0 ρ sc L xs cA dC dI (bsA ρ cA (Rz) s.heap.size) meth none := C
  refine x_sub [0, 1] rfl ?_
  refine x_iload_n C dJ0_checkIndex_df160_0 rfl rfl ?_
  refine x_iload_n C dJ0_checkIndex_df160_1 rfl rfl ?_
  refine x_gsSI C (bsG_in 563 (by decide +kernel) rfl) dJ0_checkIndex_df160_2 (fun w hw => ?_)
  refine x_callSi (y := yJ3_checkIndex_8e157) (As := [.int i, .int n, w]) (rest := []) C (cJ3_checkIndex_8e157R_ok hw h0 h1) (bsG_in 666 (by decide +kernel) rfl) wzJ3_checkIndex_8e157 dpJ3_checkIndex_8e157 ⟨Nat.le_of_ble_eq_true rfl, Nat.le_of_ble_eq_true rfl⟩ ⟨Nat.le_of_ble_eq_true rfl, Nat.le_of_ble_eq_true rfl⟩ rfl (Nat.le_of_ble_eq_true rfl) dJ0_checkIndex_df160_5 (fun r X' R' hp => ?_)
  obtain ⟨e1, e2, e3⟩ := hp
  rw [e1, e2, e3]
  clear e1 e2 e3 r X' R'
  refine x_pop C dJ0_checkIndex_df160_8 rfl ?_
  exact x_vret C (⟨rfl, rfl⟩) (Nat.le_of_ble_eq_true rfl) (Nat.le_of_ble_eq_true rfl) dJ0_checkIndex_df160_9
theorem jd_chr {t : Nat → Nat} {n i : Nat} {a : Nat → Int32} (hL : sb_Lat t n a) (hi : i < n) : ((a i &&& 255).toUInt32 % 65536).toInt32 = nI (t i) := by
  obtain ⟨h1, h2⟩ := hL i hi
  obtain ⟨h3, h4, -⟩ := sb_byte (t i) h1
  rw [h2, h3, h4]
theorem jd_nar {t : Nat → Nat} {n i : Nat} {a : Nat → Int32} (hL : sb_Lat t n a) (hi : i < n) : narrow .char (.int (nI (t i))) = .int (nI (t i)) := by
  have h := (sb_byte (t i) (hL i hi).1).2.1
  have e : narrow .char (.int (nI (t i))) = .int ((nI (t i)).toUInt32 % 65536).toInt32 := rfl
  rw [e, h]
abbrev rmJ1_charAt_3b067R : Room := { frames := 2, cells := 0, slots := 0, locals := 43 }
set_option maxHeartbeats 4000000 in
set_option maxRecDepth 100000 in
theorem cJ1_charAt_3b067R_ok {l : Launch} {ρ : bsR} {sc L : Nat} {xs : Nat → Int32} {cA : Nat → ClassId} {dC : Nat → ClassId} {dI : Nat → Nat → Nat} {X : bsX} {q1 v n i : Nat} {t : Nat → Nat} {a : Nat → Int32} {Rz : va_W} (hv : Rz[q1]? = some (v, byC cA n a)) (hL : sb_Lat t n a) (hi : i < n) (hn : n ≤ 1026) : xMi l yJ1_charAt_3b067 cJ1_charAt_3b067 2 (some .char) rmJ1_charAt_3b067R ρ sc L xs cA dC dI [.ref v, .int (nI i)] X (Rz) (fun r X' R' => r = nI (t i) ∧ X' = X ∧ R' = Rz) := by
  refine xMi_of (by decide +kernel) (Nat.le_of_ble_eq_true rfl) (fun p e s m args below meth c C => ?_)
  have C : xCx p m c cJ1_charAt_3b067 2 s args (Cond.code yJ1_charAt_3b067 cJ1_charAt_3b067 2 (some .char) :: bsG) RJ1 ρ sc L xs cA dC dI (bsA ρ cA (Rz) s.heap.size) meth (some .char) := C
  refine x_sub [0, 1] rfl ?_
  refine x_iload_n C dJ1_charAt_3b067_0 rfl rfl ?_
  refine x_aload_n C dJ1_charAt_3b067_1 rfl rfl ?_
  refine x_alen C (v := nI n) (ty := .byte) hv rfl rfl dJ1_charAt_3b067_2 ?_
  refine x_callSv (y := yJ0_checkIndex_df160) (As := [.int (nI i), .int (nI n)]) (rest := []) C (cJ0_checkIndex_df160R_ok (pu_neg _ (by omega)) (nI_lt hi (by omega))) (bsG_in 801 (by decide +kernel) rfl) wzJ0_checkIndex_df160 dpJ0_checkIndex_df160 ⟨Nat.le_of_ble_eq_true rfl, Nat.le_of_ble_eq_true rfl⟩ ⟨Nat.le_of_ble_eq_true rfl, Nat.le_of_ble_eq_true rfl⟩ rfl (Nat.le_of_ble_eq_true rfl) dJ1_charAt_3b067_3 (fun X' R' hp => ?_)
  obtain ⟨e2, e3⟩ := hp
  rw [e2, e3]
  clear e2 e3 X' R'
  refine x_aload_n C dJ1_charAt_3b067_6 rfl rfl ?_
  refine x_iload_n C dJ1_charAt_3b067_7 rfl rfl ?_
  refine x_bald C hv (vp_in_iff.mp (vp_in_nI hi (by omega))) dJ1_charAt_3b067_8 ?_
  refine x_sipush (v := 255) C dJ1_charAt_3b067_9 (by decide) ?_
  refine x_iand C dJ1_charAt_3b067_12 ?_
  refine x_i2c C dJ1_charAt_3b067_13 ?_
  refine x_topi (y := (nI (t i))) (by rw [show bsIx (nI i) = i from nI_clamp (by omega)]; exact jd_chr hL hi) ?_
  exact x_xret C (jd_nar hL hi) (⟨rfl, rfl, rfl⟩) (Nat.le_of_ble_eq_true rfl) (Nat.le_of_ble_eq_true rfl) dJ1_charAt_3b067_14
abbrev rmJ0_charAt_5068eR : Room := { frames := 3, cells := 0, slots := 0, locals := 64 }
set_option maxHeartbeats 4000000 in
set_option maxRecDepth 100000 in
theorem cJ0_charAt_5068eR_ok {l : Launch} {ρ : bsR} {sc L : Nat} {xs : Nat → Int32} {cA : Nat → ClassId} {dC : Nat → ClassId} {dI : Nat → Nat → Nat} {X : bsX} {q0 q1 g v n i : Nat} {t : Nat → Nat} {a : Nat → Int32} {Rz : va_W} (he : Rz[q0]? = some (g, stC v)) (hv : Rz[q1]? = some (v, byC cA n a)) (hL : sb_Lat t n a) (hi : i < n) (hn : n ≤ 1026) : xMi l yJ0_charAt_5068e cJ0_charAt_5068e 2 (some .char) rmJ0_charAt_5068eR ρ sc L xs cA dC dI [.ref g, .int (nI i)] X (Rz) (fun r X' R' => r = nI (t i) ∧ X' = X ∧ R' = Rz) := by
  refine xMi_of (by decide +kernel) (Nat.le_of_ble_eq_true rfl) (fun p e s m args below meth c C => ?_)
  have C : xCx p m c cJ0_charAt_5068e 2 s args (Cond.code yJ0_charAt_5068e cJ0_charAt_5068e 2 (some .char) :: bsG) RJ0 ρ sc L xs cA dC dI (bsA ρ cA (Rz) s.heap.size) meth (some .char) := C
  refine x_sub [0, 1] rfl ?_
  refine x_aload_n C dJ0_charAt_5068e_0 rfl rfl ?_
  refine x_callVi (y := yJ0_isLatin1_aae02) (As := []) (rest := []) C (cJ0_isLatin1_aae02R_ok he hv) (bsG_in 794 (by decide +kernel) rfl) wyJ0_isLatin1_aae02 he rfl dpJ0_isLatin1_aae02 ⟨Nat.le_of_ble_eq_true rfl, Nat.le_of_ble_eq_true rfl⟩ ⟨Nat.le_of_ble_eq_true rfl, Nat.le_of_ble_eq_true rfl⟩ rfl (Nat.le_of_ble_eq_true rfl) dJ0_charAt_5068e_1 (fun r X' R' hp => ?_)
  obtain ⟨e1, e2, e3⟩ := hp
  rw [e1, e2, e3]
  clear e1 e2 e3 r X' R'
  refine x_if_eq (tgt := 16) C dJ0_charAt_5068e_4 (by decide) (fun h => absurd h (by decide)) (fun _ => ?_)
  refine x_aload_n C dJ0_charAt_5068e_7 rfl rfl ?_
  refine x_get C (T := TJ0) (N := 4) (k := 0) (Cn := RJ0) (ref := "java/lang/String") he rfl bsin_J0 (by decide) (bsG_in 1558 (by decide +kernel) rfl) rfl rfl dJ0_charAt_5068e_8 ?_
  refine x_iload_n C dJ0_charAt_5068e_11 rfl rfl ?_
  refine x_callSi (y := yJ1_charAt_3b067) (As := [.ref v, .int (nI i)]) (rest := []) C (cJ1_charAt_3b067R_ok hv hL hi hn) (bsG_in 798 (by decide +kernel) rfl) wzJ1_charAt_3b067 dpJ1_charAt_3b067 ⟨Nat.le_of_ble_eq_true rfl, Nat.le_of_ble_eq_true rfl⟩ ⟨Nat.le_of_ble_eq_true rfl, Nat.le_of_ble_eq_true rfl⟩ rfl (Nat.le_of_ble_eq_true rfl) dJ0_charAt_5068e_12 (fun r X' R' hp => ?_)
  obtain ⟨e1, e2, e3⟩ := hp
  rw [e1, e2, e3]
  clear e1 e2 e3 r X' R'
  exact x_xret C (jd_nar hL hi) (⟨rfl, rfl, rfl⟩) (Nat.le_of_ble_eq_true rfl) (Nat.le_of_ble_eq_true rfl) dJ0_charAt_5068e_15
