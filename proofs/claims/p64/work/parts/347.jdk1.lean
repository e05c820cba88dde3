/-! THE JDK: capacity of a StringBuilder, Arrays.copyOf -/
abbrev rmJ5_isLatin1_aae02 : Room := { frames := 0, cells := 0, slots := 0, locals := 0 }
set_option maxHeartbeats 4000000 in
set_option maxRecDepth 100000 in
theorem cJ5_isLatin1_aae02_ok {l : Launch} {ρ : bsR} {sc L : Nat} {xs : Nat → Int32} {cA : Nat → ClassId} {dC : Nat → ClassId} {dI : Nat → Nat → Nat} {X : bsX} {q0 b v : Nat} {ml n : Int32} {Rz : va_W} (he : Rz[q0]? = some (b, sbC v ml n)) : xMi l yJ5_isLatin1_aae02 cJ5_isLatin1_aae02 1 (some .boolean) rmJ5_isLatin1_aae02 ρ sc L xs cA dC dI [.ref b] X (Rz) (fun r X' R' => r = 1 ∧ X' = X ∧ R' = Rz) := by
  refine xMi_of (by decide +kernel) (Nat.le_of_ble_eq_true rfl) (fun p e s m args below meth c C => ?_)
  have C : xCx p m c cJ5_isLatin1_aae02 1 s args (Cond.code yJ5_isLatin1_aae02 cJ5_isLatin1_aae02 1 (some .boolean) :: bsG) RJ5 ρ sc L xs cA dC dI (bsA ρ cA (Rz) s.heap.size) meth (some .boolean) := C
  refine x_sub [0] rfl ?_
  refine x_gsCS C (bsG_in 550 (by decide +kernel) rfl) dJ5_isLatin1_aae02_0 ?_
  refine x_if_eq (tgt := 17) C dJ5_isLatin1_aae02_3 (by decide) (fun h => absurd h (by decide)) (fun _ => ?_)
  refine x_aload_n C dJ5_isLatin1_aae02_6 rfl rfl ?_
  refine x_get C (T := TJ4) (N := 4) (k := 1) (Cn := RJ4) (ref := "java/lang/AbstractStringBuilder") he rfl bsin_J4 (by decide) (bsG_in 611 (by decide +kernel) rfl) rfl rfl dJ5_isLatin1_aae02_7 ?_
  refine x_if_ne (tgt := 17) C dJ5_isLatin1_aae02_10 (by decide) (fun h => absurd (rfl) h) (fun _ => ?_)
  refine x_iconst (v := 1) C dJ5_isLatin1_aae02_13 (by decide) ?_
  refine x_goto (tgt := 18) C dJ5_isLatin1_aae02_14 (by decide) ?_
  exact x_xret C (rfl) (⟨rfl, rfl, rfl⟩) (Nat.le_of_ble_eq_true rfl) (Nat.le_of_ble_eq_true rfl) dJ5_isLatin1_aae02_18
abbrev rmJ5_length_8abf5 : Room := { frames := 0, cells := 0, slots := 0, locals := 0 }
set_option maxHeartbeats 4000000 in
set_option maxRecDepth 100000 in
theorem cJ5_length_8abf5_ok {l : Launch} {ρ : bsR} {sc L : Nat} {xs : Nat → Int32} {cA : Nat → ClassId} {dC : Nat → ClassId} {dI : Nat → Nat → Nat} {X : bsX} {q0 b v : Nat} {ml n : Int32} {Rz : va_W} (he : Rz[q0]? = some (b, sbC v ml n)) : xMi l yJ5_length_8abf5 cJ5_length_8abf5 1 (some .int) rmJ5_length_8abf5 ρ sc L xs cA dC dI [.ref b] X (Rz) (fun r X' R' => r = n ∧ X' = X ∧ R' = Rz) := by
  refine xMi_of (by decide +kernel) (Nat.le_of_ble_eq_true rfl) (fun p e s m args below meth c C => ?_)
  have C : xCx p m c cJ5_length_8abf5 1 s args (Cond.code yJ5_length_8abf5 cJ5_length_8abf5 1 (some .int) :: bsG) RJ5 ρ sc L xs cA dC dI (bsA ρ cA (Rz) s.heap.size) meth (some .int) := C
  refine x_sub [0] rfl ?_
  refine x_aload_n C dJ5_length_8abf5_0 rfl rfl ?_
  refine x_get C (T := TJ4) (N := 4) (k := 3) (Cn := RJ4) (ref := "java/lang/AbstractStringBuilder") he rfl bsin_J4 (by decide) (bsG_in 613 (by decide +kernel) rfl) rfl rfl dJ5_length_8abf5_1 ?_
  exact x_iret C (⟨rfl, rfl, rfl⟩) (Nat.le_of_ble_eq_true rfl) (Nat.le_of_ble_eq_true rfl) dJ5_length_8abf5_4
abbrev rmJ5_getValue_6d5f1 : Room := { frames := 0, cells := 0, slots := 0, locals := 0 }
set_option maxHeartbeats 4000000 in
set_option maxRecDepth 100000 in
theorem cJ5_getValue_6d5f1_ok {l : Launch} {ρ : bsR} {sc L : Nat} {xs : Nat → Int32} {cA : Nat → ClassId} {dC : Nat → ClassId} {dI : Nat → Nat → Nat} {X : bsX} {q0 b v : Nat} {ml n : Int32} {Rz : va_W} (he : Rz[q0]? = some (b, sbC v ml n)) : xMr l yJ5_getValue_6d5f1 cJ5_getValue_6d5f1 1 (some (.array .byte)) rmJ5_getValue_6d5f1 ρ sc L xs cA dC dI [.ref b] X (Rz) (fun r X' R' => r = v ∧ X' = X ∧ R' = Rz) := by
  refine xMr_of (by decide +kernel) (Nat.le_of_ble_eq_true rfl) (fun p e s m args below meth c C => ?_)
  have C : xCx p m c cJ5_getValue_6d5f1 1 s args (Cond.code yJ5_getValue_6d5f1 cJ5_getValue_6d5f1 1 (some (.array .byte)) :: bsG) RJ5 ρ sc L xs cA dC dI (bsA ρ cA (Rz) s.heap.size) meth (some (.array .byte)) := C
  refine x_sub [0] rfl ?_
  refine x_aload_n C dJ5_getValue_6d5f1_0 rfl rfl ?_
  refine x_get C (T := TJ4) (N := 4) (k := 0) (Cn := RJ4) (ref := "java/lang/AbstractStringBuilder") he rfl bsin_J4 (by decide) (bsG_in 610 (by decide +kernel) rfl) rfl rfl dJ5_getValue_6d5f1_1 ?_
  exact x_aret C (Or.inr ⟨_, rfl⟩) (⟨rfl, rfl, rfl⟩) (Nat.le_of_ble_eq_true rfl) (Nat.le_of_ble_eq_true rfl) dJ5_getValue_6d5f1_4
theorem wsJ5_length_8abf5 : xWs RJ4 yJ5_length_8abf5 cJ5_length_8abf5 1 (some .int) := ⟨(bsG_in 1476 (by decide +kernel) rfl), (bsG_in 505 (by decide +kernel) rfl), (bsG_in 40 (by decide +kernel) rfl), (bsG_in 1477 (by decide +kernel) rfl), (bsG_in 1634 (by decide +kernel) rfl), by decide +kernel⟩
theorem dpJ5_length_8abf5 : (parseMethodDescriptor yJ5_length_8abf5.desc).map (fun d => d.parameters.length) = some 0 := by decide +kernel
abbrev rmJ4_length_8abf5 : Room := { frames := 1, cells := 0, slots := 0, locals := 20 }
set_option maxHeartbeats 4000000 in
set_option maxRecDepth 100000 in
theorem cJ4_length_8abf5_ok {l : Launch} {ρ : bsR} {sc L : Nat} {xs : Nat → Int32} {cA : Nat → ClassId} {dC : Nat → ClassId} {dI : Nat → Nat → Nat} {X : bsX} {q0 b v : Nat} {ml n : Int32} {Rz : va_W} (he : Rz[q0]? = some (b, sbC v ml n)) : xMi l yJ4_length_8abf5 cJ4_length_8abf5 1 (some .int) rmJ4_length_8abf5 ρ sc L xs cA dC dI [.ref b] X (Rz) (fun r X' R' => r = n ∧ X' = X ∧ R' = Rz) := by
  refine xMi_of (by decide +kernel) (Nat.le_of_ble_eq_true rfl) (fun p e s m args below meth c C => ?_)
  have C : xCx p m c cJ4_length_8abf5 1 s args (Cond.code yJ4_length_8abf5 cJ4_length_8abf5 1 (some .int) :: bsG) RJ4 ρ sc L xs cA dC dI (bsA ρ cA (Rz) s.heap.size) meth (some .int) := C
  refine x_sub [0] rfl ?_
  refine x_aload_n C dJ4_length_8abf5_0 rfl rfl ?_
  refine x_callSi' (y := yJ5_length_8abf5) (As := []) (rest := []) C (cJ5_length_8abf5_ok he) (bsG_in 1475 (by decide +kernel) rfl) wsJ5_length_8abf5 he dpJ5_length_8abf5 ⟨Nat.le_of_ble_eq_true rfl, Nat.le_of_ble_eq_true rfl⟩ ⟨Nat.le_of_ble_eq_true rfl, Nat.le_of_ble_eq_true rfl⟩ rfl (Nat.le_of_ble_eq_true rfl) dJ4_length_8abf5_1 (fun r X' R' hp => ?_)
  obtain ⟨e1, e2, e3⟩ := hp
  rw [e1, e2, e3]
  clear e1 e2 e3 r X' R'
  exact x_iret C (⟨rfl, rfl, rfl⟩) (Nat.le_of_ble_eq_true rfl) (Nat.le_of_ble_eq_true rfl) dJ4_length_8abf5_4
theorem jd_len {k d p w : Nat} (h : k + (if d < p then p else d) = w) (hd : d < 2 ^ 30) (hp : p < 2 ^ 30) : nI k + bsMax (nI d) (nI p) = nI w := by
  unfold bsMax
  by_cases g : d < p
  · rw [if_pos (nI_lt g (by omega)), nI_add]
    rw [if_pos g] at h
    rw [h]
  · rw [if_neg (nI_nlt (by omega) (by omega)), nI_add]
    rw [if_neg g] at h
    rw [h]
abbrev rmJ8_newLength_cabcc : Room := { frames := 1, cells := 0, slots := 0, locals := 20 }
set_option maxHeartbeats 4000000 in
set_option maxRecDepth 100000 in
theorem cJ8_newLength_cabcc_ok {l : Launch} {ρ : bsR} {sc L : Nat} {xs : Nat → Int32} {cA : Nat → ClassId} {dC : Nat → ClassId} {dI : Nat → Nat → Nat} {X : bsX} {k d g w : Nat} {Rz : va_W} (h0 : k + (if d < g then g else d) = w) (hd : d < 2 ^ 30) (hp : g < 2 ^ 30) (hw0 : 0 < w) (hw : w ≤ 65536) : xMi l yJ8_newLength_cabcc cJ8_newLength_cabcc 4 (some .int) rmJ8_newLength_cabcc ρ sc L xs cA dC dI [.int (nI k), .int (nI d), .int (nI g)] X (Rz) (fun r X' R' => r = nI w ∧ X' = X ∧ R' = Rz) := by
  refine xMi_of (by decide +kernel) (Nat.le_of_ble_eq_true rfl) (fun p e s m args below meth c C => ?_)
  have C : xCx p m c cJ8_newLength_cabcc 4 s args (Cond.code yJ8_newLength_cabcc cJ8_newLength_cabcc 4 (some .int) :: bsG) RJ8 ρ sc L xs cA dC dI (bsA ρ cA (Rz) s.heap.size) meth (some .int) := C
  refine x_sub [0, 1, 2] rfl ?_
  refine x_iload_n C dJ8_newLength_cabcc_0 rfl rfl ?_
  refine x_iload_n C dJ8_newLength_cabcc_1 rfl rfl ?_
  refine x_iload_n C dJ8_newLength_cabcc_2 rfl rfl ?_
  refine x_mmax C (Nat.le_of_ble_eq_true rfl) (Nat.le_of_ble_eq_true rfl) (Nat.le_of_ble_eq_true rfl) (Nat.le_of_ble_eq_true rfl) (bsG_in 522 (by decide +kernel) rfl) dJ8_newLength_cabcc_3 ?_
  refine x_iadd C dJ8_newLength_cabcc_6 ?_
  refine x_topi (y := (nI w)) (jd_len h0 hd hp) ?_
  refine x_istore_n (lv' := [(3, .int (nI w)), (0, .int (nI k)), (1, .int (nI d)), (2, .int (nI g))]) C dJ8_newLength_cabcc_7 rfl (by decide) rfl ?_
  refine x_iconst (v := 0) C dJ8_newLength_cabcc_8 (by decide) ?_
  refine x_iload_n C dJ8_newLength_cabcc_9 rfl rfl ?_
  refine x_icmp_ge (tgt := 21) C dJ8_newLength_cabcc_10 (by decide) (fun h => absurd h (nI_nle hw0 (by omega))) (fun _ => ?_)
  refine x_iload_n C dJ8_newLength_cabcc_13 rfl rfl ?_
  refine x_ldc (v := 2147483639) C (bsG_in 525 (by decide +kernel) rfl) dJ8_newLength_cabcc_14 ?_
  refine x_icmp_gt (tgt := 21) C dJ8_newLength_cabcc_16 (by decide) (fun h => absurd h (show ¬ nI 2147483639 < nI w from nI_nlt (by omega) (by decide))) (fun _ => ?_)
  refine x_iload_n C dJ8_newLength_cabcc_19 rfl rfl ?_
  exact x_iret C (⟨rfl, rfl, rfl⟩) (Nat.le_of_ble_eq_true rfl) (Nat.le_of_ble_eq_true rfl) dJ8_newLength_cabcc_20
theorem jd_cap {k q : Nat} (hqm : k < q) : k + (if q - k < k + 2 then k + 2 else q - k) = sb_cap q k := by
  unfold sb_cap
  rw [if_neg (show ¬ q ≤ k by omega)]
  split <;> split <;> omega
theorem jd_capb {k q : Nat} (hqm : k < q) (hq : q ≤ 512) (hm : k ≤ 1026) : q ≤ sb_cap q k ∧ sb_cap q k ≤ 1026 ∧ k < sb_cap q k := by
  unfold sb_cap
  rw [if_neg (show ¬ q ≤ k by omega)]
  split <;> omega
theorem wzJ8_newLength_cabcc : bsWz yJ8_newLength_cabcc cJ8_newLength_cabcc 4 (some .int) := ⟨(bsG_in 520 (by decide +kernel) rfl), (bsG_in 44 (by decide +kernel) rfl), (bsG_in 521 (by decide +kernel) rfl), by decide +kernel, by decide +kernel⟩
theorem dpJ8_newLength_cabcc : (parseMethodDescriptor yJ8_newLength_cabcc.desc).map (fun d => d.parameters.length) = some 3 := by decide +kernel
abbrev rmJ5_newCapacity_0f7a4 : Room := { frames := 2, cells := 0, slots := 0, locals := 43 }
set_option maxHeartbeats 4000000 in
set_option maxRecDepth 100000 in
theorem cJ5_newCapacity_0f7a4_ok {l : Launch} {ρ : bsR} {sc L : Nat} {xs : Nat → Int32} {cA : Nat → ClassId} {dC : Nat → ClassId} {dI : Nat → Nat → Nat} {X : bsX} {q0 q1 b v k q : Nat} {ml n : Int32} {a : Nat → Int32} {Rz : va_W} (he : Rz[q0]? = some (b, sbC v ml n)) (hv : Rz[q1]? = some (v, byC cA k a)) (hqm : k < q) (hq : q ≤ 512) (hm : k ≤ 1026) : xMi l yJ5_newCapacity_0f7a4 cJ5_newCapacity_0f7a4 6 (some .int) rmJ5_newCapacity_0f7a4 ρ sc L xs cA dC dI [.ref b, .int (nI q)] X (Rz) (fun r X' R' => r = nI (sb_cap q k) ∧ X' = X ∧ R' = Rz) := by
  refine xMi_of (by decide +kernel) (Nat.le_of_ble_eq_true rfl) (fun p e s m args below meth c C => ?_)
  have C : xCx p m c cJ5_newCapacity_0f7a4 6 s args (Cond.code yJ5_newCapacity_0f7a4 cJ5_newCapacity_0f7a4 6 (some .int) :: bsG) RJ5 ρ sc L xs cA dC dI (bsA ρ cA (Rz) s.heap.size) meth (some .int) := C
  refine x_sub [0, 1] rfl ?_
  refine x_aload_n C dJ5_newCapacity_0f7a4_0 rfl rfl ?_
  refine x_get C (T := TJ4) (N := 4) (k := 0) (Cn := RJ4) (ref := "java/lang/AbstractStringBuilder") he rfl bsin_J4 (by decide) (bsG_in 610 (by decide +kernel) rfl) rfl rfl dJ5_newCapacity_0f7a4_1 ?_
  refine x_alen C (v := nI k) (ty := .byte) hv rfl rfl dJ5_newCapacity_0f7a4_4 ?_
  refine x_istore_n (lv' := [(2, .int (nI k)), (0, .ref b), (1, .int (nI q))]) C dJ5_newCapacity_0f7a4_5 rfl (by decide) rfl ?_
  refine x_iload_n C dJ5_newCapacity_0f7a4_6 rfl rfl ?_
  refine x_aload_n C dJ5_newCapacity_0f7a4_7 rfl rfl ?_
  refine x_get C (T := TJ4) (N := 4) (k := 1) (Cn := RJ4) (ref := "java/lang/AbstractStringBuilder") he rfl bsin_J4 (by decide) (bsG_in 611 (by decide +kernel) rfl) rfl rfl dJ5_newCapacity_0f7a4_8 ?_
  refine x_ishl C dJ5_newCapacity_0f7a4_11 ?_
  refine x_topi (y := (nI q)) (sb_shl0 _) ?_
  refine x_istore_n (lv' := [(3, .int (nI q)), (2, .int (nI k)), (0, .ref b), (1, .int (nI q))]) C dJ5_newCapacity_0f7a4_12 rfl (by decide) rfl ?_
  refine x_iload_n C dJ5_newCapacity_0f7a4_13 rfl rfl ?_
  refine x_iload_n C dJ5_newCapacity_0f7a4_14 rfl rfl ?_
  refine x_isub C dJ5_newCapacity_0f7a4_15 ?_
  refine x_topi (y := (nI (q - k))) (pk_sub (by omega)) ?_
  refine x_istore (lv' := [(4, .int (nI (q - k))), (3, .int (nI q)), (2, .int (nI k)), (0, .ref b), (1, .int (nI q))]) C dJ5_newCapacity_0f7a4_16 (by decide) rfl ?_
  refine x_iload_n C dJ5_newCapacity_0f7a4_18 rfl rfl ?_
  refine x_iload C dJ5_newCapacity_0f7a4_19 rfl ?_
  refine x_iload_n C dJ5_newCapacity_0f7a4_21 rfl rfl ?_
  refine x_iconst (v := 2) C dJ5_newCapacity_0f7a4_22 (by decide) ?_
  refine x_aload_n C dJ5_newCapacity_0f7a4_23 rfl rfl ?_
  refine x_get C (T := TJ4) (N := 4) (k := 1) (Cn := RJ4) (ref := "java/lang/AbstractStringBuilder") he rfl bsin_J4 (by decide) (bsG_in 611 (by decide +kernel) rfl) rfl rfl dJ5_newCapacity_0f7a4_24 ?_
  refine x_ishl C dJ5_newCapacity_0f7a4_27 ?_
  refine x_topi (y := 2) (sb_shl0 _) ?_
  refine x_iadd C dJ5_newCapacity_0f7a4_28 ?_
  refine x_topi (y := (nI (k + 2))) (nI_add k 2) ?_
  refine x_callSi (y := yJ8_newLength_cabcc) (As := [.int (nI k), .int (nI (q - k)), .int (nI (k + 2))]) (rest := []) C (cJ8_newLength_cabcc_ok (w := sb_cap q k) (jd_cap hqm) (by omega) (by omega) (by have := jd_capb hqm hq hm; omega) (by have := jd_capb hqm hq hm; omega)) (bsG_in 519 (by decide +kernel) rfl) wzJ8_newLength_cabcc dpJ8_newLength_cabcc ⟨Nat.le_of_ble_eq_true rfl, Nat.le_of_ble_eq_true rfl⟩ ⟨Nat.le_of_ble_eq_true rfl, Nat.le_of_ble_eq_true rfl⟩ rfl (Nat.le_of_ble_eq_true rfl) dJ5_newCapacity_0f7a4_29 (fun r X' R' hp => ?_)
  obtain ⟨e1, e2, e3⟩ := hp
  rw [e1, e2, e3]
  clear e1 e2 e3 r X' R'
  refine x_istore (lv' := [(5, .int (nI (sb_cap q k))), (4, .int (nI (q - k))), (3, .int (nI q)), (2, .int (nI k)), (0, .ref b), (1, .int (nI q))]) C dJ5_newCapacity_0f7a4_32 (by decide) rfl ?_
  refine x_iload C dJ5_newCapacity_0f7a4_34 rfl ?_
  refine x_ldc (v := 2147483647) C (bsG_in 485 (by decide +kernel) rfl) dJ5_newCapacity_0f7a4_36 ?_
  refine x_icmp_ne (tgt := 51) C dJ5_newCapacity_0f7a4_38 (by decide) (fun _ => ?_) (fun h => absurd h (fun z => by have := jd_capb hqm hq hm; have := (nI_eq (by omega) (by decide)).mp (show nI (sb_cap q k) = nI 2147483647 from z); omega))
  refine x_iload C dJ5_newCapacity_0f7a4_51 rfl ?_
  refine x_aload_n C dJ5_newCapacity_0f7a4_53 rfl rfl ?_
  refine x_get C (T := TJ4) (N := 4) (k := 1) (Cn := RJ4) (ref := "java/lang/AbstractStringBuilder") he rfl bsin_J4 (by decide) (bsG_in 611 (by decide +kernel) rfl) rfl rfl dJ5_newCapacity_0f7a4_54 ?_
  refine x_ishr C dJ5_newCapacity_0f7a4_57 ?_
  refine x_topi (y := (nI (sb_cap q k))) (sb_shr0 _) ?_
  exact x_iret C (⟨rfl, rfl, rfl⟩) (Nat.le_of_ble_eq_true rfl) (Nat.le_of_ble_eq_true rfl) dJ5_newCapacity_0f7a4_58
abbrev rmJ7_copyOf_9075b : Room := { frames := 1, cells := 1, slots := 1026, locals := 60 }
set_option maxHeartbeats 4000000 in
set_option maxRecDepth 100000 in
theorem cJ7_copyOf_9075b_ok {l : Launch} {ρ : bsR} {sc L : Nat} {xs : Nat → Int32} {cA : Nat → ClassId} {dC : Nat → ClassId} {dI : Nat → Nat → Nat} {X : bsX} {q1 v k w : Nat} {a : Nat → Int32} {Rz : va_W} (hv : Rz[q1]? = some (v, byC cA k a)) (hf : sb_Fit a) (hkw : k < w) (hw : w ≤ 1026) : xMr l yJ7_copyOf_9075b cJ7_copyOf_9075b 3 (some (.array .byte)) rmJ7_copyOf_9075b ρ sc L xs cA dC dI [.ref v, .int (nI w)] X (Rz) (fun r X' R' => X' = X ∧ R' = Rz ++ [(r, byC cA w (va_cpy a (fun _ => 0) 0 0 k))]) := by
  refine xMr_of (by decide +kernel) (Nat.le_of_ble_eq_true rfl) (fun p e s m args below meth c C => ?_)
  have C : xCx p m c cJ7_copyOf_9075b 3 s args (Cond.code yJ7_copyOf_9075b cJ7_copyOf_9075b 3 (some (.array .byte)) :: bsG) RJ7 ρ sc L xs cA dC dI (bsA ρ cA (Rz) s.heap.size) meth (some (.array .byte)) := C
  refine x_sub [0, 1] rfl ?_
  refine x_iload_n C dJ7_copyOf_9075b_0 rfl rfl ?_
  refine x_aload_n C dJ7_copyOf_9075b_1 rfl rfl ?_
  refine x_alen C (v := nI k) (ty := .byte) hv rfl rfl dJ7_copyOf_9075b_2 ?_
  refine x_icmp_ne (tgt := 14) C dJ7_copyOf_9075b_3 (by decide) (fun _ => ?_) (fun h => absurd h (fun z => by have := (nI_eq (by omega) (by omega)).mp z; omega))
  refine x_iload_n C dJ7_copyOf_9075b_14 rfl rfl ?_
  refine x_newb (N := w) C (pu_neg _ (by omega)) (nI_clamp (by omega)) (by omega) ⟨Nat.le_of_ble_eq_true rfl, by show 0 + w ≤ 1026; omega⟩ dJ7_copyOf_9075b_15 (fun u => ?_)
  refine x_widen (k := 1) (n := 1026) (Nat.le_of_ble_eq_true rfl) (by show 0 + w ≤ 1026; omega) ?_
  have hv2 := (List.getElem?_append_left (l₂ := [(u, byC cA w (fun _ => (0 : Int32)))]) (List.getElem?_eq_some_iff.mp hv).1).trans hv
  have hu2 : (Rz ++ [(u, byC cA w (fun _ => (0 : Int32)))])[Rz.length + 0]? = some (u, byC cA w (fun _ => (0 : Int32))) := (jd_at Rz _ 0).trans rfl
  refine x_astore_n (lv' := [(2, .ref u), (0, .ref v), (1, .int (nI w))]) C dJ7_copyOf_9075b_17 rfl (by decide) rfl ?_
  refine x_aload_n C dJ7_copyOf_9075b_18 rfl rfl ?_
  refine x_iconst (v := 0) C dJ7_copyOf_9075b_19 (by decide) ?_
  refine x_aload_n C dJ7_copyOf_9075b_20 rfl rfl ?_
  refine x_iconst (v := 0) C dJ7_copyOf_9075b_21 (by decide) ?_
  refine x_aload_n C dJ7_copyOf_9075b_22 rfl rfl ?_
  refine x_alen C (v := nI k) (ty := .byte) hv2 rfl rfl dJ7_copyOf_9075b_23 ?_
  refine x_iload_n C dJ7_copyOf_9075b_24 rfl rfl ?_
  refine x_mmin C (Nat.le_of_ble_eq_true rfl) (Nat.le_of_ble_eq_true rfl) (Nat.le_of_ble_eq_true rfl) (Nat.le_of_ble_eq_true rfl) (bsG_in 539 (by decide +kernel) rfl) dJ7_copyOf_9075b_25 ?_
  refine x_topi (y := (nI k)) (show bsMin (nI k) (nI w) = nI k from if_neg (nI_nlt (by omega) (by omega))) ?_
  refine x_copyB C (bsG_in 542 (by decide +kernel) rfl) hv2 hu2 (by decide) (by decide) (pu_neg _ (by omega)) (by rw [sb_cl0, nI_clamp (by omega)]; omega) (by rw [sb_cl0, nI_clamp (by omega)]; omega) (fun i _ => hf _) (Nat.le_of_ble_eq_true rfl) (Nat.le_of_ble_eq_true rfl) (jd_set Rz _ 0 _) dJ7_copyOf_9075b_28 ?_
  rw [sb_cl0, nI_clamp (by omega)]
  refine x_aload_n C dJ7_copyOf_9075b_31 rfl rfl ?_
  exact x_aret C (Or.inr ⟨_, rfl⟩) (⟨rfl, rfl⟩) (Nat.le_of_ble_eq_true rfl) (Nat.le_of_ble_eq_true rfl) dJ7_copyOf_9075b_32
