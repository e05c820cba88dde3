/-! THE JDK: toString -/
abbrev rmJ7_checkLength_df160 : Room := { frames := 0, cells := 0, slots := 0, locals := 0 }
set_option maxHeartbeats 4000000 in
set_option maxRecDepth 100000 in
theorem cJ7_checkLength_df160_ok {l : Launch} {ρ : bsR} {sc L : Nat} {xs : Nat → Int32} {cA : Nat → ClassId} {dC : Nat → ClassId} {dI : Nat → Nat → Nat} {X : bsX} {n : Nat} {Rz : va_W} (hn : n < 2 ^ 31) : xMv l yJ7_checkLength_df160 cJ7_checkLength_df160 2 none rmJ7_checkLength_df160 ρ sc L xs cA dC dI [.int 0, .int (nI n)] X (Rz) (fun X' R' => X' = X ∧ R' = Rz) := by
  refine xMv_of (by decide +kernel) (Nat.le_of_ble_eq_true rfl) (fun p e s m args below meth c C => ?_)
  have C : xCx p m c cJ7_checkLength_df160 2 s args (Cond.code yJ7_checkLength_df160 cJ7_checkLength_df160 2 none :: bsG) RJ7 ρ sc L xs cA dC dI (bsA ρ cA (Rz) s.heap.size) meth none := C
  refine x_sub [0, 1] rfl ?_
  refine x_iload_n C dJ7_checkLength_df160_0 rfl rfl ?_
  refine x_iload_n C dJ7_checkLength_df160_1 rfl rfl ?_
  refine x_icmp_ge (tgt := 37) C dJ7_checkLength_df160_2 (by decide) (fun _ => ?_) (fun h => absurd (nI_pos' hn) h)
  exact x_vret C (⟨rfl, rfl⟩) (Nat.le_of_ble_eq_true rfl) (Nat.le_of_ble_eq_true rfl) dJ7_checkLength_df160_37
theorem jd_min {n k : Nat} (h : n ≤ k) (hk : k < 2 ^ 31) : bsMin (nI k) (nI n) = nI n := by
  unfold bsMin
  by_cases g : n < k
  · rw [if_pos (nI_lt g hk)]
  · obtain rfl : n = k := by omega
    exact ite_self _
theorem wzJ7_checkLength_df160 : bsWz yJ7_checkLength_df160 cJ7_checkLength_df160 2 none := ⟨(bsG_in 1527 (by decide +kernel) rfl), (bsG_in 46 (by decide +kernel) rfl), (bsG_in 1528 (by decide +kernel) rfl), by decide +kernel, by decide +kernel⟩
theorem dpJ7_checkLength_df160 : (parseMethodDescriptor yJ7_checkLength_df160.desc).map (fun d => d.parameters.length) = some 2 := by decide +kernel
abbrev rmJ7_copyOfRangeByte_39247 : Room := { frames := 1, cells := 1, slots := 1026, locals := 60 }
set_option maxHeartbeats 4000000 in
set_option maxRecDepth 100000 in
theorem cJ7_copyOfRangeByte_39247_ok {l : Launch} {ρ : bsR} {sc L : Nat} {xs : Nat → Int32} {cA : Nat → ClassId} {dC : Nat → ClassId} {dI : Nat → Nat → Nat} {X : bsX} {q1 v k n : Nat} {a : Nat → Int32} {Rz : va_W} (hv : Rz[q1]? = some (v, byC cA k a)) (hf : sb_Fit a) (hnk : n ≤ k) (hk : k ≤ 1026) : xMr l yJ7_copyOfRangeByte_39247 cJ7_copyOfRangeByte_39247 5 (some (.array .byte)) rmJ7_copyOfRangeByte_39247 ρ sc L xs cA dC dI [.ref v, .int 0, .int (nI n)] X (Rz) (fun r X' R' => X' = X ∧ ∃ a2 : Nat → Int32, R' = Rz ++ [(r, byC cA n a2)] ∧ ∀ j, j < n → a2 j = a j) := by
  refine xMr_of (by decide +kernel) (Nat.le_of_ble_eq_true rfl) (fun p e s m args below meth c C => ?_)
  have C : xCx p m c cJ7_copyOfRangeByte_39247 5 s args (Cond.code yJ7_copyOfRangeByte_39247 cJ7_copyOfRangeByte_39247 5 (some (.array .byte)) :: bsG) RJ7 ρ sc L xs cA dC dI (bsA ρ cA (Rz) s.heap.size) meth (some (.array .byte)) := C
  refine x_sub [0, 1, 2] rfl ?_
  refine x_iload_n C dJ7_copyOfRangeByte_39247_0 rfl rfl ?_
  refine x_iload_n C dJ7_copyOfRangeByte_39247_1 rfl rfl ?_
  refine x_callSv (y := yJ7_checkLength_df160) (As := [.int 0, .int (nI n)]) (rest := []) C (cJ7_checkLength_df160_ok (by omega)) (bsG_in 1526 (by decide +kernel) rfl) wzJ7_checkLength_df160 dpJ7_checkLength_df160 ⟨Nat.le_of_ble_eq_true rfl, Nat.le_of_ble_eq_true rfl⟩ ⟨Nat.le_of_ble_eq_true rfl, Nat.le_of_ble_eq_true rfl⟩ rfl (Nat.le_of_ble_eq_true rfl) dJ7_copyOfRangeByte_39247_2 (fun X' R' hp => ?_)
  obtain ⟨e2, e3⟩ := hp
  rw [e2, e3]
  clear e2 e3 X' R'
  refine x_iload_n C dJ7_copyOfRangeByte_39247_5 rfl rfl ?_
  refine x_iload_n C dJ7_copyOfRangeByte_39247_6 rfl rfl ?_
  refine x_isub C dJ7_copyOfRangeByte_39247_7 ?_
  refine x_topi (y := (nI n)) (show nI n - 0 = nI n from pk_sub (a := n) (b := 0) (Nat.zero_le n)) ?_
  refine x_istore_n (lv' := [(3, .int (nI n)), (0, .ref v), (1, .int 0), (2, .int (nI n))]) C dJ7_copyOfRangeByte_39247_8 rfl (by decide) rfl ?_
  refine x_iload_n C dJ7_copyOfRangeByte_39247_9 rfl rfl ?_
  refine x_newb (N := n) C (pu_neg _ (by omega)) (nI_clamp (by omega)) (by omega) ⟨Nat.le_of_ble_eq_true rfl, by show 0 + 0 + n ≤ 1026; omega⟩ dJ7_copyOfRangeByte_39247_10 (fun u => ?_)
  refine x_widen (k := 1) (n := 1026) (Nat.le_of_ble_eq_true rfl) (by show 0 + 0 + n ≤ 1026; omega) ?_
  have hv2 := (List.getElem?_append_left (l₂ := [(u, byC cA n (fun _ => (0 : Int32)))]) (List.getElem?_eq_some_iff.mp hv).1).trans hv
  have hu2 : (Rz ++ [(u, byC cA n (fun _ => (0 : Int32)))])[Rz.length + 0]? = some (u, byC cA n (fun _ => (0 : Int32))) := (jd_at Rz _ 0).trans rfl
  refine x_astore (lv' := [(4, .ref u), (3, .int (nI n)), (0, .ref v), (1, .int 0), (2, .int (nI n))]) C dJ7_copyOfRangeByte_39247_12 (by decide) rfl ?_
  refine x_aload_n C dJ7_copyOfRangeByte_39247_14 rfl rfl ?_
  refine x_iload_n C dJ7_copyOfRangeByte_39247_15 rfl rfl ?_
  refine x_aload C dJ7_copyOfRangeByte_39247_16 rfl ?_
  refine x_iconst (v := 0) C dJ7_copyOfRangeByte_39247_18 (by decide) ?_
  refine x_aload_n C dJ7_copyOfRangeByte_39247_19 rfl rfl ?_
  refine x_alen C (v := nI k) (ty := .byte) hv2 rfl rfl dJ7_copyOfRangeByte_39247_20 ?_
  refine x_iload_n C dJ7_copyOfRangeByte_39247_21 rfl rfl ?_
  refine x_isub C dJ7_copyOfRangeByte_39247_22 ?_
  refine x_topi (y := (nI k)) (show nI k - 0 = nI k from pk_sub (a := k) (b := 0) (Nat.zero_le k)) ?_
  refine x_iload_n C dJ7_copyOfRangeByte_39247_23 rfl rfl ?_
  refine x_mmin C (Nat.le_of_ble_eq_true rfl) (Nat.le_of_ble_eq_true rfl) (Nat.le_of_ble_eq_true rfl) (Nat.le_of_ble_eq_true rfl) (bsG_in 539 (by decide +kernel) rfl) dJ7_copyOfRangeByte_39247_24 ?_
  refine x_topi (y := (nI n)) (jd_min hnk (by omega)) ?_
  refine x_copyB (n := nI n) (Rz' := Rz ++ [(u, byC cA n (va_cpy a (fun _ => 0) 0 0 n))]) C (bsG_in 542 (by decide +kernel) rfl) hv2 hu2 (by decide) (by decide) (pu_neg _ (by omega)) (by rw [sb_cl0, nI_clamp (by omega)]; omega) (by rw [sb_cl0, nI_clamp (by omega)]; omega) (fun i _ => hf _) (Nat.le_of_ble_eq_true rfl) (Nat.le_of_ble_eq_true rfl) ((jd_set Rz _ 0 _).trans (by rw [sb_cl0, nI_clamp (by omega)]; rfl)) dJ7_copyOfRangeByte_39247_27 ?_
  refine x_aload C dJ7_copyOfRangeByte_39247_30 rfl ?_
  exact x_aret C (Or.inr ⟨_, rfl⟩) (⟨rfl, _, rfl, fun j hj => sb_cpy0 hj⟩) (Nat.le_of_ble_eq_true rfl) (Nat.le_of_ble_eq_true rfl) dJ7_copyOfRangeByte_39247_32
theorem wzJ7_copyOfRangeByte_39247 : bsWz yJ7_copyOfRangeByte_39247 cJ7_copyOfRangeByte_39247 5 (some (.array .byte)) := ⟨(bsG_in 1524 (by decide +kernel) rfl), (bsG_in 46 (by decide +kernel) rfl), (bsG_in 1525 (by decide +kernel) rfl), by decide +kernel, by decide +kernel⟩
theorem dpJ7_copyOfRangeByte_39247 : (parseMethodDescriptor yJ7_copyOfRangeByte_39247.desc).map (fun d => d.parameters.length) = some 3 := by decide +kernel
abbrev rmJ7_copyOfRange_39247 : Room := { frames := 2, cells := 1, slots := 1026, locals := 84 }
set_option maxHeartbeats 4000000 in
set_option maxRecDepth 100000 in
theorem cJ7_copyOfRange_39247_ok {l : Launch} {ρ : bsR} {sc L : Nat} {xs : Nat → Int32} {cA : Nat → ClassId} {dC : Nat → ClassId} {dI : Nat → Nat → Nat} {X : bsX} {q1 v k n : Nat} {a : Nat → Int32} {Rz : va_W} (hv : Rz[q1]? = some (v, byC cA k a)) (hf : sb_Fit a) (hnk : n ≤ k) (hk : k ≤ 1026) : xMr l yJ7_copyOfRange_39247 cJ7_copyOfRange_39247 3 (some (.array .byte)) rmJ7_copyOfRange_39247 ρ sc L xs cA dC dI [.ref v, .int 0, .int (nI n)] X (Rz) (fun r X' R' => X' = X ∧ ∃ a2 : Nat → Int32, R' = Rz ++ [(r, byC cA n a2)] ∧ ∀ j, j < n → a2 j = a j) := by
  refine xMr_of (by decide +kernel) (Nat.le_of_ble_eq_true rfl) (fun p e s m args below meth c C => ?_)
  have C : xCx p m c cJ7_copyOfRange_39247 3 s args (Cond.code yJ7_copyOfRange_39247 cJ7_copyOfRange_39247 3 (some (.array .byte)) :: bsG) RJ7 ρ sc L xs cA dC dI (bsA ρ cA (Rz) s.heap.size) meth (some (.array .byte)) := C
  refine x_sub [0, 1, 2] rfl ?_
  refine x_iload_n C dJ7_copyOfRange_39247_0 rfl rfl ?_
  refine x_if_ne (tgt := 10) C dJ7_copyOfRange_39247_1 (by decide) (fun h => absurd (rfl) h) (fun _ => ?_)
  refine x_iload_n C dJ7_copyOfRange_39247_4 rfl rfl ?_
  refine x_aload_n C dJ7_copyOfRange_39247_5 rfl rfl ?_
  refine x_alen C (v := nI k) (ty := .byte) hv rfl rfl dJ7_copyOfRange_39247_6 ?_
  refine x_icmp_eq (tgt := 17) C dJ7_copyOfRange_39247_7 (by decide) (fun hb => ?_) (fun hb => ?_)
  rotate_left
  · clear hb
    refine x_aload_n C dJ7_copyOfRange_39247_10 rfl rfl ?_
    refine x_iload_n C dJ7_copyOfRange_39247_11 rfl rfl ?_
    refine x_iload_n C dJ7_copyOfRange_39247_12 rfl rfl ?_
    refine x_callSr (y := yJ7_copyOfRangeByte_39247) (As := [.ref v, .int 0, .int (nI n)]) (rest := []) C (cJ7_copyOfRangeByte_39247_ok hv hf hnk hk) (bsG_in 1523 (by decide +kernel) rfl) wzJ7_copyOfRangeByte_39247 dpJ7_copyOfRangeByte_39247 ⟨Nat.le_of_ble_eq_true rfl, Nat.le_of_ble_eq_true rfl⟩ ⟨Nat.le_of_ble_eq_true rfl, Nat.le_of_ble_eq_true rfl⟩ rfl (Nat.le_of_ble_eq_true rfl) dJ7_copyOfRange_39247_13 (fun r X' R' hp => ?_)
    exact x_aret C (Or.inr ⟨_, rfl⟩) (hp) (Nat.le_of_ble_eq_true rfl) (Nat.le_of_ble_eq_true rfl) dJ7_copyOfRange_39247_16
  · have hnk2 : n = k := (nI_eq (by omega) (by omega)).mp hb
    subst hnk2
    refine x_aload_n C dJ7_copyOfRange_39247_17 rfl rfl ?_
    refine x_cloneB C (bsG_in 532 (by decide +kernel) rfl) hv hf (Nat.le_of_ble_eq_true rfl) (Nat.le_of_ble_eq_true rfl) ⟨Nat.le_of_ble_eq_true rfl, by show 0 + n ≤ 1026; omega⟩ dJ7_copyOfRange_39247_18 (fun u => ?_)
    refine x_widen (k := 1) (n := 1026) (Nat.le_of_ble_eq_true rfl) (by show 0 + n ≤ 1026; omega) ?_
    refine x_castB C (bsG_in 538 (by decide +kernel) rfl) ((jd_at Rz [(u, byC cA n a)] 0).trans rfl) dJ7_copyOfRange_39247_21 ?_
    exact x_aret C (Or.inr ⟨_, rfl⟩) (⟨rfl, a, rfl, fun _ _ => rfl⟩) (Nat.le_of_ble_eq_true rfl) (Nat.le_of_ble_eq_true rfl) dJ7_copyOfRange_39247_24
theorem wzJ4_length_8abf5 : xWo yJ4_length_8abf5 cJ4_length_8abf5 1 (some .int) := ⟨(bsG_in 1472 (by decide +kernel) rfl), (bsG_in 41 (by decide +kernel) rfl), (bsG_in 1474 (by decide +kernel) rfl)⟩
theorem wuJ5_getValue_6d5f1 : xWu yJ5_getValue_6d5f1 cJ5_getValue_6d5f1 1 (some (.array .byte)) := ⟨(bsG_in 1514 (by decide +kernel) rfl), Or.inl (bsG_in 1516 (by decide +kernel) rfl), (bsG_in 40 (by decide +kernel) rfl), (bsG_in 1517 (by decide +kernel) rfl), (bsG_in 1515 (by decide +kernel) rfl), by decide +kernel, by decide +kernel⟩
theorem dpJ5_getValue_6d5f1 : (parseMethodDescriptor yJ5_getValue_6d5f1.desc).map (fun d => d.parameters.length) = some 0 := by decide +kernel
theorem wzJ7_copyOfRange_39247 : bsWz yJ7_copyOfRange_39247 cJ7_copyOfRange_39247 3 (some (.array .byte)) := ⟨(bsG_in 1521 (by decide +kernel) rfl), (bsG_in 46 (by decide +kernel) rfl), (bsG_in 1522 (by decide +kernel) rfl), by decide +kernel, by decide +kernel⟩
theorem dpJ7_copyOfRange_39247 : (parseMethodDescriptor yJ7_copyOfRange_39247.desc).map (fun d => d.parameters.length) = some 3 := by decide +kernel
abbrev rmJ0_init_db425 : Room := { frames := 3, cells := 1, slots := 1026, locals := 106 }
set_option maxHeartbeats 4000000 in
set_option maxRecDepth 100000 in
theorem cJ0_init_db425_ok {l : Launch} {ρ : bsR} {sc L : Nat} {xs : Nat → Int32} {cA : Nat → ClassId} {dC : Nat → ClassId} {dI : Nat → Nat → Nat} {X : bsX} {b v k n q : Nat} {ml : Int32} {t : Nat → Nat} {a : Nat → Int32} {R0 : va_W} (hL : sb_Lat t n a) (hf : sb_Fit a) (hnk : n ≤ k) (hm : k ≤ 1026) : xMv l yJ0_init_db425 cJ0_init_db425 5 none rmJ0_init_db425 ρ sc L xs cA dC dI [.ref q, .ref b, .null] X (R0 ++ [(b, sbC v ml (nI n)), (v, byC cA k a), (q, st0)]) (fun X' R' => X' = X ∧ ∃ (v2 : Nat) (a2 : Nat → Int32), R' = R0 ++ [(b, sbC v ml (nI n)), (v, byC cA k a), (q, stC v2), (v2, byC cA n a2)] ∧ sb_Lat t n a2) := by
  refine xMv_ofN (by decide +kernel) rfl (Nat.le_of_ble_eq_true rfl) (fun p e s m args below meth c hin2 C => ?_)
  have C : xCx p m c cJ0_init_db425 5 s args (Cond.code yJ0_init_db425 cJ0_init_db425 5 none :: bsG) RJ0 ρ sc L xs cA dC dI (bsA ρ cA (R0 ++ [(b, sbC v ml (nI n)), (v, byC cA k a), (q, st0)]) s.heap.size) meth none := C
  refine x_sub [0, 1, 2] rfl ?_
  have he : (R0 ++ [(b, sbC v ml (nI n)), (v, byC cA k a), (q, st0)])[R0.length + 0]? = some (b, sbC v ml (nI n)) := (jd_at R0 _ 0).trans rfl
  have hv : (R0 ++ [(b, sbC v ml (nI n)), (v, byC cA k a), (q, st0)])[R0.length + 1]? = some (v, byC cA k a) := (jd_at R0 _ 1).trans rfl
  have hq : (R0 ++ [(b, sbC v ml (nI n)), (v, byC cA k a), (q, st0)])[R0.length + 2]? = some (q, st0) := (jd_at R0 _ 2).trans rfl
  refine x_aload_n C dJ0_init_db425_0 rfl rfl ?_
  refine x_objInit C (bsG_in 1512 (by decide +kernel) rfl) dJ0_init_db425_1 ⟨Nat.le_of_ble_eq_true rfl, Nat.le_of_ble_eq_true rfl⟩ ?_
  refine x_aload_n C dJ0_init_db425_4 rfl rfl ?_
  refine x_callUr (y := yJ5_getValue_6d5f1) (As := []) (rest := []) C (cJ5_getValue_6d5f1_ok he) (bsG_in 1513 (by decide +kernel) rfl) wuJ5_getValue_6d5f1 he dpJ5_getValue_6d5f1 ⟨Nat.le_of_ble_eq_true rfl, Nat.le_of_ble_eq_true rfl⟩ ⟨Nat.le_of_ble_eq_true rfl, Nat.le_of_ble_eq_true rfl⟩ rfl (Nat.le_of_ble_eq_true rfl) dJ0_init_db425_5 (fun r X' R' hp => ?_)
  obtain ⟨e1, e2, e3⟩ := hp
  rw [e1, e2, e3]
  clear e1 e2 e3 r X' R'
  refine x_astore_n (lv' := [(3, .ref v), (0, .ref q), (1, .ref b), (2, .null)]) C dJ0_init_db425_8 rfl (by decide) rfl ?_
  refine x_aload_n C dJ0_init_db425_9 rfl rfl ?_
  refine x_callOi (y := yJ4_length_8abf5) (x := yJ5_length_8abf5) (As := []) (rest := []) C (cJ4_length_8abf5_ok he) (bsG_in 1518 (by decide +kernel) rfl) wzJ4_length_8abf5 woJ5_length_8abf5 he dpJ5_length_8abf5 ⟨Nat.le_of_ble_eq_true rfl, Nat.le_of_ble_eq_true rfl⟩ ⟨Nat.le_of_ble_eq_true rfl, Nat.le_of_ble_eq_true rfl⟩ rfl (Nat.le_of_ble_eq_true rfl) dJ0_init_db425_10 (fun r X' R' hp => ?_)
  obtain ⟨e1, e2, e3⟩ := hp
  rw [e1, e2, e3]
  clear e1 e2 e3 r X' R'
  refine x_istore (lv' := [(4, .int (nI n)), (3, .ref v), (0, .ref q), (1, .ref b), (2, .null)]) C dJ0_init_db425_13 (by decide) rfl ?_
  refine x_aload_n C dJ0_init_db425_15 rfl rfl ?_
  refine x_callUi (y := yJ5_isLatin1_aae02) (As := []) (rest := []) C (cJ5_isLatin1_aae02_ok he) (bsG_in 1519 (by decide +kernel) rfl) wuJ5_isLatin1_aae02 he dpJ5_isLatin1_aae02 ⟨Nat.le_of_ble_eq_true rfl, Nat.le_of_ble_eq_true rfl⟩ ⟨Nat.le_of_ble_eq_true rfl, Nat.le_of_ble_eq_true rfl⟩ rfl (Nat.le_of_ble_eq_true rfl) dJ0_init_db425_16 (fun r X' R' hp => ?_)
  obtain ⟨e1, e2, e3⟩ := hp
  rw [e1, e2, e3]
  clear e1 e2 e3 r X' R'
  refine x_if_eq (tgt := 41) C dJ0_init_db425_19 (by decide) (fun h => absurd h (by decide)) (fun _ => ?_)
  refine x_aload_n C dJ0_init_db425_22 rfl rfl ?_
  refine x_iconst (v := 0) C dJ0_init_db425_23 (by decide) ?_
  refine x_putF (Rz' := R0 ++ [(b, sbC v ml (nI n)), (v, byC cA k a), (q, st0)]) C hin2 (T := TJ0) (N := 4) (k := 1) (Cn := RJ0) (ref := "java/lang/String") (ty := .byte) hq rfl bsin_J0 tyJ0 tyJ0_ok nmJ0 (by decide) (bsG_in 1559 (by decide +kernel) rfl) rfl rfl rfl rfl rfl rfl (Nat.le_of_ble_eq_true rfl) (jd_set R0 _ 2 _) dJ0_init_db425_24 ?_
  refine x_aload_n C dJ0_init_db425_27 rfl rfl ?_
  refine x_aload_n C dJ0_init_db425_28 rfl rfl ?_
  refine x_iconst (v := 0) C dJ0_init_db425_29 (by decide) ?_
  refine x_iload C dJ0_init_db425_30 rfl ?_
  refine x_callSr (y := yJ7_copyOfRange_39247) (As := [.ref v, .int 0, .int (nI n)]) (rest := [.ref q]) C (cJ7_copyOfRange_39247_ok hv hf hnk hm) (bsG_in 1520 (by decide +kernel) rfl) wzJ7_copyOfRange_39247 dpJ7_copyOfRange_39247 ⟨Nat.le_of_ble_eq_true rfl, Nat.le_of_ble_eq_true rfl⟩ ⟨Nat.le_of_ble_eq_true rfl, Nat.le_of_ble_eq_true rfl⟩ rfl (Nat.le_of_ble_eq_true rfl) dJ0_init_db425_32 (fun r X' R' hp => ?_)
  obtain ⟨e2, a2, e3, ha2⟩ := hp
  rw [e2, e3]
  clear e2 e3 X' R'
  refine x_eq (Rz' := R0 ++ [(b, sbC v ml (nI n)), (v, byC cA k a), (q, st0), (r, byC cA n a2)]) (by rw [List.append_assoc]; rfl) ?_
  have hq2 : (R0 ++ [(b, sbC v ml (nI n)), (v, byC cA k a), (q, st0), (r, byC cA n a2)])[R0.length + 2]? = some (q, st0) := (jd_at R0 _ 2).trans rfl
  refine x_putF (Rz' := R0 ++ [(b, sbC v ml (nI n)), (v, byC cA k a), (q, stC r), (r, byC cA n a2)]) C hin2 (T := TJ0) (N := 4) (k := 0) (Cn := RJ0) (ref := "java/lang/String") (ty := .array .byte) hq2 rfl bsin_J0 tyJ0 tyJ0_ok nmJ0 (by decide) (bsG_in 1558 (by decide +kernel) rfl) rfl rfl rfl rfl rfl rfl (Nat.le_of_ble_eq_true rfl) (jd_set R0 _ 2 _) dJ0_init_db425_35 ?_
  refine x_goto (tgt := 97) C dJ0_init_db425_38 (by decide) ?_
  exact x_vret C (⟨rfl, r, a2, rfl, fun j hj => ⟨(hL j hj).1, (ha2 j hj).trans (hL j hj).2⟩⟩) (Nat.le_of_ble_eq_true rfl) (Nat.le_of_ble_eq_true rfl) dJ0_init_db425_97
theorem wiJ0_init_db425 : xWi yJ0_init_db425 cJ0_init_db425 5 := ⟨(bsG_in 1510 (by decide +kernel) rfl), (bsG_in 42 (by decide +kernel) rfl), (bsG_in 1511 (by decide +kernel) rfl), ⟨by decide +kernel, by decide +kernel⟩, rfl⟩
theorem dpJ0_init_db425 : (parseMethodDescriptor yJ0_init_db425.desc).map (fun d => d.parameters.length) = some 2 := by decide +kernel
abbrev rmJ0_init_81219 : Room := { frames := 4, cells := 1, slots := 1026, locals := 130 }
set_option maxHeartbeats 4000000 in
set_option maxRecDepth 100000 in
theorem cJ0_init_81219_ok {l : Launch} {ρ : bsR} {sc L : Nat} {xs : Nat → Int32} {cA : Nat → ClassId} {dC : Nat → ClassId} {dI : Nat → Nat → Nat} {X : bsX} {b v k n q : Nat} {ml : Int32} {t : Nat → Nat} {a : Nat → Int32} {R0 : va_W} (hL : sb_Lat t n a) (hf : sb_Fit a) (hnk : n ≤ k) (hm : k ≤ 1026) : xMv l yJ0_init_81219 cJ0_init_81219 2 none rmJ0_init_81219 ρ sc L xs cA dC dI [.ref q, .ref b] X (R0 ++ [(b, sbC v ml (nI n)), (v, byC cA k a), (q, st0)]) (fun X' R' => X' = X ∧ ∃ (v2 : Nat) (a2 : Nat → Int32), R' = R0 ++ [(b, sbC v ml (nI n)), (v, byC cA k a), (q, stC v2), (v2, byC cA n a2)] ∧ sb_Lat t n a2) := by
  refine xMv_of (by decide +kernel) (Nat.le_of_ble_eq_true rfl) (fun p e s m args below meth c C => ?_)
  have C : xCx p m c cJ0_init_81219 2 s args (Cond.code yJ0_init_81219 cJ0_init_81219 2 none :: bsG) RJ0 ρ sc L xs cA dC dI (bsA ρ cA (R0 ++ [(b, sbC v ml (nI n)), (v, byC cA k a), (q, st0)]) s.heap.size) meth none := C
  refine x_sub [0, 1] rfl ?_
  refine x_aload_n C dJ0_init_81219_0 rfl rfl ?_
  refine x_aload_n C dJ0_init_81219_1 rfl rfl ?_
  refine x_null C dJ0_init_81219_2 ?_
  refine x_callI (y := yJ0_init_db425) (As := [.ref b, .null]) (rest := []) C (cJ0_init_db425_ok hL hf hnk hm) (bsG_in 1509 (by decide +kernel) rfl) wiJ0_init_db425 dpJ0_init_db425 ⟨Nat.le_of_ble_eq_true rfl, Nat.le_of_ble_eq_true rfl⟩ ⟨Nat.le_of_ble_eq_true rfl, Nat.le_of_ble_eq_true rfl⟩ rfl (Nat.le_of_ble_eq_true rfl) dJ0_init_81219_3 (fun X' R' hp => ?_)
  exact x_vret C (hp) (Nat.le_of_ble_eq_true rfl) (Nat.le_of_ble_eq_true rfl) dJ0_init_81219_6
/-- a String r with the text t of n letters, beside R0 -/
def stW (cA : Nat → ClassId) (R0 : va_W) (r : Nat) (t : Nat → Nat) (n : Nat) (R' : va_W) : Prop := ∃ (v2 : Nat) (a2 : Nat → Int32), R' = R0 ++ [(r, stC v2), (v2, byC cA n a2)] ∧ sb_Lat t n a2
theorem wiJ0_init_81219 : xWi yJ0_init_81219 cJ0_init_81219 2 := ⟨(bsG_in 1507 (by decide +kernel) rfl), (bsG_in 42 (by decide +kernel) rfl), (bsG_in 1508 (by decide +kernel) rfl), ⟨by decide +kernel, by decide +kernel⟩, rfl⟩
theorem dpJ0_init_81219 : (parseMethodDescriptor yJ0_init_81219.desc).map (fun d => d.parameters.length) = some 1 := by decide +kernel
abbrev rmJ4_toString_0e30d : Room := { frames := 5, cells := 2, slots := 1030, locals := 151 }
set_option maxHeartbeats 4000000 in
set_option maxRecDepth 100000 in
theorem cJ4_toString_0e30d_ok {l : Launch} {ρ : bsR} {sc L : Nat} {xs : Nat → Int32} {cA : Nat → ClassId} {dC : Nat → ClassId} {dI : Nat → Nat → Nat} {X : bsX} {t : Nat → Nat} {n : Nat} {b v k : Nat} {ml : Int32} {a : Nat → Int32} {R0 : va_W} (hL : sb_Lat t n a) (hf : sb_Fit a) (hnk : n ≤ k) (hm : k ≤ 1026) : xMr l yJ4_toString_0e30d cJ4_toString_0e30d 1 (some (.object "java/lang/String")) rmJ4_toString_0e30d ρ sc L xs cA dC dI [.ref b] X (R0 ++ [(b, sbC v ml (nI n)), (v, byC cA k a)]) (fun r X' R' => X' = X ∧ stW cA R0 r t n R') := by
  refine xMr_of (by decide +kernel) (Nat.le_of_ble_eq_true rfl) (fun p e s m args below meth c C => ?_)
  have C : xCx p m c cJ4_toString_0e30d 1 s args (Cond.code yJ4_toString_0e30d cJ4_toString_0e30d 1 (some (.object "java/lang/String")) :: bsG) RJ4 ρ sc L xs cA dC dI (bsA ρ cA (R0 ++ [(b, sbC v ml (nI n)), (v, byC cA k a)]) s.heap.size) meth (some (.object "java/lang/String")) := C
  refine x_sub [0] rfl ?_
  refine x_new (ci := 0) (Cn := RJ0) (T := TJ0) (N := 4) (fs := [.null, .int 0, .int 0, .int 0]) C bsin_J0 tyJ0 tyJ0_ok (bsG_in 1504 (by decide +kernel) rfl) (bsG_in 1505 (by decide +kernel) rfl) (bsG_in 42 (by decide +kernel) rfl) rfl (by decide) ⟨Nat.le_of_ble_eq_true rfl, Nat.le_of_ble_eq_true rfl⟩ dJ4_toString_0e30d_0 (fun q => ?_)
  refine x_eq (Rz' := R0 ++ [(b, sbC v ml (nI n)), (v, byC cA k a), (q, st0)]) (by rw [List.append_assoc]; rfl) ?_
  refine x_dup C dJ4_toString_0e30d_3 rfl ?_
  refine x_aload_n C dJ4_toString_0e30d_4 rfl rfl ?_
  refine x_callI (y := yJ0_init_81219) (As := [.ref b]) (rest := [.ref q]) C (cJ0_init_81219_ok hL hf hnk hm) (bsG_in 1506 (by decide +kernel) rfl) wiJ0_init_81219 dpJ0_init_81219 ⟨Nat.le_of_ble_eq_true rfl, Nat.le_of_ble_eq_true rfl⟩ ⟨Nat.le_of_ble_eq_true rfl, Nat.le_of_ble_eq_true rfl⟩ rfl (Nat.le_of_ble_eq_true rfl) dJ4_toString_0e30d_5 (fun X' R' hp => ?_)
  obtain ⟨e2, v2, a2, e3, hL2⟩ := hp
  rw [e2, e3]
  clear e2 e3 X' R'
  refine x_subl (Rz' := R0 ++ [(q, stC v2), (v2, byC cA n a2)]) ((List.Sublist.cons _ (List.Sublist.cons _ (sl_keep (sl_keep List.Sublist.slnil)))).append_left R0) ?_
  exact x_aret C (Or.inl ⟨_, rfl⟩) (⟨rfl, v2, a2, rfl, hL2⟩) (Nat.le_of_ble_eq_true rfl) (Nat.le_of_ble_eq_true rfl) dJ4_toString_0e30d_8
