/-! THE JDK: ensureCapacityInternal, append(char) -/
/-- a StringBuilder b with the text t of n letters, beside R0 -/
def sbW (cA : Nat → ClassId) (R0 : va_W) (b : Nat) (t : Nat → Nat) (n : Nat) (R' : va_W) : Prop := ∃ (v k : Nat) (a : Nat → Int32) (ml : Int32), R' = R0 ++ [(b, sbC v ml (nI n)), (v, byC cA k a)] ∧ sb_Lat t n a ∧ sb_Fit a ∧ n ≤ k ∧ k ≤ 1026
theorem jd_capc {k q : Nat} (hq : q ≤ 512) (hm : k ≤ 1026) : q ≤ sb_cap q k ∧ sb_cap q k ≤ 1026 := by
  unfold sb_cap
  split
  · omega
  · split <;> omega
theorem wuJ5_newCapacity_0f7a4 : xWu yJ5_newCapacity_0f7a4 cJ5_newCapacity_0f7a4 6 (some .int) := ⟨(bsG_in 517 (by decide +kernel) rfl), Or.inr (by decide +kernel), (bsG_in 40 (by decide +kernel) rfl), (bsG_in 518 (by decide +kernel) rfl), (bsG_in 1627 (by decide +kernel) rfl), by decide +kernel, by decide +kernel⟩
theorem dpJ5_newCapacity_0f7a4 : (parseMethodDescriptor yJ5_newCapacity_0f7a4.desc).map (fun d => d.parameters.length) = some 1 := by decide +kernel
theorem wzJ7_copyOf_9075b : bsWz yJ7_copyOf_9075b cJ7_copyOf_9075b 3 (some (.array .byte)) := ⟨(bsG_in 530 (by decide +kernel) rfl), (bsG_in 46 (by decide +kernel) rfl), (bsG_in 531 (by decide +kernel) rfl), by decide +kernel, by decide +kernel⟩
theorem dpJ7_copyOf_9075b : (parseMethodDescriptor yJ7_copyOf_9075b.desc).map (fun d => d.parameters.length) = some 2 := by decide +kernel
abbrev rmJ5_ensureCapacityInternal_d00df : Room := { frames := 3, cells := 1, slots := 1026, locals := 82 }
set_option maxHeartbeats 4000000 in
set_option maxRecDepth 100000 in
theorem cJ5_ensureCapacityInternal_d00df_ok {l : Launch} {ρ : bsR} {sc L : Nat} {xs : Nat → Int32} {cA : Nat → ClassId} {dC : Nat → ClassId} {dI : Nat → Nat → Nat} {X : bsX} {q b v k : Nat} {ml n : Int32} {a : Nat → Int32} {R0 : va_W} (hq : q ≤ 512) (hm : k ≤ 1026) (hf : sb_Fit a) : xMv l yJ5_ensureCapacityInternal_d00df cJ5_ensureCapacityInternal_d00df 3 none rmJ5_ensureCapacityInternal_d00df ρ sc L xs cA dC dI [.ref b, .int (nI q)] X (R0 ++ [(b, sbC v ml n), (v, byC cA k a)]) (fun X' R' => X' = X ∧ ∃ (v' : Nat) (a' : Nat → Int32), R' = R0 ++ [(b, sbC v' ml n), (v', byC cA (sb_cap q k) a')] ∧ sb_Fit a' ∧ ∀ j, j < k → a' j = a j) := by
  refine xMv_of (by decide +kernel) (Nat.le_of_ble_eq_true rfl) (fun p e s m args below meth c C => ?_)
  have C : xCx p m c cJ5_ensureCapacityInternal_d00df 3 s args (Cond.code yJ5_ensureCapacityInternal_d00df cJ5_ensureCapacityInternal_d00df 3 none :: bsG) RJ5 ρ sc L xs cA dC dI (bsA ρ cA (R0 ++ [(b, sbC v ml n), (v, byC cA k a)]) s.heap.size) meth none := C
  refine x_sub [0, 1] rfl ?_
  have he : (R0 ++ [(b, sbC v ml n), (v, byC cA k a)])[R0.length + 0]? = some (b, sbC v ml n) := (jd_at R0 _ 0).trans rfl
  have hv : (R0 ++ [(b, sbC v ml n), (v, byC cA k a)])[R0.length + 1]? = some (v, byC cA k a) := (jd_at R0 _ 1).trans rfl
  have e1 : (nI q - nI k).toInt = (q : Int) - k := pk_sub_toInt (by omega) (by omega)
  refine x_aload_n C dJ5_ensureCapacityInternal_d00df_0 rfl rfl ?_
  refine x_get C (T := TJ4) (N := 4) (k := 0) (Cn := RJ4) (ref := "java/lang/AbstractStringBuilder") he rfl bsin_J4 (by decide) (bsG_in 610 (by decide +kernel) rfl) rfl rfl dJ5_ensureCapacityInternal_d00df_1 ?_
  refine x_alen C (v := nI k) (ty := .byte) hv rfl rfl dJ5_ensureCapacityInternal_d00df_4 ?_
  refine x_aload_n C dJ5_ensureCapacityInternal_d00df_5 rfl rfl ?_
  refine x_get C (T := TJ4) (N := 4) (k := 1) (Cn := RJ4) (ref := "java/lang/AbstractStringBuilder") he rfl bsin_J4 (by decide) (bsG_in 611 (by decide +kernel) rfl) rfl rfl dJ5_ensureCapacityInternal_d00df_6 ?_
  refine x_ishr C dJ5_ensureCapacityInternal_d00df_9 ?_
  refine x_topi (y := (nI k)) (sb_shr0 _) ?_
  refine x_istore_n (lv' := [(2, .int (nI k)), (0, .ref b), (1, .int (nI q))]) C dJ5_ensureCapacityInternal_d00df_10 rfl (by decide) rfl ?_
  refine x_iload_n C dJ5_ensureCapacityInternal_d00df_11 rfl rfl ?_
  refine x_iload_n C dJ5_ensureCapacityInternal_d00df_12 rfl rfl ?_
  refine x_isub C dJ5_ensureCapacityInternal_d00df_13 ?_
  refine x_if_le (tgt := 38) C dJ5_ensureCapacityInternal_d00df_14 (by decide) (fun hb => ?_) (fun hb => ?_)
  · rw [Int32.le_iff_toInt_le, e1, Int32.toInt_zero] at hb
    have hqk : q ≤ k := by omega
    exact x_vret C (⟨rfl, v, a, by rw [sb_cap, if_pos hqk], hf, fun _ _ => rfl⟩) (Nat.le_of_ble_eq_true rfl) (Nat.le_of_ble_eq_true rfl) dJ5_ensureCapacityInternal_d00df_38
  · rw [Int32.le_iff_toInt_le, e1, Int32.toInt_zero] at hb
    have hqk : k < q := by omega
    refine x_aload_n C dJ5_ensureCapacityInternal_d00df_17 rfl rfl ?_
    refine x_aload_n C dJ5_ensureCapacityInternal_d00df_18 rfl rfl ?_
    refine x_get C (T := TJ4) (N := 4) (k := 0) (Cn := RJ4) (ref := "java/lang/AbstractStringBuilder") he rfl bsin_J4 (by decide) (bsG_in 610 (by decide +kernel) rfl) rfl rfl dJ5_ensureCapacityInternal_d00df_19 ?_
    refine x_aload_n C dJ5_ensureCapacityInternal_d00df_22 rfl rfl ?_
    refine x_iload_n C dJ5_ensureCapacityInternal_d00df_23 rfl rfl ?_
    refine x_callUi (y := yJ5_newCapacity_0f7a4) (As := [.int (nI q)]) (rest := [.ref v, .ref b]) C (cJ5_newCapacity_0f7a4_ok he hv hqk hq hm) (bsG_in 515 (by decide +kernel) rfl) wuJ5_newCapacity_0f7a4 he dpJ5_newCapacity_0f7a4 ⟨Nat.le_of_ble_eq_true rfl, Nat.le_of_ble_eq_true rfl⟩ ⟨Nat.le_of_ble_eq_true rfl, Nat.le_of_ble_eq_true rfl⟩ rfl (Nat.le_of_ble_eq_true rfl) dJ5_ensureCapacityInternal_d00df_24 (fun r X' R' hp => ?_)
    obtain ⟨e1, e2, e3⟩ := hp
    rw [e1, e2, e3]
    clear e1 e2 e3 r X' R'
    refine x_aload_n C dJ5_ensureCapacityInternal_d00df_27 rfl rfl ?_
    refine x_get C (T := TJ4) (N := 4) (k := 1) (Cn := RJ4) (ref := "java/lang/AbstractStringBuilder") he rfl bsin_J4 (by decide) (bsG_in 611 (by decide +kernel) rfl) rfl rfl dJ5_ensureCapacityInternal_d00df_28 ?_
    refine x_ishl C dJ5_ensureCapacityInternal_d00df_31 ?_
    refine x_topi (y := (nI (sb_cap q k))) (sb_shl0 _) ?_
    have hB := jd_capb hqk hq hm
    refine x_callSr (y := yJ7_copyOf_9075b) (As := [.ref v, .int (nI (sb_cap q k))]) (rest := [.ref b]) C (cJ7_copyOf_9075b_ok hv hf hB.2.2 hB.2.1) (bsG_in 529 (by decide +kernel) rfl) wzJ7_copyOf_9075b dpJ7_copyOf_9075b ⟨Nat.le_of_ble_eq_true rfl, Nat.le_of_ble_eq_true rfl⟩ ⟨Nat.le_of_ble_eq_true rfl, Nat.le_of_ble_eq_true rfl⟩ rfl (Nat.le_of_ble_eq_true rfl) dJ5_ensureCapacityInternal_d00df_32 (fun r X' R' hp => ?_)
    obtain ⟨e2, e3⟩ := hp
    rw [e2, e3]
    clear e2 e3 X' R'
    refine x_eq (Rz' := R0 ++ [(b, sbC v ml n), (v, byC cA k a), (r, byC cA (sb_cap q k) (va_cpy a (fun _ => 0) 0 0 k))]) (by rw [List.append_assoc]; rfl) ?_
    have he3 : (R0 ++ [(b, sbC v ml n), (v, byC cA k a), (r, byC cA (sb_cap q k) (va_cpy a (fun _ => 0) 0 0 k))])[R0.length + 0]? = some (b, sbC v ml n) := (jd_at R0 _ 0).trans rfl
    refine x_put (Rz' := R0 ++ [(b, sbC r ml n), (v, byC cA k a), (r, byC cA (sb_cap q k) (va_cpy a (fun _ => 0) 0 0 k))]) C (T := TJ4) (N := 4) (k := 0) (Cn := RJ4) (ref := "java/lang/AbstractStringBuilder") (ty := .array .byte) he3 rfl bsin_J4 tyJ4 tyJ4_ok nmJ4 (by decide) (bsG_in 610 (by decide +kernel) rfl) rfl rfl rfl rfl rfl (Nat.le_of_ble_eq_true rfl) (jd_set R0 _ 0 _) dJ5_ensureCapacityInternal_d00df_35 ?_
    refine x_subl (Rz' := R0 ++ [(b, sbC r ml n), (r, byC cA (sb_cap q k) (va_cpy a (fun _ => 0) 0 0 k))]) ((sl_keep (List.Sublist.cons _ (sl_keep List.Sublist.slnil))).append_left R0) ?_
    exact x_vret C (⟨rfl, r, va_cpy a (fun _ => 0) 0 0 k, rfl, sb_fitC hf sb_fit0, fun j hj => sb_cpy0 hj⟩) (Nat.le_of_ble_eq_true rfl) (Nat.le_of_ble_eq_true rfl) dJ5_ensureCapacityInternal_d00df_38
abbrev rmJ1_canEncode_fc78d : Room := { frames := 0, cells := 0, slots := 0, locals := 0 }
set_option maxHeartbeats 4000000 in
set_option maxRecDepth 100000 in
theorem cJ1_canEncode_fc78d_ok {l : Launch} {ρ : bsR} {sc L : Nat} {xs : Nat → Int32} {cA : Nat → ClassId} {dC : Nat → ClassId} {dI : Nat → Nat → Nat} {X : bsX} {ch : Nat} {Rz : va_W} (hc : ch < 256) : xMi l yJ1_canEncode_fc78d cJ1_canEncode_fc78d 1 (some .boolean) rmJ1_canEncode_fc78d ρ sc L xs cA dC dI [.int (nI ch)] X (Rz) (fun r X' R' => r = 1 ∧ X' = X ∧ R' = Rz) := by
  refine xMi_of (by decide +kernel) (Nat.le_of_ble_eq_true rfl) (fun p e s m args below meth c C => ?_)
  have C : xCx p m c cJ1_canEncode_fc78d 1 s args (Cond.code yJ1_canEncode_fc78d cJ1_canEncode_fc78d 1 (some .boolean) :: bsG) RJ1 ρ sc L xs cA dC dI (bsA ρ cA (Rz) s.heap.size) meth (some .boolean) := C
  refine x_sub [0] rfl ?_
  refine x_iload_n C dJ1_canEncode_fc78d_0 rfl rfl ?_
  refine x_sipush (v := 255) C dJ1_canEncode_fc78d_1 (by decide) ?_
  refine x_icmp_gt (tgt := 11) C dJ1_canEncode_fc78d_4 (by decide) (fun h => absurd h (show ¬ nI 255 < nI ch from nI_nlt (by omega) (by decide))) (fun _ => ?_)
  refine x_iconst (v := 1) C dJ1_canEncode_fc78d_7 (by decide) ?_
  refine x_goto (tgt := 12) C dJ1_canEncode_fc78d_8 (by decide) ?_
  exact x_xret C (rfl) (⟨rfl, rfl, rfl⟩) (Nat.le_of_ble_eq_true rfl) (Nat.le_of_ble_eq_true rfl) dJ1_canEncode_fc78d_12
theorem wzJ1_canEncode_fc78d : bsWz yJ1_canEncode_fc78d cJ1_canEncode_fc78d 1 (some .boolean) := ⟨(bsG_in 655 (by decide +kernel) rfl), (bsG_in 49 (by decide +kernel) rfl), (bsG_in 656 (by decide +kernel) rfl), by decide +kernel, by decide +kernel⟩
theorem dpJ1_canEncode_fc78d : (parseMethodDescriptor yJ1_canEncode_fc78d.desc).map (fun d => d.parameters.length) = some 1 := by decide +kernel
theorem wuJ5_ensureCapacityInternal_d00df : xWu yJ5_ensureCapacityInternal_d00df cJ5_ensureCapacityInternal_d00df 3 none := ⟨(bsG_in 513 (by decide +kernel) rfl), Or.inr (by decide +kernel), (bsG_in 40 (by decide +kernel) rfl), (bsG_in 514 (by decide +kernel) rfl), (bsG_in 1626 (by decide +kernel) rfl), by decide +kernel, by decide +kernel⟩
theorem dpJ5_ensureCapacityInternal_d00df : (parseMethodDescriptor yJ5_ensureCapacityInternal_d00df.desc).map (fun d => d.parameters.length) = some 1 := by decide +kernel
theorem wuJ5_isLatin1_aae02 : xWu yJ5_isLatin1_aae02 cJ5_isLatin1_aae02 1 (some .boolean) := ⟨(bsG_in 546 (by decide +kernel) rfl), Or.inl (bsG_in 548 (by decide +kernel) rfl), (bsG_in 40 (by decide +kernel) rfl), (bsG_in 549 (by decide +kernel) rfl), (bsG_in 547 (by decide +kernel) rfl), by decide +kernel, by decide +kernel⟩
theorem dpJ5_isLatin1_aae02 : (parseMethodDescriptor yJ5_isLatin1_aae02.desc).map (fun d => d.parameters.length) = some 0 := by decide +kernel
abbrev rmJ5_append_3fe6f : Room := { frames := 4, cells := 1, slots := 1026, locals := 104 }
set_option maxHeartbeats 4000000 in
set_option maxRecDepth 100000 in
theorem cJ5_append_3fe6f_ok {l : Launch} {ρ : bsR} {sc L : Nat} {xs : Nat → Int32} {cA : Nat → ClassId} {dC : Nat → ClassId} {dI : Nat → Nat → Nat} {X : bsX} {t : Nat → Nat} {n ch : Nat} {b v k : Nat} {ml : Int32} {a : Nat → Int32} {R0 : va_W} (hL : sb_Lat t n a) (hf : sb_Fit a) (hnk : n ≤ k) (hm : k ≤ 1026) (hq : n + 1 ≤ 512) (hc : ch < 256) : xMr l yJ5_append_3fe6f cJ5_append_3fe6f 2 (some (.object "java/lang/AbstractStringBuilder")) rmJ5_append_3fe6f ρ sc L xs cA dC dI [.ref b, .int (nI ch)] X (R0 ++ [(b, sbC v ml (nI n)), (v, byC cA k a)]) (fun r X' R' => r = b ∧ X' = X ∧ sbW cA R0 b (sb_cat t n (fun _ => ch)) (n + 1) R') := by
  refine xMr_of (by decide +kernel) (Nat.le_of_ble_eq_true rfl) (fun p e s m args below meth c C => ?_)
  have C : xCx p m c cJ5_append_3fe6f 2 s args (Cond.code yJ5_append_3fe6f cJ5_append_3fe6f 2 (some (.object "java/lang/AbstractStringBuilder")) :: bsG) RJ5 ρ sc L xs cA dC dI (bsA ρ cA (R0 ++ [(b, sbC v ml (nI n)), (v, byC cA k a)]) s.heap.size) meth (some (.object "java/lang/AbstractStringBuilder")) := C
  refine x_sub [0, 1] rfl ?_
  have he : (R0 ++ [(b, sbC v ml (nI n)), (v, byC cA k a)])[R0.length + 0]? = some (b, sbC v ml (nI n)) := (jd_at R0 _ 0).trans rfl
  have hv : (R0 ++ [(b, sbC v ml (nI n)), (v, byC cA k a)])[R0.length + 1]? = some (v, byC cA k a) := (jd_at R0 _ 1).trans rfl
  refine x_aload_n C dJ5_append_3fe6f_0 rfl rfl ?_
  refine x_aload_n C dJ5_append_3fe6f_1 rfl rfl ?_
  refine x_get C (T := TJ4) (N := 4) (k := 3) (Cn := RJ4) (ref := "java/lang/AbstractStringBuilder") he rfl bsin_J4 (by decide) (bsG_in 613 (by decide +kernel) rfl) rfl rfl dJ5_append_3fe6f_2 ?_
  refine x_iconst (v := 1) C dJ5_append_3fe6f_5 (by decide) ?_
  refine x_iadd C dJ5_append_3fe6f_6 ?_
  refine x_topi (y := (nI (n + 1))) (nI_1 n) ?_
  refine x_callUv (y := yJ5_ensureCapacityInternal_d00df) (As := [.int (nI (n + 1))]) (rest := []) C (cJ5_ensureCapacityInternal_d00df_ok hq hm hf) (bsG_in 511 (by decide +kernel) rfl) wuJ5_ensureCapacityInternal_d00df he dpJ5_ensureCapacityInternal_d00df ⟨Nat.le_of_ble_eq_true rfl, Nat.le_of_ble_eq_true rfl⟩ ⟨Nat.le_of_ble_eq_true rfl, Nat.le_of_ble_eq_true rfl⟩ rfl (Nat.le_of_ble_eq_true rfl) dJ5_append_3fe6f_7 (fun X' R' hp => ?_)
  obtain ⟨e2, v', a', e3, hf', hk'⟩ := hp
  rw [e2, e3]
  clear e2 e3 X' R'
  obtain ⟨hg1, hg2⟩ := jd_capc (k := k) (q := (n + 1)) hq hm
  have hk2 : ∀ j, j < n → a' j = a j := fun j hj => hk' j (by omega)
  clear hk'
  generalize sb_cap (n + 1) k = K at *
  have he2 : (R0 ++ [(b, sbC v' ml (nI n)), (v', byC cA K a')])[R0.length + 0]? = some (b, sbC v' ml (nI n)) := (jd_at R0 _ 0).trans rfl
  have hv2 : (R0 ++ [(b, sbC v' ml (nI n)), (v', byC cA K a')])[R0.length + 1]? = some (v', byC cA K a') := (jd_at R0 _ 1).trans rfl
  refine x_aload_n C dJ5_append_3fe6f_10 rfl rfl ?_
  refine x_callUi (y := yJ5_isLatin1_aae02) (As := []) (rest := []) C (cJ5_isLatin1_aae02_ok he2) (bsG_in 545 (by decide +kernel) rfl) wuJ5_isLatin1_aae02 he2 dpJ5_isLatin1_aae02 ⟨Nat.le_of_ble_eq_true rfl, Nat.le_of_ble_eq_true rfl⟩ ⟨Nat.le_of_ble_eq_true rfl, Nat.le_of_ble_eq_true rfl⟩ rfl (Nat.le_of_ble_eq_true rfl) dJ5_append_3fe6f_11 (fun r X' R' hp => ?_)
  obtain ⟨e1, e2, e3⟩ := hp
  rw [e1, e2, e3]
  clear e1 e2 e3 r X' R'
  refine x_if_eq (tgt := 45) C dJ5_append_3fe6f_14 (by decide) (fun h => absurd h (by decide)) (fun _ => ?_)
  refine x_iload_n C dJ5_append_3fe6f_17 rfl rfl ?_
  refine x_callSi (y := yJ1_canEncode_fc78d) (As := [.int (nI ch)]) (rest := []) C (cJ1_canEncode_fc78d_ok hc) (bsG_in 654 (by decide +kernel) rfl) wzJ1_canEncode_fc78d dpJ1_canEncode_fc78d ⟨Nat.le_of_ble_eq_true rfl, Nat.le_of_ble_eq_true rfl⟩ ⟨Nat.le_of_ble_eq_true rfl, Nat.le_of_ble_eq_true rfl⟩ rfl (Nat.le_of_ble_eq_true rfl) dJ5_append_3fe6f_18 (fun r X' R' hp => ?_)
  obtain ⟨e1, e2, e3⟩ := hp
  rw [e1, e2, e3]
  clear e1 e2 e3 r X' R'
  refine x_if_eq (tgt := 45) C dJ5_append_3fe6f_21 (by decide) (fun h => absurd h (by decide)) (fun _ => ?_)
  refine x_aload_n C dJ5_append_3fe6f_24 rfl rfl ?_
  refine x_get C (T := TJ4) (N := 4) (k := 0) (Cn := RJ4) (ref := "java/lang/AbstractStringBuilder") he2 rfl bsin_J4 (by decide) (bsG_in 610 (by decide +kernel) rfl) rfl rfl dJ5_append_3fe6f_25 ?_
  refine x_aload_n C dJ5_append_3fe6f_28 rfl rfl ?_
  refine x_dup C dJ5_append_3fe6f_29 rfl ?_
  refine x_get C (T := TJ4) (N := 4) (k := 3) (Cn := RJ4) (ref := "java/lang/AbstractStringBuilder") he2 rfl bsin_J4 (by decide) (bsG_in 613 (by decide +kernel) rfl) rfl rfl dJ5_append_3fe6f_30 ?_
  refine x_dup_x1 C dJ5_append_3fe6f_33 rfl rfl ?_
  refine x_iconst (v := 1) C dJ5_append_3fe6f_34 (by decide) ?_
  refine x_iadd C dJ5_append_3fe6f_35 ?_
  refine x_topi (y := (nI (n + 1))) (nI_1 n) ?_
  refine x_put (Rz' := R0 ++ [(b, sbC v' ml (nI (n + 1))), (v', byC cA K a')]) C (T := TJ4) (N := 4) (k := 3) (Cn := RJ4) (ref := "java/lang/AbstractStringBuilder") (ty := .int) he2 rfl bsin_J4 tyJ4 tyJ4_ok nmJ4 (by decide) (bsG_in 613 (by decide +kernel) rfl) rfl rfl rfl rfl rfl (Nat.le_of_ble_eq_true rfl) (jd_set R0 _ 0 _) dJ5_append_3fe6f_36 ?_
  have hv3 : (R0 ++ [(b, sbC v' ml (nI (n + 1))), (v', byC cA K a')])[R0.length + 1]? = some (v', byC cA K a') := (jd_at R0 _ 1).trans rfl
  refine x_iload_n C dJ5_append_3fe6f_39 rfl rfl ?_
  refine x_i2b C dJ5_append_3fe6f_40 ?_
  have hE : upd a' (bsIx (nI n)) (vp_nar .byte (nI ch).toInt8.toInt32) = upd a' n (sb_b ch) := by rw [show bsIx (nI n) = n from nI_clamp (by omega), pk_vb]; rfl
  refine x_bast (Rz' := R0 ++ [(b, sbC v' ml (nI (n + 1))), (v', byC cA K (upd a' n (sb_b ch)))]) C hv3 (vp_in_iff.mp (vp_in_nI (by omega) (by omega))) ((jd_set R0 _ 1 _).trans (by rw [hE]; rfl)) dJ5_append_3fe6f_41 ?_
  refine x_goto (tgt := 75) C dJ5_append_3fe6f_42 (by decide) ?_
  refine x_aload_n C dJ5_append_3fe6f_75 rfl rfl ?_
  exact x_aret C (Or.inl ⟨_, rfl⟩) (⟨rfl, rfl, v', K, upd a' n (sb_b ch), ml, rfl, sb_latPut hL (fun j hj => (pk_un (by omega)).trans (hk2 j hj)) (fun i hi => by obtain rfl : i = 0 := by omega
                                                                                                                                                                  exact ⟨hc, pk_us⟩), sb_fitU hf' (sb_fitB ch), by omega, by omega⟩) (Nat.le_of_ble_eq_true rfl) (Nat.le_of_ble_eq_true rfl) dJ5_append_3fe6f_76
