/-! THE JDK: constructors of StringBuilder -/
abbrev sb0 : va_E := .inr (1, [.null, .int 0, .int 0, .int 0])
abbrev st0 : va_E := .inr (0, [.null, .int 0, .int 0, .int 0])
theorem sb_cat0 {t s : Nat → Nat} : sb_cat t 0 s = s := funext fun j => (if_neg (Nat.not_lt_zero j)).trans (by rw [Nat.sub_zero])
abbrev rmJ5_init_d00df : Room := { frames := 1, cells := 1, slots := 16, locals := 20 }
set_option maxHeartbeats 4000000 in
set_option maxRecDepth 100000 in
theorem cJ5_init_d00df_ok {l : Launch} {ρ : bsR} {sc L : Nat} {xs : Nat → Int32} {cA : Nat → ClassId} {dC : Nat → ClassId} {dI : Nat → Nat → Nat} {X : bsX} {b : Nat} {R0 : va_W}  : xMv l yJ5_init_d00df cJ5_init_d00df 2 none rmJ5_init_d00df ρ sc L xs cA dC dI [.ref b, .int 16] X (R0 ++ [(b, sb0)]) (fun X' R' => X' = X ∧ sbW cA R0 b (fun _ => 0) 0 R') := by
  refine xMv_of (by decide +kernel) (Nat.le_of_ble_eq_true rfl) (fun p e s m args below meth c C => ?_)
  have C : xCx p m c cJ5_init_d00df 2 s args (Cond.code yJ5_init_d00df cJ5_init_d00df 2 none :: bsG) RJ5 ρ sc L xs cA dC dI (bsA ρ cA (R0 ++ [(b, sb0)]) s.heap.size) meth none := C
  refine x_sub [0, 1] rfl ?_
  have he : (R0 ++ [(b, sb0)])[R0.length + 0]? = some (b, sb0) := (jd_at R0 _ 0).trans rfl
  refine x_aload_n C dJ5_init_d00df_0 rfl rfl ?_
  refine x_objInit C (bsG_in 473 (by decide +kernel) rfl) dJ5_init_d00df_1 ⟨Nat.le_of_ble_eq_true rfl, Nat.le_of_ble_eq_true rfl⟩ ?_
  refine x_gsCS C (bsG_in 550 (by decide +kernel) rfl) dJ5_init_d00df_4 ?_
  refine x_if_eq (tgt := 25) C dJ5_init_d00df_7 (by decide) (fun h => absurd h (by decide)) (fun _ => ?_)
  refine x_aload_n C dJ5_init_d00df_10 rfl rfl ?_
  refine x_iload_n C dJ5_init_d00df_11 rfl rfl ?_
  refine x_newb (N := 16) C (by decide) (by decide) (by decide) ⟨Nat.le_of_ble_eq_true rfl, Nat.le_of_ble_eq_true rfl⟩ dJ5_init_d00df_12 (fun r => ?_)
  refine x_eq (Rz' := R0 ++ [(b, sb0), (r, byC cA 16 (fun _ => (0 : Int32)))]) (by rw [List.append_assoc]; rfl) ?_
  have he2 : (R0 ++ [(b, sb0), (r, byC cA 16 (fun _ => (0 : Int32)))])[R0.length + 0]? = some (b, sb0) := (jd_at R0 _ 0).trans rfl
  refine x_put (Rz' := R0 ++ [(b, .inr (1, [.ref r, .int 0, .int 0, .int 0])), (r, byC cA 16 (fun _ => (0 : Int32)))]) C (T := TJ4) (N := 4) (k := 0) (Cn := RJ4) (ref := "java/lang/AbstractStringBuilder") (ty := .array .byte) he2 rfl bsin_J4 tyJ4 tyJ4_ok nmJ4 (by decide) (bsG_in 610 (by decide +kernel) rfl) rfl rfl rfl rfl rfl (Nat.le_of_ble_eq_true rfl) (jd_set R0 _ 0 _) dJ5_init_d00df_14 ?_
  have he3 : (R0 ++ [(b, .inr (1, [.ref r, .int 0, .int 0, .int 0])), (r, byC cA 16 (fun _ => (0 : Int32)))])[R0.length + 0]? = some (b, .inr (1, [.ref r, .int 0, .int 0, .int 0])) := (jd_at R0 _ 0).trans rfl
  refine x_aload_n C dJ5_init_d00df_17 rfl rfl ?_
  refine x_iconst (v := 0) C dJ5_init_d00df_18 (by decide) ?_
  refine x_put (Rz' := R0 ++ [(b, .inr (1, [.ref r, .int 0, .int 0, .int 0])), (r, byC cA 16 (fun _ => (0 : Int32)))]) C (T := TJ4) (N := 4) (k := 1) (Cn := RJ4) (ref := "java/lang/AbstractStringBuilder") (ty := .byte) he3 rfl bsin_J4 tyJ4 tyJ4_ok nmJ4 (by decide) (bsG_in 611 (by decide +kernel) rfl) rfl rfl rfl rfl rfl (Nat.le_of_ble_eq_true rfl) (jd_set R0 _ 0 _) dJ5_init_d00df_19 ?_
  refine x_goto (tgt := 38) C dJ5_init_d00df_22 (by decide) ?_
  exact x_vret C (⟨rfl, r, 16, _, 0, rfl, fun j h => absurd h (Nat.not_lt_zero j), sb_fit0, Nat.zero_le _, by decide⟩) (Nat.le_of_ble_eq_true rfl) (Nat.le_of_ble_eq_true rfl) dJ5_init_d00df_38
theorem wiJ5_init_d00df : xWi yJ5_init_d00df cJ5_init_d00df 2 := ⟨(bsG_in 1454 (by decide +kernel) rfl), (bsG_in 40 (by decide +kernel) rfl), (bsG_in 1455 (by decide +kernel) rfl), ⟨by decide +kernel, by decide +kernel⟩, rfl⟩
theorem dpJ5_init_d00df : (parseMethodDescriptor yJ5_init_d00df.desc).map (fun d => d.parameters.length) = some 1 := by decide +kernel
abbrev rmJ4_init_da8c8 : Room := { frames := 2, cells := 1, slots := 16, locals := 41 }
set_option maxHeartbeats 4000000 in
set_option maxRecDepth 100000 in
theorem cJ4_init_da8c8_ok {l : Launch} {ρ : bsR} {sc L : Nat} {xs : Nat → Int32} {cA : Nat → ClassId} {dC : Nat → ClassId} {dI : Nat → Nat → Nat} {X : bsX} {b : Nat} {R0 : va_W}  : xMv l yJ4_init_da8c8 cJ4_init_da8c8 1 none rmJ4_init_da8c8 ρ sc L xs cA dC dI [.ref b] X (R0 ++ [(b, sb0)]) (fun X' R' => X' = X ∧ sbW cA R0 b (fun _ => 0) 0 R') := by
  refine xMv_of (by decide +kernel) (Nat.le_of_ble_eq_true rfl) (fun p e s m args below meth c C => ?_)
  have C : xCx p m c cJ4_init_da8c8 1 s args (Cond.code yJ4_init_da8c8 cJ4_init_da8c8 1 none :: bsG) RJ4 ρ sc L xs cA dC dI (bsA ρ cA (R0 ++ [(b, sb0)]) s.heap.size) meth none := C
  refine x_sub [0] rfl ?_
  refine x_aload_n C dJ4_init_da8c8_0 rfl rfl ?_
  refine x_bipush (v := 16) C dJ4_init_da8c8_1 (by decide) ?_
  refine x_callI (y := yJ5_init_d00df) (As := [.int 16]) (rest := []) C (cJ5_init_d00df_ok) (bsG_in 1453 (by decide +kernel) rfl) wiJ5_init_d00df dpJ5_init_d00df ⟨Nat.le_of_ble_eq_true rfl, Nat.le_of_ble_eq_true rfl⟩ ⟨Nat.le_of_ble_eq_true rfl, Nat.le_of_ble_eq_true rfl⟩ rfl (Nat.le_of_ble_eq_true rfl) dJ4_init_da8c8_3 (fun X' R' hp => ?_)
  exact x_vret C (hp) (Nat.le_of_ble_eq_true rfl) (Nat.le_of_ble_eq_true rfl) dJ4_init_da8c8_6
theorem wyJ4_append_15ec4 : bsWy yJ4_append_15ec4 cJ4_append_15ec4 2 (some (.object "java/lang/StringBuilder")) := ⟨(bsG_in 501 (by decide +kernel) rfl), (bsG_in 502 (by decide +kernel) rfl), (bsG_in 41 (by decide +kernel) rfl), (bsG_in 503 (by decide +kernel) rfl), by decide +kernel, by decide +kernel⟩
theorem dpJ4_append_15ec4 : (parseMethodDescriptor yJ4_append_15ec4.desc).map (fun d => d.parameters.length) = some 1 := by decide +kernel
abbrev rmJ4_append_cf1ce : Room := { frames := 6, cells := 1, slots := 1026, locals := 148 }
set_option maxHeartbeats 4000000 in
set_option maxRecDepth 100000 in
theorem cJ4_append_cf1ce_ok {l : Launch} {ρ : bsR} {sc L : Nat} {xs : Nat → Int32} {cA : Nat → ClassId} {dC : Nat → ClassId} {dI : Nat → Nat → Nat} {X : bsX} {t : Nat → Nat} {n u : Nat} {b v k : Nat} {ml : Int32} {a : Nat → Int32} {R0 : va_W} (hL : sb_Lat t n a) (hf : sb_Fit a) (hnk : n ≤ k) (hm : k ≤ 1026) (ht : u < 22) (hq : n + stN u ≤ 512) : xMr l yJ4_append_cf1ce cJ4_append_cf1ce 2 (some (.object "java/lang/AbstractStringBuilder")) rmJ4_append_cf1ce ρ sc L xs cA dC dI [.ref b, .ref (ρ 16 0 u)] X (R0 ++ [(b, sbC v ml (nI n)), (v, byC cA k a)]) (fun r X' R' => r = b ∧ X' = X ∧ sbW cA R0 b (sb_cat t n (stT u)) (n + stN u) R') := by
  refine xMr_of (by decide +kernel) (Nat.le_of_ble_eq_true rfl) (fun p e s m args below meth c C => ?_)
  have C : xCx p m c cJ4_append_cf1ce 2 s args (Cond.code yJ4_append_cf1ce cJ4_append_cf1ce 2 (some (.object "java/lang/AbstractStringBuilder")) :: bsG) RJ4 ρ sc L xs cA dC dI (bsA ρ cA (R0 ++ [(b, sbC v ml (nI n)), (v, byC cA k a)]) s.heap.size) meth (some (.object "java/lang/AbstractStringBuilder")) := C
  refine x_sub [0, 1] rfl ?_
  have he : (R0 ++ [(b, sbC v ml (nI n)), (v, byC cA k a)])[R0.length + 0]? = some (b, sbC v ml (nI n)) := (jd_at R0 _ 0).trans rfl
  refine x_aload_n C dJ4_append_cf1ce_0 rfl rfl ?_
  refine x_aload_n C dJ4_append_cf1ce_1 rfl rfl ?_
  refine x_callVr (y := yJ4_append_15ec4) (As := [.ref (ρ 16 0 u)]) (rest := []) C (cJ4_append_15ec4_ok hL hf hnk hm ht hq) (bsG_in 500 (by decide +kernel) rfl) wyJ4_append_15ec4 he rfl dpJ4_append_15ec4 ⟨Nat.le_of_ble_eq_true rfl, Nat.le_of_ble_eq_true rfl⟩ ⟨Nat.le_of_ble_eq_true rfl, Nat.le_of_ble_eq_true rfl⟩ rfl (Nat.le_of_ble_eq_true rfl) dJ4_append_cf1ce_2 (fun r X' R' hp => ?_)
  exact x_aret C (Or.inl ⟨_, rfl⟩) (hp) (Nat.le_of_ble_eq_true rfl) (Nat.le_of_ble_eq_true rfl) dJ4_append_cf1ce_5
theorem woJ5_append_cf1ce : Cond.instanceMethod yJ5_append_cf1ce ∈ bsG ∧ Cond.code yJ5_append_cf1ce cJ5_append_cf1ce 3 (some (.object "java/lang/AbstractStringBuilder")) ∈ bsG ∧ Cond.sameMethod yJ5_append_cf1ce.cls yJ5_append_cf1ce.cls yJ5_append_cf1ce.name yJ5_append_cf1ce.desc ∈ bsG ∧ Cond.selects RJ4 yJ5_append_cf1ce yJ4_append_cf1ce ∈ bsG ∧ (yJ5_append_cf1ce.cls ≠ "java/lang/invoke/MethodHandle" ∧ yJ5_append_cf1ce.cls ≠ "java/lang/invoke/VarHandle") := ⟨(bsG_in 495 (by decide +kernel) rfl), (bsG_in 506 (by decide +kernel) rfl), (bsG_in 496 (by decide +kernel) rfl), (bsG_in 497 (by decide +kernel) rfl), by decide +kernel, by decide +kernel⟩
theorem woJ5_length_8abf5 : Cond.instanceMethod yJ5_length_8abf5 ∈ bsG ∧ Cond.code yJ5_length_8abf5 cJ5_length_8abf5 1 (some .int) ∈ bsG ∧ Cond.sameMethod yJ5_length_8abf5.cls yJ5_length_8abf5.cls yJ5_length_8abf5.name yJ5_length_8abf5.desc ∈ bsG ∧ Cond.selects RJ4 yJ5_length_8abf5 yJ4_length_8abf5 ∈ bsG ∧ (yJ5_length_8abf5.cls ≠ "java/lang/invoke/MethodHandle" ∧ yJ5_length_8abf5.cls ≠ "java/lang/invoke/VarHandle") := ⟨(bsG_in 1476 (by decide +kernel) rfl), (bsG_in 1477 (by decide +kernel) rfl), (bsG_in 1634 (by decide +kernel) rfl), (bsG_in 1635 (by decide +kernel) rfl), by decide +kernel, by decide +kernel⟩
theorem wzJ4_append_cf1ce : xWo yJ4_append_cf1ce cJ4_append_cf1ce 2 (some (.object "java/lang/AbstractStringBuilder")) := ⟨(bsG_in 498 (by decide +kernel) rfl), (bsG_in 41 (by decide +kernel) rfl), (bsG_in 499 (by decide +kernel) rfl)⟩
abbrev rmJ5_init_a7421 : Room := { frames := 7, cells := 2, slots := 1082, locals := 169 }
set_option maxHeartbeats 4000000 in
set_option maxRecDepth 100000 in
theorem cJ5_init_a7421_ok {l : Launch} {ρ : bsR} {sc L : Nat} {xs : Nat → Int32} {cA : Nat → ClassId} {dC : Nat → ClassId} {dI : Nat → Nat → Nat} {X : bsX} {t : Nat} {b : Nat} {R0 : va_W} (ht : t < 22) : xMv l yJ5_init_a7421 cJ5_init_a7421 5 none rmJ5_init_a7421 ρ sc L xs cA dC dI [.ref b, .ref (ρ 16 0 t)] X (R0 ++ [(b, sb0)]) (fun X' R' => X' = X ∧ sbW cA R0 b (stT t) (stN t) R') := by
  refine xMv_of (by decide +kernel) (Nat.le_of_ble_eq_true rfl) (fun p e s m args below meth c C => ?_)
  have C : xCx p m c cJ5_init_a7421 5 s args (Cond.code yJ5_init_a7421 cJ5_init_a7421 5 none :: bsG) RJ5 ρ sc L xs cA dC dI (bsA ρ cA (R0 ++ [(b, sb0)]) s.heap.size) meth none := C
  refine x_sub [0, 1] rfl ?_
  have h40 := (st_ok t ht).1
  have he : (R0 ++ [(b, sb0)])[R0.length + 0]? = some (b, sb0) := (jd_at R0 _ 0).trans rfl
  refine x_aload_n C dJ5_init_a7421_0 rfl rfl ?_
  refine x_objInit C (bsG_in 473 (by decide +kernel) rfl) dJ5_init_a7421_1 ⟨Nat.le_of_ble_eq_true rfl, Nat.le_of_ble_eq_true rfl⟩ ?_
  refine x_aload_n C dJ5_init_a7421_4 rfl rfl ?_
  refine x_callTi (y := yJ0_length_8abf5) (As := []) (rest := []) C ht rfl (cJ0_length_8abf5_ok ht) (bsG_in 474 (by decide +kernel) rfl) wyJ0_length_8abf5 dpJ0_length_8abf5 ⟨Nat.le_of_ble_eq_true rfl, Nat.le_of_ble_eq_true rfl⟩ ⟨rfl, rfl⟩ ⟨Nat.le_of_ble_eq_true rfl, Nat.le_of_ble_eq_true rfl⟩ rfl (Nat.le_of_ble_eq_true rfl) dJ5_init_a7421_5 ?_
  refine x_istore_n (lv' := [(2, .int (nI (stN t))), (0, .ref b), (1, .ref (ρ 16 0 t))]) C dJ5_init_a7421_8 rfl (by decide) rfl ?_
  refine x_iload_n C dJ5_init_a7421_9 rfl rfl ?_
  refine x_ldc (v := 2147483631) C (bsG_in 484 (by decide +kernel) rfl) dJ5_init_a7421_10 ?_
  refine x_icmp_ge (tgt := 22) C dJ5_init_a7421_12 (by decide) (fun h => absurd h (show ¬ nI 2147483631 ≤ nI (stN t) from nI_ge (by omega) (by decide))) (fun _ => ?_)
  refine x_iload_n C dJ5_init_a7421_15 rfl rfl ?_
  refine x_bipush (v := 16) C dJ5_init_a7421_16 (by decide) ?_
  refine x_iadd C dJ5_init_a7421_18 ?_
  refine x_topi (y := (nI (stN t + 16))) (show nI (stN t) + 16 = nI (stN t + 16) from nI_add (stN t) 16) ?_
  refine x_goto (tgt := 24) C dJ5_init_a7421_19 (by decide) ?_
  refine x_istore_n (lv' := [(3, .int (nI (stN t + 16))), (2, .int (nI (stN t))), (0, .ref b), (1, .ref (ρ 16 0 t))]) C dJ5_init_a7421_24 rfl (by decide) rfl ?_
  refine x_aload_n C dJ5_init_a7421_25 rfl rfl ?_
  refine x_callTi (y := yJ0_coder_7d493) (As := []) (rest := []) C ht rfl (cJ0_coder_7d493_ok ht) (bsG_in 486 (by decide +kernel) rfl) wyJ0_coder_7d493 dpJ0_coder_7d493 ⟨Nat.le_of_ble_eq_true rfl, Nat.le_of_ble_eq_true rfl⟩ ⟨rfl, rfl⟩ ⟨Nat.le_of_ble_eq_true rfl, Nat.le_of_ble_eq_true rfl⟩ rfl (Nat.le_of_ble_eq_true rfl) dJ5_init_a7421_26 ?_
  refine x_istore (lv' := [(4, .int 0), (3, .int (nI (stN t + 16))), (2, .int (nI (stN t))), (0, .ref b), (1, .ref (ρ 16 0 t))]) C dJ5_init_a7421_29 (by decide) rfl ?_
  refine x_aload_n C dJ5_init_a7421_31 rfl rfl ?_
  refine x_iload C dJ5_init_a7421_32 rfl ?_
  refine x_put (Rz' := R0 ++ [(b, sb0)]) C (T := TJ4) (N := 4) (k := 1) (Cn := RJ4) (ref := "java/lang/AbstractStringBuilder") (ty := .byte) he rfl bsin_J4 tyJ4 tyJ4_ok nmJ4 (by decide) (bsG_in 611 (by decide +kernel) rfl) rfl rfl rfl rfl rfl (Nat.le_of_ble_eq_true rfl) (jd_set R0 _ 0 _) dJ5_init_a7421_34 ?_
  refine x_aload_n C dJ5_init_a7421_37 rfl rfl ?_
  refine x_iload C dJ5_init_a7421_38 rfl ?_
  refine x_if_ne (tgt := 49) C dJ5_init_a7421_40 (by decide) (fun h => absurd (rfl) h) (fun _ => ?_)
  refine x_iload_n C dJ5_init_a7421_43 rfl rfl ?_
  refine x_newb (N := stN t + 16) C (pu_neg _ (by omega)) (nI_clamp (by omega)) (by omega) ⟨Nat.le_of_ble_eq_true rfl, by show 0 + (stN t + 16) ≤ 1082; omega⟩ dJ5_init_a7421_44 (fun r => ?_)
  refine x_widen (k := 1) (n := 56) (Nat.le_of_ble_eq_true rfl) (by show 0 + (stN t + 16) ≤ 56; omega) ?_
  refine x_eq (Rz' := R0 ++ [(b, sb0), (r, byC cA (stN t + 16) (fun _ => (0 : Int32)))]) (by rw [List.append_assoc]; rfl) ?_
  have he2 : (R0 ++ [(b, sb0), (r, byC cA (stN t + 16) (fun _ => (0 : Int32)))])[R0.length + 0]? = some (b, sb0) := (jd_at R0 _ 0).trans rfl
  refine x_goto (tgt := 53) C dJ5_init_a7421_46 (by decide) ?_
  refine x_put (Rz' := R0 ++ [(b, sbC r 0 (nI 0)), (r, byC cA (stN t + 16) (fun _ => (0 : Int32)))]) C (T := TJ4) (N := 4) (k := 0) (Cn := RJ4) (ref := "java/lang/AbstractStringBuilder") (ty := .array .byte) he2 rfl bsin_J4 tyJ4 tyJ4_ok nmJ4 (by decide) (bsG_in 610 (by decide +kernel) rfl) rfl rfl rfl rfl rfl (Nat.le_of_ble_eq_true rfl) (jd_set R0 _ 0 _) dJ5_init_a7421_53 ?_
  have he3 : (R0 ++ [(b, sbC r 0 (nI 0)), (r, byC cA (stN t + 16) (fun _ => (0 : Int32)))])[R0.length + 0]? = some (b, sbC r 0 (nI 0)) := (jd_at R0 _ 0).trans rfl
  refine x_aload_n C dJ5_init_a7421_56 rfl rfl ?_
  refine x_aload_n C dJ5_init_a7421_57 rfl rfl ?_
  refine x_callOr (y := yJ4_append_cf1ce) (x := yJ5_append_cf1ce) (As := [.ref (ρ 16 0 t)]) (rest := []) C (cJ4_append_cf1ce_ok (t := fun _ => 0) (n := 0) (fun j h => absurd h (Nat.not_lt_zero j)) sb_fit0 (Nat.zero_le _) (by omega) ht (by omega)) (bsG_in 494 (by decide +kernel) rfl) wzJ4_append_cf1ce woJ5_append_cf1ce he3 dpJ5_append_cf1ce ⟨Nat.le_of_ble_eq_true rfl, Nat.le_of_ble_eq_true rfl⟩ ⟨Nat.le_of_ble_eq_true rfl, Nat.le_of_ble_eq_true rfl⟩ rfl (Nat.le_of_ble_eq_true rfl) dJ5_init_a7421_58 (fun r X' R' hp => ?_)
  obtain ⟨e1, e2, hW⟩ := hp
  rw [e2]
  clear e2 X'
  rw [sb_cat0, Nat.zero_add] at hW
  refine x_pop C dJ5_init_a7421_61 rfl ?_
  exact x_vret C (⟨rfl, hW⟩) (Nat.le_of_ble_eq_true rfl) (Nat.le_of_ble_eq_true rfl) dJ5_init_a7421_62
theorem wiJ5_init_a7421 : xWi yJ5_init_a7421 cJ5_init_a7421 5 := ⟨(bsG_in 471 (by decide +kernel) rfl), (bsG_in 40 (by decide +kernel) rfl), (bsG_in 472 (by decide +kernel) rfl), ⟨by decide +kernel, by decide +kernel⟩, rfl⟩
theorem dpJ5_init_a7421 : (parseMethodDescriptor yJ5_init_a7421.desc).map (fun d => d.parameters.length) = some 1 := by decide +kernel
abbrev rmJ4_init_a7421 : Room := { frames := 8, cells := 2, slots := 1082, locals := 193 }
set_option maxHeartbeats 4000000 in
set_option maxRecDepth 100000 in
theorem cJ4_init_a7421_ok {l : Launch} {ρ : bsR} {sc L : Nat} {xs : Nat → Int32} {cA : Nat → ClassId} {dC : Nat → ClassId} {dI : Nat → Nat → Nat} {X : bsX} {t : Nat} {b : Nat} {R0 : va_W} (ht : t < 22) : xMv l yJ4_init_a7421 cJ4_init_a7421 2 none rmJ4_init_a7421 ρ sc L xs cA dC dI [.ref b, .ref (ρ 16 0 t)] X (R0 ++ [(b, sb0)]) (fun X' R' => X' = X ∧ sbW cA R0 b (stT t) (stN t) R') := by
  refine xMv_of (by decide +kernel) (Nat.le_of_ble_eq_true rfl) (fun p e s m args below meth c C => ?_)
  have C : xCx p m c cJ4_init_a7421 2 s args (Cond.code yJ4_init_a7421 cJ4_init_a7421 2 none :: bsG) RJ4 ρ sc L xs cA dC dI (bsA ρ cA (R0 ++ [(b, sb0)]) s.heap.size) meth none := C
  refine x_sub [0, 1] rfl ?_
  refine x_aload_n C dJ4_init_a7421_0 rfl rfl ?_
  refine x_aload_n C dJ4_init_a7421_1 rfl rfl ?_
  refine x_callI (y := yJ5_init_a7421) (As := [.ref (ρ 16 0 t)]) (rest := []) C (cJ5_init_a7421_ok ht) (bsG_in 470 (by decide +kernel) rfl) wiJ5_init_a7421 dpJ5_init_a7421 ⟨Nat.le_of_ble_eq_true rfl, Nat.le_of_ble_eq_true rfl⟩ ⟨Nat.le_of_ble_eq_true rfl, Nat.le_of_ble_eq_true rfl⟩ rfl (Nat.le_of_ble_eq_true rfl) dJ4_init_a7421_2 (fun X' R' hp => ?_)
  exact x_vret C (hp) (Nat.le_of_ble_eq_true rfl) (Nat.le_of_ble_eq_true rfl) dJ4_init_a7421_5
