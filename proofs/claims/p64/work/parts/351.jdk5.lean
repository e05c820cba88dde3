/-! THE JDK: append(int), append(String) of a constant -/
theorem wzJ6_getChars_ba4f3 : bsWz yJ6_getChars_ba4f3 cJ6_getChars_ba4f3 7 (some .int) := ⟨(bsG_in 633 (by decide +kernel) rfl), (bsG_in 50 (by decide +kernel) rfl), (bsG_in 634 (by decide +kernel) rfl), by decide +kernel, by decide +kernel⟩
theorem dpJ6_getChars_ba4f3 : (parseMethodDescriptor yJ6_getChars_ba4f3.desc).map (fun d => d.parameters.length) = some 3 := by decide +kernel
theorem wzJ6_stringSize_0f7a4 : bsWz yJ6_stringSize_0f7a4 cJ6_stringSize_0f7a4 4 (some .int) := ⟨(bsG_in 630 (by decide +kernel) rfl), (bsG_in 50 (by decide +kernel) rfl), (bsG_in 631 (by decide +kernel) rfl), by decide +kernel, by decide +kernel⟩
theorem dpJ6_stringSize_0f7a4 : (parseMethodDescriptor yJ6_stringSize_0f7a4.desc).map (fun d => d.parameters.length) = some 1 := by decide +kernel
abbrev rmJ5_append_c97b9 : Room := { frames := 4, cells := 1, slots := 1026, locals := 104 }
set_option maxHeartbeats 4000000 in
set_option maxRecDepth 100000 in
theorem cJ5_append_c97b9_ok {l : Launch} {ρ : bsR} {sc L : Nat} {xs : Nat → Int32} {cA : Nat → ClassId} {dC : Nat → ClassId} {dI : Nat → Nat → Nat} {X : bsX} {t : Nat → Nat} {n w : Nat} {b v k : Nat} {ml : Int32} {a : Nat → Int32} {R0 : va_W} (hL : sb_Lat t n a) (hf : sb_Fit a) (hnk : n ≤ k) (hm : k ≤ 1026) (hw : w < 2 ^ 31) (hq : n + sb_dg w ≤ 512) : xMr l yJ5_append_c97b9 cJ5_append_c97b9 4 (some (.object "java/lang/AbstractStringBuilder")) rmJ5_append_c97b9 ρ sc L xs cA dC dI [.ref b, .int (nI w)] X (R0 ++ [(b, sbC v ml (nI n)), (v, byC cA k a)]) (fun r X' R' => r = b ∧ X' = X ∧ sbW cA R0 b (sb_cat t n (sb_dec w)) (n + sb_dg w) R') := by
  refine xMr_of (by decide +kernel) (Nat.le_of_ble_eq_true rfl) (fun p e s m args below meth c C => ?_)
  have C : xCx p m c cJ5_append_c97b9 4 s args (Cond.code yJ5_append_c97b9 cJ5_append_c97b9 4 (some (.object "java/lang/AbstractStringBuilder")) :: bsG) RJ5 ρ sc L xs cA dC dI (bsA ρ cA (R0 ++ [(b, sbC v ml (nI n)), (v, byC cA k a)]) s.heap.size) meth (some (.object "java/lang/AbstractStringBuilder")) := C
  refine x_sub [0, 1] rfl ?_
  have he : (R0 ++ [(b, sbC v ml (nI n)), (v, byC cA k a)])[R0.length + 0]? = some (b, sbC v ml (nI n)) := (jd_at R0 _ 0).trans rfl
  have hv : (R0 ++ [(b, sbC v ml (nI n)), (v, byC cA k a)])[R0.length + 1]? = some (v, byC cA k a) := (jd_at R0 _ 1).trans rfl
  refine x_aload_n C dJ5_append_c97b9_0 rfl rfl ?_
  refine x_get C (T := TJ4) (N := 4) (k := 3) (Cn := RJ4) (ref := "java/lang/AbstractStringBuilder") he rfl bsin_J4 (by decide) (bsG_in 613 (by decide +kernel) rfl) rfl rfl dJ5_append_c97b9_1 ?_
  refine x_istore_n (lv' := [(2, .int (nI n)), (0, .ref b), (1, .int (nI w))]) C dJ5_append_c97b9_4 rfl (by decide) rfl ?_
  refine x_iload_n C dJ5_append_c97b9_5 rfl rfl ?_
  refine x_iload_n C dJ5_append_c97b9_6 rfl rfl ?_
  refine x_callSi (y := yJ6_stringSize_0f7a4) (As := [.int (nI w)]) (rest := [.int (nI n)]) C (cJ6_stringSize_0f7a4_ok hw) (bsG_in 629 (by decide +kernel) rfl) wzJ6_stringSize_0f7a4 dpJ6_stringSize_0f7a4 ⟨Nat.le_of_ble_eq_true rfl, Nat.le_of_ble_eq_true rfl⟩ ⟨Nat.le_of_ble_eq_true rfl, Nat.le_of_ble_eq_true rfl⟩ rfl (Nat.le_of_ble_eq_true rfl) dJ5_append_c97b9_7 (fun r X' R' hp => ?_)
  obtain ⟨e1, e2, e3⟩ := hp
  rw [e1, e2, e3]
  clear e1 e2 e3 r X' R'
  refine x_iadd C dJ5_append_c97b9_10 ?_
  refine x_topi (y := (nI (n + sb_dg w))) (nI_add n (sb_dg w)) ?_
  refine x_istore_n (lv' := [(3, .int (nI (n + sb_dg w))), (2, .int (nI n)), (0, .ref b), (1, .int (nI w))]) C dJ5_append_c97b9_11 rfl (by decide) rfl ?_
  refine x_aload_n C dJ5_append_c97b9_12 rfl rfl ?_
  refine x_iload_n C dJ5_append_c97b9_13 rfl rfl ?_
  refine x_callUv (y := yJ5_ensureCapacityInternal_d00df) (As := [.int (nI (n + sb_dg w))]) (rest := []) C (cJ5_ensureCapacityInternal_d00df_ok hq hm hf) (bsG_in 511 (by decide +kernel) rfl) wuJ5_ensureCapacityInternal_d00df he dpJ5_ensureCapacityInternal_d00df ⟨Nat.le_of_ble_eq_true rfl, Nat.le_of_ble_eq_true rfl⟩ ⟨Nat.le_of_ble_eq_true rfl, Nat.le_of_ble_eq_true rfl⟩ rfl (Nat.le_of_ble_eq_true rfl) dJ5_append_c97b9_14 (fun X' R' hp => ?_)
  obtain ⟨e2, v', a', e3, hf', hk'⟩ := hp
  rw [e2, e3]
  clear e2 e3 X' R'
  obtain ⟨hg1, hg2⟩ := jd_capc (k := k) (q := (n + sb_dg w)) hq hm
  have hk2 : ∀ j, j < n → a' j = a j := fun j hj => hk' j (by omega)
  clear hk'
  generalize sb_cap (n + sb_dg w) k = K at *
  have he2 : (R0 ++ [(b, sbC v' ml (nI n)), (v', byC cA K a')])[R0.length + 0]? = some (b, sbC v' ml (nI n)) := (jd_at R0 _ 0).trans rfl
  have hv2 : (R0 ++ [(b, sbC v' ml (nI n)), (v', byC cA K a')])[R0.length + 1]? = some (v', byC cA K a') := (jd_at R0 _ 1).trans rfl
  refine x_aload_n C dJ5_append_c97b9_17 rfl rfl ?_
  refine x_callUi (y := yJ5_isLatin1_aae02) (As := []) (rest := []) C (cJ5_isLatin1_aae02_ok he2) (bsG_in 545 (by decide +kernel) rfl) wuJ5_isLatin1_aae02 he2 dpJ5_isLatin1_aae02 ⟨Nat.le_of_ble_eq_true rfl, Nat.le_of_ble_eq_true rfl⟩ ⟨Nat.le_of_ble_eq_true rfl, Nat.le_of_ble_eq_true rfl⟩ rfl (Nat.le_of_ble_eq_true rfl) dJ5_append_c97b9_18 (fun r X' R' hp => ?_)
  obtain ⟨e1, e2, e3⟩ := hp
  rw [e1, e2, e3]
  clear e1 e2 e3 r X' R'
  refine x_if_eq (tgt := 37) C dJ5_append_c97b9_21 (by decide) (fun h => absurd h (by decide)) (fun _ => ?_)
  refine x_iload_n C dJ5_append_c97b9_24 rfl rfl ?_
  refine x_iload_n C dJ5_append_c97b9_25 rfl rfl ?_
  refine x_aload_n C dJ5_append_c97b9_26 rfl rfl ?_
  refine x_get C (T := TJ4) (N := 4) (k := 0) (Cn := RJ4) (ref := "java/lang/AbstractStringBuilder") he2 rfl bsin_J4 (by decide) (bsG_in 610 (by decide +kernel) rfl) rfl rfl dJ5_append_c97b9_27 ?_
  refine x_callSi (y := yJ6_getChars_ba4f3) (As := [.int (nI w), .int (nI (n + sb_dg w)), .ref v']) (rest := []) C (cJ6_getChars_ba4f3_ok (n := n) (by omega) hw rfl hg1) (bsG_in 632 (by decide +kernel) rfl) wzJ6_getChars_ba4f3 dpJ6_getChars_ba4f3 ⟨Nat.le_of_ble_eq_true rfl, Nat.le_of_ble_eq_true rfl⟩ ⟨Nat.le_of_ble_eq_true rfl, Nat.le_of_ble_eq_true rfl⟩ rfl (Nat.le_of_ble_eq_true rfl) dJ5_append_c97b9_30 (fun r X' R' hp => ?_)
  obtain ⟨e1, e2, a2, e3, h1, h2, h3⟩ := hp
  rw [e1, e2, e3]
  clear e1 e2 e3 r X' R'
  have he4 : (R0 ++ [(b, sbC v' ml (nI n)), (v', byC cA K a2)])[R0.length + 0]? = some (b, sbC v' ml (nI n)) := (jd_at R0 _ 0).trans rfl
  refine x_pop C dJ5_append_c97b9_33 rfl ?_
  refine x_goto (tgt := 48) C dJ5_append_c97b9_34 (by decide) ?_
  refine x_aload_n C dJ5_append_c97b9_48 rfl rfl ?_
  refine x_iload_n C dJ5_append_c97b9_49 rfl rfl ?_
  refine x_put (Rz' := R0 ++ [(b, sbC v' ml (nI (n + sb_dg w))), (v', byC cA K a2)]) C (T := TJ4) (N := 4) (k := 3) (Cn := RJ4) (ref := "java/lang/AbstractStringBuilder") (ty := .int) he4 rfl bsin_J4 tyJ4 tyJ4_ok nmJ4 (by decide) (bsG_in 613 (by decide +kernel) rfl) rfl rfl rfl rfl rfl (Nat.le_of_ble_eq_true rfl) (jd_set R0 _ 0 _) dJ5_append_c97b9_50 ?_
  refine x_aload_n C dJ5_append_c97b9_53 rfl rfl ?_
  have hd := sb_dg_in w
  exact x_aret C (Or.inl ⟨_, rfl⟩) (⟨rfl, rfl, v', K, a2, ml, rfl, sb_latPut hL (fun j hj => (h1 j (Or.inl hj)).trans (hk2 j hj)) (fun i hi => by
    have h9 := h2 (sb_dg w - 1 - i) (by omega)
    rw [show n + sb_dg w - 1 - (sb_dg w - 1 - i) = n + i by omega] at h9
    exact ⟨by unfold sb_dec; omega, h9⟩), h3 hf', hg1, hg2⟩) (Nat.le_of_ble_eq_true rfl) (Nat.le_of_ble_eq_true rfl) dJ5_append_c97b9_54
/-- the letters of a String constant -/
def stT (t : Nat) : Nat → Nat := fun k => (bsChr t k).toNatClampNeg
def stN (t : Nat) : Nat := bsSl.getD t 0
theorem st_ok : ∀ t, t < 22 → stN t ≤ 40 ∧ ∀ k, k < stN t → stT t k < 256 ∧ (bsSb.getD t []).getD k 0 = sb_b (stT t k) ∧ fits .byte (.int ((bsSb.getD t []).getD k 0)) = true := by decide +kernel
theorem st_len (t : Nat) : bsLen t = nI (stN t) := rfl
theorem x_callTv {p : Program} {l : Launch} {e : Env} {R : Room} {s : State} {m : MethodId} {args : Array Value} {below : List Frame} {meth : Method} {c : Code} {cells slots : Nat} {Q : State → Prop} {ρ : bsR} {sc L : Nat} {xs : Nat → Int32} {cA : Nat → ClassId} {dC : Nat → ClassId} {dI : Nat → Nat → Nat} {A : Nat → Prop} {Rz : va_W} {nL : Nat} {cc : ByteArray} {Ts : List Cond} {own : String} {ret : Option FieldType} {pc : Nat} {lv : List (Nat × Value)} {st : List Value} {X : bsX} (C : xCx p m c cc nL s args Ts own ρ sc L xs cA dC dI A meth ret) {y : MethodName} {b : ByteArray} {nL' index t : Nat} {ret' : Option FieldType} {rm' : Room} {As rest : List Value} {P : bsX → va_W → Prop} (ht : t < 22) (hcls : y.cls = RJ0) (hM : xMv l y b nL' ret' rm' ρ sc L xs cA dC dI (.ref (ρ 16 0 t) :: As) X Rz P)
    (hl0 : Cond.methodLink own index y ∈ bsG) (hw : bsWy y b nL' ret') (hde : (parseMethodDescriptor y.desc).map (fun d => d.parameters.length) = some As.length)
    (hR : rm'.frames + 1 ≤ R.frames ∧ 8 + (nL' + 11) + rm'.locals ≤ R.locals) (hcs : cells + rm'.cells ≤ R.cells ∧ slots + rm'.slots ≤ R.slots) (hst : st = As.reverse ++ .ref (ρ 16 0 t) :: rest) (hW : (rest.map fun v => v.category).sum ≤ 8) (hd : decode cc pc = .ok (.invokevirtual index, 3))
    (kk : ∀ (X' : bsX) (Rz' : va_W), P X' Rz' → xV p l e R s m args below meth c (cells + rm'.cells) (slots + rm'.slots) Q ρ cA dC dI A Rz' nL (pc + 3) lv rest X') : xV p l e R s m args below meth c cells slots Q ρ cA dC dI A Rz nL pc lv st X := by
  intro ls H locs hl hP hD hS
  have hpre := x_pre (As := .ref (ρ 16 0 t) :: As) C hP hD hS
  have hrv := vk_recv C.2.2.2.1.2.1.1 ht hS
  rw [show "java/lang/String" = y.cls from hcls.symm] at hrv
  exact va_callv (va_runV (As := As) (rest := rest) C.1 (hM H.size) (cwV As.length C.1.2.2.2.2 (bs_goodV C.2.2.1 hl0 hw) rfl rfl rfl ⟨rfl, hw.2.2.2.2.1, hw.2.2.2.2.2, hde⟩ hR) ⟨hpre.1, hrv, hpre.2⟩ rfl rfl hl.1 hst (lv_room hW) hd hcs) hS (fun q _ h => xA_sub C hD hS q h) (fun q h => xA_sub C hD hS q h) (fun u t H1 locs1 ht hvm hr hB hz1 hk1 hS1 => x_back hl ht hB (xA_sub C hD hS) hS1 (kk u.1 u.2 hr))
abbrev rmJ5_inflateIfNeededFor_a7421 : Room := { frames := 1, cells := 0, slots := 0, locals := 20 }
set_option maxHeartbeats 4000000 in
set_option maxRecDepth 100000 in
theorem cJ5_inflateIfNeededFor_a7421_ok {l : Launch} {ρ : bsR} {sc L : Nat} {xs : Nat → Int32} {cA : Nat → ClassId} {dC : Nat → ClassId} {dI : Nat → Nat → Nat} {X : bsX} {t : Nat} {q0 b v : Nat} {ml n : Int32} {Rz : va_W} (ht : t < 22) (he : Rz[q0]? = some (b, sbC v ml n)) : xMv l yJ5_inflateIfNeededFor_a7421 cJ5_inflateIfNeededFor_a7421 2 none rmJ5_inflateIfNeededFor_a7421 ρ sc L xs cA dC dI [.ref b, .ref (ρ 16 0 t)] X (Rz) (fun X' R' => X' = X ∧ R' = Rz) := by
  refine xMv_of (by decide +kernel) (Nat.le_of_ble_eq_true rfl) (fun p e s m args below meth c C => ?_)
  have C : xCx p m c cJ5_inflateIfNeededFor_a7421 2 s args (Cond.code yJ5_inflateIfNeededFor_a7421 cJ5_inflateIfNeededFor_a7421 2 none :: bsG) RJ5 ρ sc L xs cA dC dI (bsA ρ cA (Rz) s.heap.size) meth none := C
  refine x_sub [0, 1] rfl ?_
  refine x_gsCS C (bsG_in 550 (by decide +kernel) rfl) dJ5_inflateIfNeededFor_a7421_0 ?_
  refine x_if_eq (tgt := 21) C dJ5_inflateIfNeededFor_a7421_3 (by decide) (fun h => absurd h (by decide)) (fun _ => ?_)
  refine x_aload_n C dJ5_inflateIfNeededFor_a7421_6 rfl rfl ?_
  refine x_get C (T := TJ4) (N := 4) (k := 1) (Cn := RJ4) (ref := "java/lang/AbstractStringBuilder") he rfl bsin_J4 (by decide) (bsG_in 611 (by decide +kernel) rfl) rfl rfl dJ5_inflateIfNeededFor_a7421_7 ?_
  refine x_aload_n C dJ5_inflateIfNeededFor_a7421_10 rfl rfl ?_
  refine x_callTi (y := yJ0_coder_7d493) (As := []) (rest := [.int 0]) C ht rfl (cJ0_coder_7d493_ok ht) (bsG_in 486 (by decide +kernel) rfl) wyJ0_coder_7d493 dpJ0_coder_7d493 ⟨Nat.le_of_ble_eq_true rfl, Nat.le_of_ble_eq_true rfl⟩ ⟨rfl, rfl⟩ ⟨Nat.le_of_ble_eq_true rfl, Nat.le_of_ble_eq_true rfl⟩ rfl (Nat.le_of_ble_eq_true rfl) dJ5_inflateIfNeededFor_a7421_11 ?_
  refine x_icmp_eq (tgt := 21) C dJ5_inflateIfNeededFor_a7421_14 (by decide) (fun _ => ?_) (fun h => absurd (rfl) h)
  exact x_vret C (⟨rfl, rfl⟩) (Nat.le_of_ble_eq_true rfl) (Nat.le_of_ble_eq_true rfl) dJ5_inflateIfNeededFor_a7421_21
abbrev rmJ0_getBytes_840e7 : Room := { frames := 1, cells := 0, slots := 0, locals := 60 }
set_option maxHeartbeats 4000000 in
set_option maxRecDepth 100000 in
theorem cJ0_getBytes_840e7_ok {l : Launch} {ρ : bsR} {sc L : Nat} {xs : Nat → Int32} {cA : Nat → ClassId} {dC : Nat → ClassId} {dI : Nat → Nat → Nat} {X : bsX} {t n v K : Nat} {E : Nat × va_E} {a : Nat → Int32} {R0 : va_W} (ht : t < 22) (hK : K ≤ 65536) (hn : n + stN t ≤ K) : xMv l yJ0_getBytes_840e7 cJ0_getBytes_840e7 4 none rmJ0_getBytes_840e7 ρ sc L xs cA dC dI [.ref (ρ 16 0 t), .ref v, .int (nI n), .int 0] X (R0 ++ [E, (v, byC cA K a)]) (fun X' R' => X' = X ∧ R' = R0 ++ [E, (v, byC cA K (va_cpy (fun j => (bsSb.getD t []).getD j 0) a 0 n (stN t)))]) := by
  refine xMv_of (by decide +kernel) (Nat.le_of_ble_eq_true rfl) (fun p e s m args below meth c C => ?_)
  have C : xCx p m c cJ0_getBytes_840e7 4 s args (Cond.code yJ0_getBytes_840e7 cJ0_getBytes_840e7 4 none :: bsG) RJ0 ρ sc L xs cA dC dI (bsA ρ cA (R0 ++ [E, (v, byC cA K a)]) s.heap.size) meth none := C
  refine x_sub [0, 1, 2, 3] rfl ?_
  refine x_aload_n C dJ0_getBytes_840e7_0 rfl rfl ?_
  refine x_callTi (y := yJ0_coder_7d493) (As := []) (rest := []) C ht rfl (cJ0_coder_7d493_ok ht) (bsG_in 478 (by decide +kernel) rfl) wyJ0_coder_7d493 dpJ0_coder_7d493 ⟨Nat.le_of_ble_eq_true rfl, Nat.le_of_ble_eq_true rfl⟩ ⟨rfl, rfl⟩ ⟨Nat.le_of_ble_eq_true rfl, Nat.le_of_ble_eq_true rfl⟩ rfl (Nat.le_of_ble_eq_true rfl) dJ0_getBytes_840e7_1 ?_
  refine x_iload_n C dJ0_getBytes_840e7_4 rfl rfl ?_
  refine x_icmp_ne (tgt := 28) C dJ0_getBytes_840e7_5 (by decide) (fun h => absurd (rfl) h) (fun _ => ?_)
  refine x_aload_n C dJ0_getBytes_840e7_8 rfl rfl ?_
  refine x_sgetV C ht (bsG_in 1558 (by decide +kernel) rfl) dJ0_getBytes_840e7_9 ?_
  refine x_iconst (v := 0) C dJ0_getBytes_840e7_12 (by decide) ?_
  refine x_aload_n C dJ0_getBytes_840e7_13 rfl rfl ?_
  refine x_iload_n C dJ0_getBytes_840e7_14 rfl rfl ?_
  refine x_iload_n C dJ0_getBytes_840e7_15 rfl rfl ?_
  refine x_ishl C dJ0_getBytes_840e7_16 ?_
  refine x_topi (y := (nI n)) (sb_shl0 _) ?_
  refine x_aload_n C dJ0_getBytes_840e7_17 rfl rfl ?_
  refine x_sgetV C ht (bsG_in 1558 (by decide +kernel) rfl) dJ0_getBytes_840e7_18 ?_
  refine x_slen C ht dJ0_getBytes_840e7_21 ?_
  have hv : (R0 ++ [E, (v, byC cA K a)])[R0.length + 1]? = some (v, byC cA K a) := (jd_at R0 _ 1).trans rfl
  have h40 := (st_ok t ht).1
  have c1 : (nI n).toNatClampNeg = n := nI_clamp (by omega)
  have c2 : (nI (stN t)).toNatClampNeg = stN t := nI_clamp (by omega)
  refine x_copyT (n := nI (stN t)) (Rz' := R0 ++ [E, (v, byC cA K (va_cpy (fun j => (bsSb.getD t []).getD j 0) a 0 n (stN t)))]) C ht (bsG_in 608 (by decide +kernel) rfl) hv (by decide) (pu_neg _ (by omega)) (pu_neg _ (by omega)) (by rw [sb_cl0, c2]; show 0 + stN t ≤ stN t; omega) (by rw [c1, c2]; exact hn) (fun i hi => by rw [sb_cl0, Nat.zero_add]; rw [c2] at hi; exact ((st_ok t ht).2 i hi).2.2) (Nat.le_of_ble_eq_true rfl) (Nat.le_of_ble_eq_true rfl) ((jd_set R0 _ 1 _).trans (by rw [sb_cl0, c1, c2]; rfl)) dJ0_getBytes_840e7_22 ?_
  refine x_goto (tgt := 43) C dJ0_getBytes_840e7_25 (by decide) ?_
  exact x_vret C (⟨rfl, rfl⟩) (Nat.le_of_ble_eq_true rfl) (Nat.le_of_ble_eq_true rfl) dJ0_getBytes_840e7_43
theorem wyJ0_getBytes_840e7 : bsWy yJ0_getBytes_840e7 cJ0_getBytes_840e7 4 none := ⟨(bsG_in 605 (by decide +kernel) rfl), (bsG_in 606 (by decide +kernel) rfl), (bsG_in 42 (by decide +kernel) rfl), (bsG_in 607 (by decide +kernel) rfl), by decide +kernel, by decide +kernel⟩
theorem dpJ0_getBytes_840e7 : (parseMethodDescriptor yJ0_getBytes_840e7.desc).map (fun d => d.parameters.length) = some 3 := by decide +kernel
theorem wuJ5_inflateIfNeededFor_a7421 : xWu yJ5_inflateIfNeededFor_a7421 cJ5_inflateIfNeededFor_a7421 2 none := ⟨(bsG_in 583 (by decide +kernel) rfl), Or.inr (by decide +kernel), (bsG_in 40 (by decide +kernel) rfl), (bsG_in 584 (by decide +kernel) rfl), (bsG_in 1629 (by decide +kernel) rfl), by decide +kernel, by decide +kernel⟩
theorem dpJ5_inflateIfNeededFor_a7421 : (parseMethodDescriptor yJ5_inflateIfNeededFor_a7421.desc).map (fun d => d.parameters.length) = some 1 := by decide +kernel
abbrev rmJ5_putStringAt_47b60 : Room := { frames := 2, cells := 0, slots := 0, locals := 83 }
set_option maxHeartbeats 4000000 in
set_option maxRecDepth 100000 in
theorem cJ5_putStringAt_47b60_ok {l : Launch} {ρ : bsR} {sc L : Nat} {xs : Nat → Int32} {cA : Nat → ClassId} {dC : Nat → ClassId} {dI : Nat → Nat → Nat} {X : bsX} {t n : Nat} {cn : Int32} {b v k : Nat} {ml : Int32} {a : Nat → Int32} {R0 : va_W} (ht : t < 22) (hK : k ≤ 65536) (hn : n + stN t ≤ k) : xMv l yJ5_putStringAt_47b60 cJ5_putStringAt_47b60 3 none rmJ5_putStringAt_47b60 ρ sc L xs cA dC dI [.ref b, .int (nI n), .ref (ρ 16 0 t)] X (R0 ++ [(b, sbC v ml cn), (v, byC cA k a)]) (fun X' R' => X' = X ∧ R' = R0 ++ [(b, sbC v ml cn), (v, byC cA k (va_cpy (fun j => (bsSb.getD t []).getD j 0) a 0 n (stN t)))]) := by
  refine xMv_of (by decide +kernel) (Nat.le_of_ble_eq_true rfl) (fun p e s m args below meth c C => ?_)
  have C : xCx p m c cJ5_putStringAt_47b60 3 s args (Cond.code yJ5_putStringAt_47b60 cJ5_putStringAt_47b60 3 none :: bsG) RJ5 ρ sc L xs cA dC dI (bsA ρ cA (R0 ++ [(b, sbC v ml cn), (v, byC cA k a)]) s.heap.size) meth none := C
  refine x_sub [0, 1, 2] rfl ?_
  have he : (R0 ++ [(b, sbC v ml cn), (v, byC cA k a)])[R0.length + 0]? = some (b, sbC v ml cn) := (jd_at R0 _ 0).trans rfl
  have hv : (R0 ++ [(b, sbC v ml cn), (v, byC cA k a)])[R0.length + 1]? = some (v, byC cA k a) := (jd_at R0 _ 1).trans rfl
  refine x_aload_n C dJ5_putStringAt_47b60_0 rfl rfl ?_
  refine x_aload_n C dJ5_putStringAt_47b60_1 rfl rfl ?_
  refine x_callUv (y := yJ5_inflateIfNeededFor_a7421) (As := [.ref (ρ 16 0 t)]) (rest := []) C (cJ5_inflateIfNeededFor_a7421_ok ht he) (bsG_in 581 (by decide +kernel) rfl) wuJ5_inflateIfNeededFor_a7421 he dpJ5_inflateIfNeededFor_a7421 ⟨Nat.le_of_ble_eq_true rfl, Nat.le_of_ble_eq_true rfl⟩ ⟨Nat.le_of_ble_eq_true rfl, Nat.le_of_ble_eq_true rfl⟩ rfl (Nat.le_of_ble_eq_true rfl) dJ5_putStringAt_47b60_2 (fun X' R' hp => ?_)
  obtain ⟨e2, e3⟩ := hp
  rw [e2, e3]
  clear e2 e3 X' R'
  refine x_aload_n C dJ5_putStringAt_47b60_5 rfl rfl ?_
  refine x_aload_n C dJ5_putStringAt_47b60_6 rfl rfl ?_
  refine x_get C (T := TJ4) (N := 4) (k := 0) (Cn := RJ4) (ref := "java/lang/AbstractStringBuilder") he rfl bsin_J4 (by decide) (bsG_in 610 (by decide +kernel) rfl) rfl rfl dJ5_putStringAt_47b60_7 ?_
  refine x_iload_n C dJ5_putStringAt_47b60_10 rfl rfl ?_
  refine x_aload_n C dJ5_putStringAt_47b60_11 rfl rfl ?_
  refine x_get C (T := TJ4) (N := 4) (k := 1) (Cn := RJ4) (ref := "java/lang/AbstractStringBuilder") he rfl bsin_J4 (by decide) (bsG_in 611 (by decide +kernel) rfl) rfl rfl dJ5_putStringAt_47b60_12 ?_
  refine x_callTv (y := yJ0_getBytes_840e7) (As := [.ref v, .int (nI n), .int 0]) (rest := []) C ht rfl (cJ0_getBytes_840e7_ok ht hK hn) (bsG_in 604 (by decide +kernel) rfl) wyJ0_getBytes_840e7 dpJ0_getBytes_840e7 ⟨Nat.le_of_ble_eq_true rfl, Nat.le_of_ble_eq_true rfl⟩ ⟨Nat.le_of_ble_eq_true rfl, Nat.le_of_ble_eq_true rfl⟩ rfl (Nat.le_of_ble_eq_true rfl) dJ5_putStringAt_47b60_15 (fun X' R' hp => ?_)
  obtain ⟨e2, e3⟩ := hp
  rw [e2, e3]
  clear e2 e3 X' R'
  exact x_vret C (⟨rfl, rfl⟩) (Nat.le_of_ble_eq_true rfl) (Nat.le_of_ble_eq_true rfl) dJ5_putStringAt_47b60_18
theorem jd_fitT {t n : Nat} {a : Nat → Int32} (ht : t < 22) (hf : sb_Fit a) : sb_Fit (va_cpy (fun j => (bsSb.getD t []).getD j 0) a 0 n (stN t)) := by
  intro j
  show fits .byte (.int (if n ≤ j ∧ j < n + stN t then _ else _)) = true
  split
  · exact ((st_ok t ht).2 (0 + (j - n)) (by omega)).2.2
  · exact hf j
theorem wuJ5_putStringAt_47b60 : xWu yJ5_putStringAt_47b60 cJ5_putStringAt_47b60 3 none := ⟨(bsG_in 579 (by decide +kernel) rfl), Or.inr (by decide +kernel), (bsG_in 40 (by decide +kernel) rfl), (bsG_in 580 (by decide +kernel) rfl), (bsG_in 1628 (by decide +kernel) rfl), by decide +kernel, by decide +kernel⟩
theorem dpJ5_putStringAt_47b60 : (parseMethodDescriptor yJ5_putStringAt_47b60.desc).map (fun d => d.parameters.length) = some 2 := by decide +kernel
abbrev rmJ5_append_cf1ce : Room := { frames := 4, cells := 1, slots := 1026, locals := 105 }
set_option maxHeartbeats 4000000 in
set_option maxRecDepth 100000 in
theorem cJ5_append_cf1ce_ok {l : Launch} {ρ : bsR} {sc L : Nat} {xs : Nat → Int32} {cA : Nat → ClassId} {dC : Nat → ClassId} {dI : Nat → Nat → Nat} {X : bsX} {t : Nat → Nat} {n u : Nat} {b v k : Nat} {ml : Int32} {a : Nat → Int32} {R0 : va_W} (hL : sb_Lat t n a) (hf : sb_Fit a) (hnk : n ≤ k) (hm : k ≤ 1026) (ht : u < 22) (hq : n + stN u ≤ 512) : xMr l yJ5_append_cf1ce cJ5_append_cf1ce 3 (some (.object "java/lang/AbstractStringBuilder")) rmJ5_append_cf1ce ρ sc L xs cA dC dI [.ref b, .ref (ρ 16 0 u)] X (R0 ++ [(b, sbC v ml (nI n)), (v, byC cA k a)]) (fun r X' R' => r = b ∧ X' = X ∧ sbW cA R0 b (sb_cat t n (stT u)) (n + stN u) R') := by
  refine xMr_of (by decide +kernel) (Nat.le_of_ble_eq_true rfl) (fun p e s m args below meth c C => ?_)
  have C : xCx p m c cJ5_append_cf1ce 3 s args (Cond.code yJ5_append_cf1ce cJ5_append_cf1ce 3 (some (.object "java/lang/AbstractStringBuilder")) :: bsG) RJ5 ρ sc L xs cA dC dI (bsA ρ cA (R0 ++ [(b, sbC v ml (nI n)), (v, byC cA k a)]) s.heap.size) meth (some (.object "java/lang/AbstractStringBuilder")) := C
  refine x_sub [0, 1] rfl ?_
  have he : (R0 ++ [(b, sbC v ml (nI n)), (v, byC cA k a)])[R0.length + 0]? = some (b, sbC v ml (nI n)) := (jd_at R0 _ 0).trans rfl
  have hv : (R0 ++ [(b, sbC v ml (nI n)), (v, byC cA k a)])[R0.length + 1]? = some (v, byC cA k a) := (jd_at R0 _ 1).trans rfl
  refine x_aload_n C dJ5_append_cf1ce_0 rfl rfl ?_
  refine x_nonnull (tgt := 9) C dJ5_append_cf1ce_1 (by decide) ?_
  refine x_aload_n C dJ5_append_cf1ce_9 rfl rfl ?_
  refine x_callTi (y := yJ0_length_8abf5) (As := []) (rest := []) C ht rfl (cJ0_length_8abf5_ok ht) (bsG_in 474 (by decide +kernel) rfl) wyJ0_length_8abf5 dpJ0_length_8abf5 ⟨Nat.le_of_ble_eq_true rfl, Nat.le_of_ble_eq_true rfl⟩ ⟨rfl, rfl⟩ ⟨Nat.le_of_ble_eq_true rfl, Nat.le_of_ble_eq_true rfl⟩ rfl (Nat.le_of_ble_eq_true rfl) dJ5_append_cf1ce_10 ?_
  refine x_topi (y := (nI (stN u))) (st_len u) ?_
  refine x_istore_n (lv' := [(2, .int (nI (stN u))), (0, .ref b), (1, .ref (ρ 16 0 u))]) C dJ5_append_cf1ce_13 rfl (by decide) rfl ?_
  refine x_aload_n C dJ5_append_cf1ce_14 rfl rfl ?_
  refine x_aload_n C dJ5_append_cf1ce_15 rfl rfl ?_
  refine x_get C (T := TJ4) (N := 4) (k := 3) (Cn := RJ4) (ref := "java/lang/AbstractStringBuilder") he rfl bsin_J4 (by decide) (bsG_in 613 (by decide +kernel) rfl) rfl rfl dJ5_append_cf1ce_16 ?_
  refine x_iload_n C dJ5_append_cf1ce_19 rfl rfl ?_
  refine x_iadd C dJ5_append_cf1ce_20 ?_
  refine x_topi (y := (nI (n + stN u))) (nI_add n (stN u)) ?_
  refine x_callUv (y := yJ5_ensureCapacityInternal_d00df) (As := [.int (nI (n + stN u))]) (rest := []) C (cJ5_ensureCapacityInternal_d00df_ok hq hm hf) (bsG_in 511 (by decide +kernel) rfl) wuJ5_ensureCapacityInternal_d00df he dpJ5_ensureCapacityInternal_d00df ⟨Nat.le_of_ble_eq_true rfl, Nat.le_of_ble_eq_true rfl⟩ ⟨Nat.le_of_ble_eq_true rfl, Nat.le_of_ble_eq_true rfl⟩ rfl (Nat.le_of_ble_eq_true rfl) dJ5_append_cf1ce_21 (fun X' R' hp => ?_)
  obtain ⟨e2, v', a', e3, hf', hk'⟩ := hp
  rw [e2, e3]
  clear e2 e3 X' R'
  obtain ⟨hg1, hg2⟩ := jd_capc (k := k) (q := (n + stN u)) hq hm
  have hk2 : ∀ j, j < n → a' j = a j := fun j hj => hk' j (by omega)
  clear hk'
  generalize sb_cap (n + stN u) k = K at *
  have he2 : (R0 ++ [(b, sbC v' ml (nI n)), (v', byC cA K a')])[R0.length + 0]? = some (b, sbC v' ml (nI n)) := (jd_at R0 _ 0).trans rfl
  have hv2 : (R0 ++ [(b, sbC v' ml (nI n)), (v', byC cA K a')])[R0.length + 1]? = some (v', byC cA K a') := (jd_at R0 _ 1).trans rfl
  refine x_aload_n C dJ5_append_cf1ce_24 rfl rfl ?_
  refine x_aload_n C dJ5_append_cf1ce_25 rfl rfl ?_
  refine x_get C (T := TJ4) (N := 4) (k := 3) (Cn := RJ4) (ref := "java/lang/AbstractStringBuilder") he2 rfl bsin_J4 (by decide) (bsG_in 613 (by decide +kernel) rfl) rfl rfl dJ5_append_cf1ce_26 ?_
  refine x_aload_n C dJ5_append_cf1ce_29 rfl rfl ?_
  refine x_callUv (y := yJ5_putStringAt_47b60) (As := [.int (nI n), .ref (ρ 16 0 u)]) (rest := []) C (cJ5_putStringAt_47b60_ok ht (by omega) hg1) (bsG_in 577 (by decide +kernel) rfl) wuJ5_putStringAt_47b60 he2 dpJ5_putStringAt_47b60 ⟨Nat.le_of_ble_eq_true rfl, Nat.le_of_ble_eq_true rfl⟩ ⟨Nat.le_of_ble_eq_true rfl, Nat.le_of_ble_eq_true rfl⟩ rfl (Nat.le_of_ble_eq_true rfl) dJ5_append_cf1ce_30 (fun X' R' hp => ?_)
  obtain ⟨e2, e3⟩ := hp
  rw [e2, e3]
  clear e2 e3 X' R'
  have he4 : (R0 ++ [(b, sbC v' ml (nI n)), (v', byC cA K (va_cpy (fun j => (bsSb.getD u []).getD j 0) a' 0 n (stN u)))])[R0.length + 0]? = some (b, sbC v' ml (nI n)) := (jd_at R0 _ 0).trans rfl
  refine x_aload_n C dJ5_append_cf1ce_33 rfl rfl ?_
  refine x_dup C dJ5_append_cf1ce_34 rfl ?_
  refine x_get C (T := TJ4) (N := 4) (k := 3) (Cn := RJ4) (ref := "java/lang/AbstractStringBuilder") he4 rfl bsin_J4 (by decide) (bsG_in 613 (by decide +kernel) rfl) rfl rfl dJ5_append_cf1ce_35 ?_
  refine x_iload_n C dJ5_append_cf1ce_38 rfl rfl ?_
  refine x_iadd C dJ5_append_cf1ce_39 ?_
  refine x_topi (y := (nI (n + stN u))) (nI_add n (stN u)) ?_
  refine x_put (Rz' := R0 ++ [(b, sbC v' ml (nI (n + stN u))), (v', byC cA K (va_cpy (fun j => (bsSb.getD u []).getD j 0) a' 0 n (stN u)))]) C (T := TJ4) (N := 4) (k := 3) (Cn := RJ4) (ref := "java/lang/AbstractStringBuilder") (ty := .int) he4 rfl bsin_J4 tyJ4 tyJ4_ok nmJ4 (by decide) (bsG_in 613 (by decide +kernel) rfl) rfl rfl rfl rfl rfl (Nat.le_of_ble_eq_true rfl) (jd_set R0 _ 0 _) dJ5_append_cf1ce_40 ?_
  refine x_aload_n C dJ5_append_cf1ce_43 rfl rfl ?_
  exact x_aret C (Or.inl ⟨_, rfl⟩) (⟨rfl, rfl, v', K, _, ml, rfl, sb_latPut hL (fun j hj => (if_neg (by omega)).trans (hk2 j hj)) (fun i hi => ⟨((st_ok u ht).2 i hi).1, by
    show (if n ≤ n + i ∧ n + i < n + stN u then _ else _) = _
    rw [if_pos (by omega), show 0 + (n + i - n) = i by omega]
    exact ((st_ok u ht).2 i hi).2.1⟩), jd_fitT ht hf', hg1, hg2⟩) (Nat.le_of_ble_eq_true rfl) (Nat.le_of_ble_eq_true rfl) dJ5_append_cf1ce_44
theorem wsJ5_append_3fe6f : xWs RJ4 yJ5_append_3fe6f cJ5_append_3fe6f 2 (some (.object "java/lang/AbstractStringBuilder")) := ⟨(bsG_in 652 (by decide +kernel) rfl), (bsG_in 505 (by decide +kernel) rfl), (bsG_in 40 (by decide +kernel) rfl), (bsG_in 653 (by decide +kernel) rfl), (bsG_in 1632 (by decide +kernel) rfl), by decide +kernel⟩
theorem dpJ5_append_3fe6f : (parseMethodDescriptor yJ5_append_3fe6f.desc).map (fun d => d.parameters.length) = some 1 := by decide +kernel
abbrev rmJ4_append_cf468 : Room := { frames := 5, cells := 1, slots := 1026, locals := 125 }
set_option maxHeartbeats 4000000 in
set_option maxRecDepth 100000 in
theorem cJ4_append_cf468_ok {l : Launch} {ρ : bsR} {sc L : Nat} {xs : Nat → Int32} {cA : Nat → ClassId} {dC : Nat → ClassId} {dI : Nat → Nat → Nat} {X : bsX} {t : Nat → Nat} {n ch : Nat} {b v k : Nat} {ml : Int32} {a : Nat → Int32} {R0 : va_W} (hL : sb_Lat t n a) (hf : sb_Fit a) (hnk : n ≤ k) (hm : k ≤ 1026) (hq : n + 1 ≤ 512) (hc : ch < 256) : xMr l yJ4_append_cf468 cJ4_append_cf468 2 (some (.object "java/lang/StringBuilder")) rmJ4_append_cf468 ρ sc L xs cA dC dI [.ref b, .int (nI ch)] X (R0 ++ [(b, sbC v ml (nI n)), (v, byC cA k a)]) (fun r X' R' => r = b ∧ X' = X ∧ sbW cA R0 b (sb_cat t n (fun _ => ch)) (n + 1) R') := by
  refine xMr_of (by decide +kernel) (Nat.le_of_ble_eq_true rfl) (fun p e s m args below meth c C => ?_)
  have C : xCx p m c cJ4_append_cf468 2 s args (Cond.code yJ4_append_cf468 cJ4_append_cf468 2 (some (.object "java/lang/StringBuilder")) :: bsG) RJ4 ρ sc L xs cA dC dI (bsA ρ cA (R0 ++ [(b, sbC v ml (nI n)), (v, byC cA k a)]) s.heap.size) meth (some (.object "java/lang/StringBuilder")) := C
  refine x_sub [0, 1] rfl ?_
  have he : (R0 ++ [(b, sbC v ml (nI n)), (v, byC cA k a)])[R0.length + 0]? = some (b, sbC v ml (nI n)) := (jd_at R0 _ 0).trans rfl
  refine x_aload_n C dJ4_append_cf468_0 rfl rfl ?_
  refine x_iload_n C dJ4_append_cf468_1 rfl rfl ?_
  refine x_callSr' (y := yJ5_append_3fe6f) (As := [.int (nI ch)]) (rest := []) C (cJ5_append_3fe6f_ok hL hf hnk hm hq hc) (bsG_in 651 (by decide +kernel) rfl) wsJ5_append_3fe6f he dpJ5_append_3fe6f ⟨Nat.le_of_ble_eq_true rfl, Nat.le_of_ble_eq_true rfl⟩ ⟨Nat.le_of_ble_eq_true rfl, Nat.le_of_ble_eq_true rfl⟩ rfl (Nat.le_of_ble_eq_true rfl) dJ4_append_cf468_2 (fun r X' R' hp => ?_)
  obtain ⟨e1, e2, hW⟩ := hp
  rw [e2]
  clear e2 X'
  refine x_pop C dJ4_append_cf468_5 rfl ?_
  refine x_aload_n C dJ4_append_cf468_6 rfl rfl ?_
  exact x_aret C (Or.inl ⟨_, rfl⟩) (⟨rfl, rfl, hW⟩) (Nat.le_of_ble_eq_true rfl) (Nat.le_of_ble_eq_true rfl) dJ4_append_cf468_7
theorem wsJ5_append_c97b9 : xWs RJ4 yJ5_append_c97b9 cJ5_append_c97b9 4 (some (.object "java/lang/AbstractStringBuilder")) := ⟨(bsG_in 627 (by decide +kernel) rfl), (bsG_in 505 (by decide +kernel) rfl), (bsG_in 40 (by decide +kernel) rfl), (bsG_in 628 (by decide +kernel) rfl), (bsG_in 1631 (by decide +kernel) rfl), by decide +kernel⟩
theorem dpJ5_append_c97b9 : (parseMethodDescriptor yJ5_append_c97b9.desc).map (fun d => d.parameters.length) = some 1 := by decide +kernel
abbrev rmJ4_append_bf812 : Room := { frames := 5, cells := 1, slots := 1026, locals := 127 }
set_option maxHeartbeats 4000000 in
set_option maxRecDepth 100000 in
theorem cJ4_append_bf812_ok {l : Launch} {ρ : bsR} {sc L : Nat} {xs : Nat → Int32} {cA : Nat → ClassId} {dC : Nat → ClassId} {dI : Nat → Nat → Nat} {X : bsX} {t : Nat → Nat} {n w : Nat} {b v k : Nat} {ml : Int32} {a : Nat → Int32} {R0 : va_W} (hL : sb_Lat t n a) (hf : sb_Fit a) (hnk : n ≤ k) (hm : k ≤ 1026) (hw : w < 2 ^ 31) (hq : n + sb_dg w ≤ 512) : xMr l yJ4_append_bf812 cJ4_append_bf812 2 (some (.object "java/lang/StringBuilder")) rmJ4_append_bf812 ρ sc L xs cA dC dI [.ref b, .int (nI w)] X (R0 ++ [(b, sbC v ml (nI n)), (v, byC cA k a)]) (fun r X' R' => r = b ∧ X' = X ∧ sbW cA R0 b (sb_cat t n (sb_dec w)) (n + sb_dg w) R') := by
  refine xMr_of (by decide +kernel) (Nat.le_of_ble_eq_true rfl) (fun p e s m args below meth c C => ?_)
  have C : xCx p m c cJ4_append_bf812 2 s args (Cond.code yJ4_append_bf812 cJ4_append_bf812 2 (some (.object "java/lang/StringBuilder")) :: bsG) RJ4 ρ sc L xs cA dC dI (bsA ρ cA (R0 ++ [(b, sbC v ml (nI n)), (v, byC cA k a)]) s.heap.size) meth (some (.object "java/lang/StringBuilder")) := C
  refine x_sub [0, 1] rfl ?_
  have he : (R0 ++ [(b, sbC v ml (nI n)), (v, byC cA k a)])[R0.length + 0]? = some (b, sbC v ml (nI n)) := (jd_at R0 _ 0).trans rfl
  refine x_aload_n C dJ4_append_bf812_0 rfl rfl ?_
  refine x_iload_n C dJ4_append_bf812_1 rfl rfl ?_
  refine x_callSr' (y := yJ5_append_c97b9) (As := [.int (nI w)]) (rest := []) C (cJ5_append_c97b9_ok hL hf hnk hm hw hq) (bsG_in 626 (by decide +kernel) rfl) wsJ5_append_c97b9 he dpJ5_append_c97b9 ⟨Nat.le_of_ble_eq_true rfl, Nat.le_of_ble_eq_true rfl⟩ ⟨Nat.le_of_ble_eq_true rfl, Nat.le_of_ble_eq_true rfl⟩ rfl (Nat.le_of_ble_eq_true rfl) dJ4_append_bf812_2 (fun r X' R' hp => ?_)
  obtain ⟨e1, e2, hW⟩ := hp
  rw [e2]
  clear e2 X'
  refine x_pop C dJ4_append_bf812_5 rfl ?_
  refine x_aload_n C dJ4_append_bf812_6 rfl rfl ?_
  exact x_aret C (Or.inl ⟨_, rfl⟩) (⟨rfl, rfl, hW⟩) (Nat.le_of_ble_eq_true rfl) (Nat.le_of_ble_eq_true rfl) dJ4_append_bf812_7
theorem wsJ5_append_cf1ce : xWs RJ4 yJ5_append_cf1ce cJ5_append_cf1ce 3 (some (.object "java/lang/AbstractStringBuilder")) := ⟨(bsG_in 495 (by decide +kernel) rfl), (bsG_in 505 (by decide +kernel) rfl), (bsG_in 40 (by decide +kernel) rfl), (bsG_in 506 (by decide +kernel) rfl), (bsG_in 496 (by decide +kernel) rfl), by decide +kernel⟩
theorem dpJ5_append_cf1ce : (parseMethodDescriptor yJ5_append_cf1ce.desc).map (fun d => d.parameters.length) = some 1 := by decide +kernel
abbrev rmJ4_append_15ec4 : Room := { frames := 5, cells := 1, slots := 1026, locals := 127 }
set_option maxHeartbeats 4000000 in
set_option maxRecDepth 100000 in
theorem cJ4_append_15ec4_ok {l : Launch} {ρ : bsR} {sc L : Nat} {xs : Nat → Int32} {cA : Nat → ClassId} {dC : Nat → ClassId} {dI : Nat → Nat → Nat} {X : bsX} {t : Nat → Nat} {n u : Nat} {b v k : Nat} {ml : Int32} {a : Nat → Int32} {R0 : va_W} (hL : sb_Lat t n a) (hf : sb_Fit a) (hnk : n ≤ k) (hm : k ≤ 1026) (ht : u < 22) (hq : n + stN u ≤ 512) : xMr l yJ4_append_15ec4 cJ4_append_15ec4 2 (some (.object "java/lang/StringBuilder")) rmJ4_append_15ec4 ρ sc L xs cA dC dI [.ref b, .ref (ρ 16 0 u)] X (R0 ++ [(b, sbC v ml (nI n)), (v, byC cA k a)]) (fun r X' R' => r = b ∧ X' = X ∧ sbW cA R0 b (sb_cat t n (stT u)) (n + stN u) R') := by
  refine xMr_of (by decide +kernel) (Nat.le_of_ble_eq_true rfl) (fun p e s m args below meth c C => ?_)
  have C : xCx p m c cJ4_append_15ec4 2 s args (Cond.code yJ4_append_15ec4 cJ4_append_15ec4 2 (some (.object "java/lang/StringBuilder")) :: bsG) RJ4 ρ sc L xs cA dC dI (bsA ρ cA (R0 ++ [(b, sbC v ml (nI n)), (v, byC cA k a)]) s.heap.size) meth (some (.object "java/lang/StringBuilder")) := C
  refine x_sub [0, 1] rfl ?_
  have he : (R0 ++ [(b, sbC v ml (nI n)), (v, byC cA k a)])[R0.length + 0]? = some (b, sbC v ml (nI n)) := (jd_at R0 _ 0).trans rfl
  refine x_aload_n C dJ4_append_15ec4_0 rfl rfl ?_
  refine x_aload_n C dJ4_append_15ec4_1 rfl rfl ?_
  refine x_callSr' (y := yJ5_append_cf1ce) (As := [.ref (ρ 16 0 u)]) (rest := []) C (cJ5_append_cf1ce_ok hL hf hnk hm ht hq) (bsG_in 504 (by decide +kernel) rfl) wsJ5_append_cf1ce he dpJ5_append_cf1ce ⟨Nat.le_of_ble_eq_true rfl, Nat.le_of_ble_eq_true rfl⟩ ⟨Nat.le_of_ble_eq_true rfl, Nat.le_of_ble_eq_true rfl⟩ rfl (Nat.le_of_ble_eq_true rfl) dJ4_append_15ec4_2 (fun r X' R' hp => ?_)
  obtain ⟨e1, e2, hW⟩ := hp
  rw [e2]
  clear e2 X'
  refine x_pop C dJ4_append_15ec4_5 rfl ?_
  refine x_aload_n C dJ4_append_15ec4_6 rfl rfl ?_
  exact x_aret C (Or.inl ⟨_, rfl⟩) (⟨rfl, rfl, hW⟩) (Nat.le_of_ble_eq_true rfl) (Nat.le_of_ble_eq_true rfl) dJ4_append_15ec4_7
