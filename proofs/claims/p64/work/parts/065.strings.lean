/-! STRING CONSTANTS: loads, length, charAt -/
def bsLen (t : Nat) : Int32 := nI (bsSl.getD t 0)
def bsChr (t k : Nat) : Int32 := (bsSb.getD t []).getD k 0
theorem bsSr : ∀ t, t < 22 → bsSl.getD t 0 < 2 ^ 31 ∧ ∀ k, k < bsSl.getD t 0 → (((bsSb.getD t []).getD k 0 &&& 255).toUInt32 % 65536).toInt32 = bsChr t k ∧ narrow .char (.int (bsChr t k)) = .int (bsChr t k) := by decide +kernel
theorem wyJ0_length_8abf5 : bsWy yJ0_length_8abf5 cJ0_length_8abf5 1 (some .int) := ⟨bsG_in 475 (by decide +kernel) rfl, bsG_in 476 (by decide +kernel) rfl, bsG_in 42 (by decide +kernel) rfl, bsG_in 477 (by decide +kernel) rfl, by decide +kernel, by decide +kernel⟩
theorem dpJ0_length_8abf5 : (parseMethodDescriptor yJ0_length_8abf5.desc).map (fun d => d.parameters.length) = some 0 := by decide +kernel
theorem wyJ0_coder_7d493 : bsWy yJ0_coder_7d493 cJ0_coder_7d493 1 (some .byte) := ⟨bsG_in 479 (by decide +kernel) rfl, bsG_in 480 (by decide +kernel) rfl, bsG_in 42 (by decide +kernel) rfl, bsG_in 481 (by decide +kernel) rfl, by decide +kernel, by decide +kernel⟩
theorem dpJ0_coder_7d493 : (parseMethodDescriptor yJ0_coder_7d493.desc).map (fun d => d.parameters.length) = some 0 := by decide +kernel
theorem wyJ0_isLatin1_aae02 : bsWy yJ0_isLatin1_aae02 cJ0_isLatin1_aae02 1 (some .boolean) := ⟨bsG_in 795 (by decide +kernel) rfl, bsG_in 796 (by decide +kernel) rfl, bsG_in 42 (by decide +kernel) rfl, bsG_in 797 (by decide +kernel) rfl, by decide +kernel, by decide +kernel⟩
theorem dpJ0_isLatin1_aae02 : (parseMethodDescriptor yJ0_isLatin1_aae02.desc).map (fun d => d.parameters.length) = some 0 := by decide +kernel
theorem wyJ0_charAt_5068e : bsWy yJ0_charAt_5068e cJ0_charAt_5068e 2 (some .char) := ⟨bsG_in 791 (by decide +kernel) rfl, bsG_in 792 (by decide +kernel) rfl, bsG_in 42 (by decide +kernel) rfl, bsG_in 793 (by decide +kernel) rfl, by decide +kernel, by decide +kernel⟩
theorem dpJ0_charAt_5068e : (parseMethodDescriptor yJ0_charAt_5068e.desc).map (fun d => d.parameters.length) = some 1 := by decide +kernel
theorem wzJ1_charAt_3b067 : bsWz yJ1_charAt_3b067 cJ1_charAt_3b067 2 (some .char) := ⟨bsG_in 799 (by decide +kernel) rfl, bsG_in 49 (by decide +kernel) rfl, bsG_in 800 (by decide +kernel) rfl, by decide +kernel, by decide +kernel⟩
theorem dpJ1_charAt_3b067 : (parseMethodDescriptor yJ1_charAt_3b067.desc).map (fun d => d.parameters.length) = some 2 := by decide +kernel
theorem wzJ0_checkIndex_df160 : bsWz yJ0_checkIndex_df160 cJ0_checkIndex_df160 2 none := ⟨bsG_in 664 (by decide +kernel) rfl, bsG_in 42 (by decide +kernel) rfl, bsG_in 665 (by decide +kernel) rfl, by decide +kernel, by decide +kernel⟩
theorem dpJ0_checkIndex_df160 : (parseMethodDescriptor yJ0_checkIndex_df160.desc).map (fun d => d.parameters.length) = some 2 := by decide +kernel
theorem wzJ3_checkIndex_8e157 : bsWz yJ3_checkIndex_8e157 cJ3_checkIndex_8e157 3 (some .int) := ⟨bsG_in 667 (by decide +kernel) rfl, bsG_in 48 (by decide +kernel) rfl, bsG_in 668 (by decide +kernel) rfl, by decide +kernel, by decide +kernel⟩
theorem dpJ3_checkIndex_8e157 : (parseMethodDescriptor yJ3_checkIndex_8e157.desc).map (fun d => d.parameters.length) = some 3 := by decide +kernel
theorem ml_J0_335 : Cond.methodLink RJ0 335 yJ0_coder_7d493 ∈ bsG := bsG_in 478 (by decide +kernel) rfl
theorem ml_J0_492 : Cond.methodLink RJ0 492 yJ0_isLatin1_aae02 ∈ bsG := bsG_in 794 (by decide +kernel) rfl
theorem ml_J0_495 : Cond.methodLink RJ0 495 yJ1_charAt_3b067 ∈ bsG := bsG_in 798 (by decide +kernel) rfl
theorem ml_J1_9 : Cond.methodLink RJ1 9 yJ0_checkIndex_df160 ∈ bsG := bsG_in 801 (by decide +kernel) rfl
theorem ml_J0_1059 : Cond.methodLink RJ0 1059 yJ3_checkIndex_8e157 ∈ bsG := bsG_in 666 (by decide +kernel) rfl
theorem fl_J0_9 : Cond.fieldLink RJ0 9 "java/lang/String" "value" "[B" ∈ bsG := bsG_in 1558 (by decide +kernel) rfl
theorem fl_J0_15 : Cond.fieldLink RJ0 15 "java/lang/String" "coder" "B" ∈ bsG := bsG_in 1559 (by decide +kernel) rfl
theorem fl_J0_38 : Cond.fieldLink RJ0 38 "java/lang/String" "COMPACT_STRINGS" "Z" ∈ bsG := bsG_in 482 (by decide +kernel) rfl
theorem fl_J0_1053 : Cond.fieldLink RJ0 1053 "jdk/internal/util/Preconditions" "SIOOBE_FORMATTER" "Ljava/util/function/BiFunction;" ∈ bsG := bsG_in 563 (by decide +kernel) rfl
section BST
variable {p : Program} {l : Launch} {e : Env} {R : Room} {s : State} {m : MethodId} {args : Array Value} {below : List Frame} {meth : Method} {c : Code} {cells slots : Nat} {Q : State → Prop} {ρ : bsR} {cA : Nat → ClassId} {dC : Nat → ClassId} {dI : Nat → Nat → Nat} {Rz : va_W} {nL : Nat} {cc : ByteArray} {Ts : List Cond} {own : String} {ret : Option FieldType} {pc : Nat} {lv : List (Nat × Value)} {st : List Value} {X : bsX}
theorem va_ldcSw {T : State} {locs : List Loc} (X0 : Stand p l e R s m args below meth c T locs cells slots) (hexec : p.tables.exec = Jvm.exec) {text : String} {index : Nat} {a : Addr} (hown : s.vm.findClass own = some m.cls) (hconst : (Cond.stringRef own index text).before args s = true) (hev : (Term.string own index).eval args s none [] s = some (.ref a)) {g : JFrame} (hg : g.method = m) (hdg : decode c.code g.pc = .ok (.ldc_w index, 3)) :
    ∀ target, Steps p.tables e below (T.setTop { g with pc := g.pc + 3, stack := .ref a :: g.stack }) target → Steps p.tables e below (T.setTop g) target := by
  obtain ⟨k, cf, i, a', hk, hcf, hcp, -, hr, hev'⟩ := Cond.stringRef_spec hown hconst
  cases hev.symm.trans hev'
  obtain ⟨k', hk', he⟩ := X0.warmed.alike.2.2 _ _ hk
  have hr' : k'.resolved[index]? = some (some (.string a)) := by
    rcases X0.warmed.entry hk hk' index with h | ⟨h, -⟩
    · rw [h]; exact hr
    · rw [hr] at h; cases h
  intro target hrest
  subst hg
  jvm_step X0.here [hexec, hdg, ldc_w.wp_string (e := e) (s := T) (f := g) X0.here.top hk' (by rw [he]; exact hcf) hcp hr']
  exact hrest
theorem v_ldcS (C : bsCx p m c cc nL s args Ts own ρ cA dC dI Rz meth ret) {tx : String} {t index : Nat} (h : (own, index, tx, t) ∈ bsSR) (hd : decode cc pc = .ok (.ldc index, 2)) (k : bsV p l e R s m args below meth c cells slots Q ρ cA dC dI Rz nL (pc + 2) lv (.ref (ρ 16 0 t) :: st) X) : bsV p l e R s m args below meth c cells slots Q ρ cA dC dI Rz nL pc lv st X := fun ls H locs hl hP hD hS => va_ldcS C.1.1 C.1.2.1 C.1.2.2.2.1 (C.2.2.2.1.2.2.1 _ h) hd (k ls H locs hl hP hD hS)
theorem v_ldcSw (C : bsCx p m c cc nL s args Ts own ρ cA dC dI Rz meth ret) {tx : String} {t index : Nat} (h : (own, index, tx, t) ∈ bsSR) (hd : decode cc pc = .ok (.ldc_w index, 3)) (k : bsV p l e R s m args below meth c cells slots Q ρ cA dC dI Rz nL (pc + 3) lv (.ref (ρ 16 0 t) :: st) X) : bsV p l e R s m args below meth c cells slots Q ρ cA dC dI Rz nL pc lv st X := by
  intro ls H locs hl hP hD hS T hT X0
  obtain ⟨t1, a1, b1⟩ := k ls H locs hl hP hD hS T hT X0
  have hZ := C.2.2.2.1.2.2.1 _ h
  exact ⟨t1, va_ldcSw X0 C.1.1 C.1.2.2.2.1 hZ.1 hZ.2 (g := F0 m pc ls st) rfl (by rw [C.1.2.1]; exact hd) t1 a1, b1⟩
theorem v_sgetV (C : bsCx p m c cc nL s args Ts RJ0 ρ cA dC dI Rz meth ret) {t : Nat} (ht : t < 22) (hd : decode cc pc = .ok (.getfield 9, 3)) (k : bsV p l e R s m args below meth c cells slots Q ρ cA dC dI Rz nL (pc + 3) lv (.ref (ρ 16 1 t) :: st) X) : bsV p l e R s m args below meth c cells slots Q ρ cA dC dI Rz nL pc lv (.ref (ρ 16 0 t) :: st) X := fun ls H locs hl hP hD hS => vk_getf C.1.1 C.1.2.1 (C.2.2.2.1.2.1.1 t ht).2.2.1 hS C.1.2.2.2.1 (C.1.2.2.2.2 _ (C.2.2.1 _ fl_J0_9)) (fun _ h => h) hd (k ls H locs hl hP hD hS)
theorem v_sgetC (C : bsCx p m c cc nL s args Ts RJ0 ρ cA dC dI Rz meth ret) {t : Nat} (ht : t < 22) (hd : decode cc pc = .ok (.getfield 15, 3)) (k : bsV p l e R s m args below meth c cells slots Q ρ cA dC dI Rz nL (pc + 3) lv (.int 0 :: st) X) : bsV p l e R s m args below meth c cells slots Q ρ cA dC dI Rz nL pc lv (.ref (ρ 16 0 t) :: st) X := fun ls H locs hl hP hD hS => vk_getf C.1.1 C.1.2.1 (C.2.2.2.1.2.1.1 t ht).2.1 hS C.1.2.2.2.1 (C.1.2.2.2.2 _ (C.2.2.1 _ fl_J0_15)) (fun _ h => h) hd (k ls H locs hl hP hD hS)
theorem v_gsCS (C : bsCx p m c cc nL s args Ts RJ0 ρ cA dC dI Rz meth ret) (hd : decode cc pc = .ok (.getstatic 38, 3)) (k : bsV p l e R s m args below meth c cells slots Q ρ cA dC dI Rz nL (pc + 3) lv (.int 1 :: st) X) : bsV p l e R s m args below meth c cells slots Q ρ cA dC dI Rz nL pc lv st X := fun ls H locs hl hP hD hS => va_gets C.1.1 C.1.2.1 C.2.2.2.1.2.2.2.1 hS C.1.2.2.2.1 (C.1.2.2.2.2 _ (C.2.2.1 _ fl_J0_38)) (fun _ h => h) hd (k ls H locs hl hP hD hS)
theorem v_gsSI (C : bsCx p m c cc nL s args Ts RJ0 ρ cA dC dI Rz meth ret) (hd : decode cc pc = .ok (.getstatic 1053, 3)) (k : ∀ v : Value, (v = .null ∨ ∃ a, v = .ref a) → bsV p l e R s m args below meth c cells slots Q ρ cA dC dI Rz nL (pc + 3) lv (v :: st) X) : bsV p l e R s m args below meth c cells slots Q ρ cA dC dI Rz nL pc lv st X := by
  intro ls H locs hl hP hD hS
  rcases C.2.2.2.1.2.2.2.2.1 with h | ⟨a, h⟩
  · exact va_gets C.1.1 C.1.2.1 h hS C.1.2.2.2.1 (C.1.2.2.2.2 _ (C.2.2.1 _ fl_J0_1053)) (fun _ h => h) hd (k _ (Or.inl rfl) ls H locs hl hP hD hS)
  · exact va_gets C.1.1 C.1.2.1 h hS C.1.2.2.2.1 (C.1.2.2.2.2 _ (C.2.2.1 _ fl_J0_1053)) (fun _ h => h) hd (k _ (Or.inr ⟨a, rfl⟩) ls H locs hl hP hD hS)
theorem v_slen (C : bsCx p m c cc nL s args Ts own ρ cA dC dI Rz meth ret) {t : Nat} (ht : t < 22) (hd : decode cc pc = .ok (.arraylength, 1)) (k : bsV p l e R s m args below meth c cells slots Q ρ cA dC dI Rz nL (pc + 1) lv (.int (bsLen t) :: st) X) : bsV p l e R s m args below meth c cells slots Q ρ cA dC dI Rz nL pc lv (.ref (ρ 16 1 t) :: st) X := fun ls H locs hl hP hD hS => va_tlen C.1.1 C.1.2.1 (C.2.2.2.1.2.1.1 t ht).2.2.2 hS rfl hd (k ls H locs hl hP hD hS)
theorem v_sbald (C : bsCx p m c cc nL s args Ts own ρ cA dC dI Rz meth ret) {t : Nat} {i : Int32} (ht : t < 22) (hi : bsIn i (bsSl.getD t 0)) (hd : decode cc pc = .ok (.baload, 1)) (k : bsV p l e R s m args below meth c cells slots Q ρ cA dC dI Rz nL (pc + 1) lv (.int ((bsSb.getD t []).getD (bsIx i) 0) :: st) X) : bsV p l e R s m args below meth c cells slots Q ρ cA dC dI Rz nL pc lv (.int i :: .ref (ρ 16 1 t) :: st) X := fun ls H locs hl hP hD hS => va_tb C.1.1 C.1.2.1 (C.2.2.2.1.2.1.1 t ht).2.2.2 hS (vp_in_iff.mpr hi) rfl hd (k ls H locs hl hP hD hS)
theorem v_callTi (C : bsCx p m c cc nL s args Ts own ρ cA dC dI Rz meth ret) {y : MethodName} {b : ByteArray} {nL' index t : Nat} {ret' : Option FieldType} {rm' : Room} {As rest : List Value} {z : Int32 × bsX} (ht : t < 22) (hcls : y.cls = RJ0) (hM : bsMi l y b nL' ret' rm' ρ cA dC dI Rz (.ref (ρ 16 0 t) :: As) X z)
    (hl0 : Cond.methodLink own index y ∈ bsG) (hw : bsWy y b nL' ret') (hde : (parseMethodDescriptor y.desc).map (fun d => d.parameters.length) = some As.length)
    (hR : rm'.frames + 1 ≤ R.frames ∧ 8 + (nL' + 11) + rm'.locals ≤ R.locals) (hz0 : rm'.cells = 0 ∧ rm'.slots = 0) (hcs : cells ≤ R.cells ∧ slots ≤ R.slots) (hst : st = As.reverse ++ .ref (ρ 16 0 t) :: rest) (hW : (rest.map fun v => v.category).sum ≤ 8) (hd : decode cc pc = .ok (.invokevirtual index, 3))
    (kk : bsV p l e R s m args below meth c cells slots Q ρ cA dC dI Rz nL (pc + 3) lv (.int z.1 :: rest) z.2) : bsV p l e R s m args below meth c cells slots Q ρ cA dC dI Rz nL pc lv st X := by
  intro ls H locs hl hP hD hS
  have hpre := bs_pre (As := .ref (ρ 16 0 t) :: As) C hP hD hS
  have hrv := vk_recv C.2.2.2.1.2.1 ht hS
  rw [show "java/lang/String" = y.cls from hcls.symm] at hrv
  refine va_calli (va_runV (As := As) (rest := rest) C.1 (hM H.size) (cwV As.length C.1.2.2.2.2 (bs_goodV C.2.2.1 hl0 hw) rfl hz0.1 hz0.2 ⟨rfl, hw.2.2.2.2.1, hw.2.2.2.2.2, hde⟩ hR) ⟨hpre.1, hrv, hpre.2⟩ rfl rfl hl.1 hst (lv_room hW) hd ⟨hcs.1, hcs.2⟩) hS (fun q _ h => bsA_mono hS.1 h) (fun q h => bsA_mono hS.1 h) (fun r u t H1 locs1 ht hvm hr hB hz1 hk1 hS1 => ?_)
  have hr1 : r = z.1 := hr
  subst hr1
  exact bs_back hl ht hB hS1 kk
end BST
abbrev rmJ0_coder_7d493 : Room := { frames := 0, cells := 0, slots := 0, locals := 0 }
set_option maxHeartbeats 4000000 in
set_option maxRecDepth 100000 in
theorem cJ0_coder_7d493_ok {l : Launch} {ρ : bsR} {cA : Nat → ClassId} {dC : Nat → ClassId} {dI : Nat → Nat → Nat} {Rz : va_W} {X : bsX} {t : Nat} (ht : t < 22) : bsMi l yJ0_coder_7d493 cJ0_coder_7d493 1 (some .byte) rmJ0_coder_7d493 ρ cA dC dI Rz [.ref (ρ 16 0 t)] X (0, X) := by
  refine bsMi_of (by decide +kernel) (Nat.le_of_ble_eq_true rfl) (fun p e s m args below meth c C => ?_)
  have C : bsCx p m c cJ0_coder_7d493 1 s args (Cond.code yJ0_coder_7d493 cJ0_coder_7d493 1 (some .byte) :: bsG) RJ0 ρ cA dC dI Rz meth (some .byte) := C
  refine v_sub [0] rfl ?_
  refine v_gsCS C dJ0_coder_7d493_0 ?_
  refine v_if_eq (tgt := 13) C dJ0_coder_7d493_3 (by decide) (fun h => absurd h (by decide)) (fun _ => ?_)
  refine v_aload_n C dJ0_coder_7d493_6 rfl rfl ?_
  refine v_sgetC C ht dJ0_coder_7d493_7 ?_
  refine v_goto (tgt := 14) C dJ0_coder_7d493_10 (by decide) ?_
  exact v_xret C rfl rfl dJ0_coder_7d493_14
abbrev rmJ0_isLatin1_aae02 : Room := { frames := 0, cells := 0, slots := 0, locals := 0 }
set_option maxHeartbeats 4000000 in
set_option maxRecDepth 100000 in
theorem cJ0_isLatin1_aae02_ok {l : Launch} {ρ : bsR} {cA : Nat → ClassId} {dC : Nat → ClassId} {dI : Nat → Nat → Nat} {Rz : va_W} {X : bsX} {t : Nat} (ht : t < 22) : bsMi l yJ0_isLatin1_aae02 cJ0_isLatin1_aae02 1 (some .boolean) rmJ0_isLatin1_aae02 ρ cA dC dI Rz [.ref (ρ 16 0 t)] X (1, X) := by
  refine bsMi_of (by decide +kernel) (Nat.le_of_ble_eq_true rfl) (fun p e s m args below meth c C => ?_)
  have C : bsCx p m c cJ0_isLatin1_aae02 1 s args (Cond.code yJ0_isLatin1_aae02 cJ0_isLatin1_aae02 1 (some .boolean) :: bsG) RJ0 ρ cA dC dI Rz meth (some .boolean) := C
  refine v_sub [0] rfl ?_
  refine v_gsCS C dJ0_isLatin1_aae02_0 ?_
  refine v_if_eq (tgt := 17) C dJ0_isLatin1_aae02_3 (by decide) (fun h => absurd h (by decide)) (fun _ => ?_)
  refine v_aload_n C dJ0_isLatin1_aae02_6 rfl rfl ?_
  refine v_sgetC C ht dJ0_isLatin1_aae02_7 ?_
  refine v_if_ne (tgt := 17) C dJ0_isLatin1_aae02_10 (by decide) (fun h => absurd rfl h) (fun _ => ?_)
  refine v_iconst (v := 1) C dJ0_isLatin1_aae02_13 (by decide) ?_
  refine v_goto (tgt := 18) C dJ0_isLatin1_aae02_14 (by decide) ?_
  exact v_xret C rfl rfl dJ0_isLatin1_aae02_18
abbrev rmJ0_length_8abf5 : Room := { frames := 1, cells := 0, slots := 0, locals := 20 }
set_option maxHeartbeats 4000000 in
set_option maxRecDepth 100000 in
theorem cJ0_length_8abf5_ok {l : Launch} {ρ : bsR} {cA : Nat → ClassId} {dC : Nat → ClassId} {dI : Nat → Nat → Nat} {Rz : va_W} {X : bsX} {t : Nat} (ht : t < 22) : bsMi l yJ0_length_8abf5 cJ0_length_8abf5 1 (some .int) rmJ0_length_8abf5 ρ cA dC dI Rz [.ref (ρ 16 0 t)] X (bsLen t, X) := by
  refine bsMi_of (by decide +kernel) (Nat.le_of_ble_eq_true rfl) (fun p e s m args below meth c C => ?_)
  have C : bsCx p m c cJ0_length_8abf5 1 s args (Cond.code yJ0_length_8abf5 cJ0_length_8abf5 1 (some .int) :: bsG) RJ0 ρ cA dC dI Rz meth (some .int) := C
  refine v_sub [0] rfl ?_
  refine v_aload_n C dJ0_length_8abf5_0 rfl rfl ?_
  refine v_sgetV C ht dJ0_length_8abf5_1 ?_
  refine v_slen C ht dJ0_length_8abf5_4 ?_
  refine v_aload_n C dJ0_length_8abf5_5 rfl rfl ?_
  refine v_callTi (y := yJ0_coder_7d493) (As := []) (rest := [.int (bsLen t)]) C ht rfl (cJ0_coder_7d493_ok ht) ml_J0_335 wyJ0_coder_7d493 dpJ0_coder_7d493 ⟨Nat.le_of_ble_eq_true rfl, Nat.le_of_ble_eq_true rfl⟩ ⟨rfl, rfl⟩ ⟨Nat.zero_le _, Nat.zero_le _⟩ rfl (Nat.le_of_ble_eq_true rfl) dJ0_length_8abf5_6 ?_
  refine v_ishr C dJ0_length_8abf5_9 ?_
  refine v_iret C ?_ dJ0_length_8abf5_10
  have h : ∀ t, t < 22 → bsLen t >>> ((0 : Int32) &&& 31) = bsLen t := by decide +kernel
  show some (bsLen t >>> ((0 : Int32) &&& 31), X) = some (bsLen t, X)
  rw [h t ht]
abbrev rmJ3_checkIndex_8e157 : Room := { frames := 0, cells := 0, slots := 0, locals := 0 }
set_option maxHeartbeats 4000000 in
set_option maxRecDepth 100000 in
theorem cJ3_checkIndex_8e157_ok {l : Launch} {ρ : bsR} {cA : Nat → ClassId} {dC : Nat → ClassId} {dI : Nat → Nat → Nat} {Rz : va_W} {X : bsX} {i n : Int32} {v : Value} (hv : v = .null ∨ ∃ a, v = .ref a) (h0 : ¬ i < 0) (h1 : i < n) : bsMi l yJ3_checkIndex_8e157 cJ3_checkIndex_8e157 3 (some .int) rmJ3_checkIndex_8e157 ρ cA dC dI Rz [.int i, .int n, v] X (i, X) := by
  refine bsMi_of (by decide +kernel) (by rcases hv with rfl | ⟨a, rfl⟩ <;> exact Nat.le_of_ble_eq_true rfl) (fun p e s m args below meth c C => ?_)
  have C : bsCx p m c cJ3_checkIndex_8e157 3 s args (Cond.code yJ3_checkIndex_8e157 cJ3_checkIndex_8e157 3 (some .int) :: bsG) RJ3 ρ cA dC dI Rz meth (some .int) := C
  have C0 := C
  clear C0
  rcases hv with rfl | ⟨a, rfl⟩
  all_goals
    refine v_sub [0, 1] rfl ?_
    refine v_iload_n C dJ3_checkIndex_8e157_0 rfl rfl ?_
    refine v_if_lt (tgt := 9) C dJ3_checkIndex_8e157_1 (by decide) (fun h => absurd h h0) (fun _ => ?_)
    refine v_iload_n C dJ3_checkIndex_8e157_4 rfl rfl ?_
    refine v_iload_n C dJ3_checkIndex_8e157_5 rfl rfl ?_
    refine v_icmp_lt (tgt := 16) C dJ3_checkIndex_8e157_6 (by decide) (fun _ => ?_) (fun h => absurd h1 h)
    refine v_iload_n C dJ3_checkIndex_8e157_16 rfl rfl ?_
    exact v_iret C rfl dJ3_checkIndex_8e157_17
abbrev rmJ0_checkIndex_df160 : Room := { frames := 1, cells := 0, slots := 0, locals := 22 }
set_option maxHeartbeats 4000000 in
set_option maxRecDepth 100000 in
theorem cJ0_checkIndex_df160_ok {l : Launch} {ρ : bsR} {cA : Nat → ClassId} {dC : Nat → ClassId} {dI : Nat → Nat → Nat} {Rz : va_W} {X : bsX} {i n : Int32} (h0 : ¬ i < 0) (h1 : i < n) : bsMv l yJ0_checkIndex_df160 cJ0_checkIndex_df160 2 none rmJ0_checkIndex_df160 ρ cA dC dI Rz [.int i, .int n] X X := by
  refine bsMv_of (by decide +kernel) (Nat.le_of_ble_eq_true rfl) (fun p e s m args below meth c C => ?_)
  have C : bsCx p m c cJ0_checkIndex_df160 2 s args (Cond.code yJ0_checkIndex_df160 cJ0_checkIndex_df160 2 none :: bsG) RJ0 ρ cA dC dI Rz meth none := C
  refine v_sub [0, 1] rfl ?_
  refine v_iload_n C dJ0_checkIndex_df160_0 rfl rfl ?_
  refine v_iload_n C dJ0_checkIndex_df160_1 rfl rfl ?_
  refine v_gsSI C dJ0_checkIndex_df160_2 (fun v hv => ?_)
  refine v_callSi (y := yJ3_checkIndex_8e157) (As := [.int i, .int n, v]) (rest := []) C (cJ3_checkIndex_8e157_ok hv h0 h1) ml_J0_1059 wzJ3_checkIndex_8e157 dpJ3_checkIndex_8e157 ⟨Nat.le_of_ble_eq_true rfl, Nat.le_of_ble_eq_true rfl⟩ ⟨rfl, rfl⟩ ⟨Nat.zero_le _, Nat.zero_le _⟩ rfl (Nat.le_of_ble_eq_true rfl) dJ0_checkIndex_df160_5 ?_
  refine v_pop C dJ0_checkIndex_df160_8 rfl ?_
  exact v_vret C rfl dJ0_checkIndex_df160_9
abbrev rmJ1_charAt_3b067 : Room := { frames := 2, cells := 0, slots := 0, locals := 43 }
set_option maxHeartbeats 4000000 in
set_option maxRecDepth 100000 in
theorem cJ1_charAt_3b067_ok {l : Launch} {ρ : bsR} {cA : Nat → ClassId} {dC : Nat → ClassId} {dI : Nat → Nat → Nat} {Rz : va_W} {X : bsX} {t : Nat} {i : Int32} (ht : t < 22) (hi : bsIn i (bsSl.getD t 0)) : bsMi l yJ1_charAt_3b067 cJ1_charAt_3b067 2 (some .char) rmJ1_charAt_3b067 ρ cA dC dI Rz [.ref (ρ 16 1 t), .int i] X (bsChr t (bsIx i), X) := by
  refine bsMi_of (by decide +kernel) (Nat.le_of_ble_eq_true rfl) (fun p e s m args below meth c C => ?_)
  have C : bsCx p m c cJ1_charAt_3b067 2 s args (Cond.code yJ1_charAt_3b067 cJ1_charAt_3b067 2 (some .char) :: bsG) RJ1 ρ cA dC dI Rz meth (some .char) := C
  have hx := bsSr t ht
  have hj := bsIx_lt hi
  have h0 : ¬ i < 0 := by rw [Int32.lt_iff_toInt_lt]; have := hi.1; simp; omega
  have h1 : i < bsLen t := by rw [Int32.lt_iff_toInt_lt]; have := hi.2; show i.toInt < (nI (bsSl.getD t 0)).toInt; rw [nI_toInt hx.1]; exact this
  refine v_sub [0, 1] rfl ?_
  refine v_iload_n C dJ1_charAt_3b067_0 rfl rfl ?_
  refine v_aload_n C dJ1_charAt_3b067_1 rfl rfl ?_
  refine v_slen C ht dJ1_charAt_3b067_2 ?_
  refine v_callSv (y := yJ0_checkIndex_df160) (As := [.int i, .int (bsLen t)]) (rest := []) C (cJ0_checkIndex_df160_ok h0 h1) ml_J1_9 wzJ0_checkIndex_df160 dpJ0_checkIndex_df160 ⟨Nat.le_of_ble_eq_true rfl, Nat.le_of_ble_eq_true rfl⟩ ⟨rfl, rfl⟩ ⟨Nat.zero_le _, Nat.zero_le _⟩ rfl (Nat.le_of_ble_eq_true rfl) dJ1_charAt_3b067_3 ?_
  refine v_aload_n C dJ1_charAt_3b067_6 rfl rfl ?_
  refine v_iload_n C dJ1_charAt_3b067_7 rfl rfl ?_
  refine v_sbald C ht hi dJ1_charAt_3b067_8 ?_
  refine v_sipush (v := 255) C dJ1_charAt_3b067_9 (by decide) ?_
  refine v_iand C dJ1_charAt_3b067_12 ?_
  refine v_i2c C dJ1_charAt_3b067_13 ?_
  rw [(hx.2 _ hj).1]
  exact v_xret C (hx.2 _ hj).2 rfl dJ1_charAt_3b067_14
abbrev rmJ0_charAt_5068e : Room := { frames := 3, cells := 0, slots := 0, locals := 64 }
set_option maxHeartbeats 4000000 in
set_option maxRecDepth 100000 in
theorem cJ0_charAt_5068e_ok {l : Launch} {ρ : bsR} {cA : Nat → ClassId} {dC : Nat → ClassId} {dI : Nat → Nat → Nat} {Rz : va_W} {X : bsX} {t : Nat} {i : Int32} (ht : t < 22) (hi : bsIn i (bsSl.getD t 0)) : bsMi l yJ0_charAt_5068e cJ0_charAt_5068e 2 (some .char) rmJ0_charAt_5068e ρ cA dC dI Rz [.ref (ρ 16 0 t), .int i] X (bsChr t (bsIx i), X) := by
  refine bsMi_of (by decide +kernel) (Nat.le_of_ble_eq_true rfl) (fun p e s m args below meth c C => ?_)
  have C : bsCx p m c cJ0_charAt_5068e 2 s args (Cond.code yJ0_charAt_5068e cJ0_charAt_5068e 2 (some .char) :: bsG) RJ0 ρ cA dC dI Rz meth (some .char) := C
  have hx := bsSr t ht
  have hj := bsIx_lt hi
  refine v_sub [0, 1] rfl ?_
  refine v_aload_n C dJ0_charAt_5068e_0 rfl rfl ?_
  refine v_callTi (y := yJ0_isLatin1_aae02) (As := []) (rest := []) C ht rfl (cJ0_isLatin1_aae02_ok ht) ml_J0_492 wyJ0_isLatin1_aae02 dpJ0_isLatin1_aae02 ⟨Nat.le_of_ble_eq_true rfl, Nat.le_of_ble_eq_true rfl⟩ ⟨rfl, rfl⟩ ⟨Nat.zero_le _, Nat.zero_le _⟩ rfl (Nat.le_of_ble_eq_true rfl) dJ0_charAt_5068e_1 ?_
  refine v_if_eq (tgt := 16) C dJ0_charAt_5068e_4 (by decide) (fun h => absurd (show (1 : Int32) = 0 from h) (by decide)) (fun _ => ?_)
  refine v_aload_n C dJ0_charAt_5068e_7 rfl rfl ?_
  refine v_sgetV C ht dJ0_charAt_5068e_8 ?_
  refine v_iload_n C dJ0_charAt_5068e_11 rfl rfl ?_
  refine v_callSi (y := yJ1_charAt_3b067) (As := [.ref (ρ 16 1 t), .int i]) (rest := []) C (cJ1_charAt_3b067_ok ht hi) ml_J0_495 wzJ1_charAt_3b067 dpJ1_charAt_3b067 ⟨Nat.le_of_ble_eq_true rfl, Nat.le_of_ble_eq_true rfl⟩ ⟨rfl, rfl⟩ ⟨Nat.zero_le _, Nat.zero_le _⟩ rfl (Nat.le_of_ble_eq_true rfl) dJ0_charAt_5068e_12 ?_
  exact v_xret C (hx.2 _ hj).2 rfl dJ0_charAt_5068e_15
