/-! CALLS THAT THROW: the law asks which exception -/
abbrev rmL_calls : Room := { frames := 9, cells := 9, slots := 54, locals := 220 }
abbrev rmL_thrown : Room := { frames := 10, cells := 10, slots := 60, locals := 300 }
def xTl (l : Launch) (ρ : bsR) (sc L : Nat) (xs : Nat → Int32) (cA : Nat → ClassId) (dC : Nat → ClassId) (dI : Nat → Nat → Nat) (As : List Value) (X : bsX) (Rz : va_W) (k : Nat) (X' : bsX) : Prop :=
  ∀ sz : Nat, vx_Met l yL_calls (Cond.code yL_calls cL_calls 3 (some .long) :: bsG) rmL_calls (va_Pc As (fun U => U.heap.size = sz ∧ xWp ρ sc L xs cA dC dI Rz X U)) (va_Ql (fun (_ : Int64) (_ : Unit) => False) (fun _ _ => True) (bsA ρ cA Rz sz)) (vx_X (fun (_ : Unit) => True) (fun E _ t => E = bsEn k ∧ xB ρ cA dC dI (bsA ρ cA Rz sz) (X', Rz) t) (bsA ρ cA Rz sz)) rmL_calls.cells rmL_calls.slots (bsA ρ cA Rz sz)
section X330
variable {p : Program} {l : Launch} {e : Env} {R : Room} {s : State} {m : MethodId} {args : Array Value} {below : List Frame} {meth : Method} {c : Code} {cells slots : Nat} {Q : State → Prop} {ρ : bsR} {sc L : Nat} {xs : Nat → Int32} {cA : Nat → ClassId} {dC : Nat → ClassId} {dI : Nat → Nat → Nat} {A : Nat → Prop} {Rz Rz' : va_W} {nL : Nat} {cc : ByteArray} {Ts : List Cond} {own : String} {ret : Option FieldType} {pc : Nat} {lv : List (Nat × Value)} {st : List Value} {X : bsX} {mc ms : Nat}
theorem x_tcall (C : xCx p m c cc nL s args Ts own ρ sc L xs cA dC dI A meth ret) (T0 : ∀ x ∈ c.exceptionTable.toList, False) {y : MethodName} {b : ByteArray} {nL' index : Nat} {ret' : Option FieldType} {rm' : Room} {As rest : List Value} {g K j ci N : Nat} {fs : List Value} {T : u_T} {r : bsXr} {k9 : Nat} {X9 : bsX} (hM : bsTi l y b nL' ret' rm' ρ cA dC dI Rz (.ref (ρ g K j) :: As) X r) (h0 : 0 < r.1) (hk9 : k9 = r.1) (hX9 : X9 = r.2.2)
    (hl0 : Cond.methodLink own index y ∈ bsG) (hw : bsWy y b nL' ret') (hk : (g, K, j) ∈ bsKeys) (hc : bsCell ρ cA g K j (X g K j) = .inr (ci, fs)) (hci : vwCl[ci]? = some (y.cls, T, N)) (hde : (parseMethodDescriptor y.desc).map (fun d => d.parameters.length) = some As.length)
    (hR : rm'.frames + 1 ≤ R.frames ∧ 8 + (nL' + 11) + rm'.locals ≤ R.locals) (hcs : cells + rm'.cells ≤ R.cells ∧ slots + rm'.slots ≤ R.slots) (h1 : cells + rm'.cells ≤ mc) (h2 : slots + rm'.slots ≤ ms) (hst : st = As.reverse ++ .ref (ρ g K j) :: rest) (hW : (rest.map fun v => v.category).sum ≤ 8) (hd : decode cc pc = .ok (.invokevirtual index, 3)) : xV p l e R s m args below meth c cells slots (vx_MQ below (va_Ql (fun (_ : Int64) (_ : Unit) => False) (fun _ _ => True) A) (vx_X (fun (_ : Unit) => True) (fun E _ t => E = bsEn k9 ∧ xB ρ cA dC dI A (X9, Rz) t) A) args s mc ms A) ρ cA dC dI A Rz nL pc lv st X := by
  intro ls H locs hl hP hD hS
  obtain ⟨q0, -, hq⟩ := bsWs_at hk
  have hpre := x_preB (As := .ref (ρ g K j) :: As) C hP hD hS
  refine vx_calli (vx_runV (As := As) (rest := rest) C.1 (hM H.size) (cwV As.length C.1.2.2.2.2 (bs_goodV C.2.2.1 hl0 hw) rfl rfl rfl ⟨rfl, hw.2.2.2.2.1, hw.2.2.2.2.2, hde⟩ hR) ⟨hpre.1, va_recv C.2.1 hP hci ((hq ρ cA X Rz).trans (by rw [hc])), hpre.2⟩ rfl rfl hl.1 hst (lv_room hW) hd hcs) hS (fun q _ h => xA_sub C hD hS q h) (fun q h => xA_sub C hD hS q h) (fun q _ h => xA_sub C hD hS q h) (fun E ce q9 u t H1 locs1 ht hvm hp hB hz1 hk1 hS1 hc1 hc2 hc3 => ?_) (fun r1 u t H1 locs1 ht hvm hr hB hz1 hk1 hS1 => ?_)
  · obtain ⟨⟨h9, hE⟩, hP1, -, hD1, -⟩ := hB
    rw [ht] at hP1
    subst hk9 hX9
    exact bs_out (fun x hx => (T0 x hx).elim) C.2.2.2.2.1 hc1 hc2 hc3 (fun t htH hW => ⟨(), trivial, ⟨hE, by show va_P _ _ _ t.heap; rw [htH]; exact hP1, bsD_of (bsWs_ad ρ cA X r.2.2 Rz) hD⟩, hS1.F htH⟩) hS1.2.2 h1 h2
  · obtain ⟨h9, -⟩ := hr
    omega
end X330
theorem ml_L_29 : Cond.methodLink RL 29 yX8_load ∈ bsG := bsG_in 816 (by decide +kernel) rfl
theorem ml_L_33 : Cond.methodLink RL 33 yX8_count ∈ bsG := bsG_in 1012 (by decide +kernel) rfl
theorem ml_L_36 : Cond.methodLink RL 36 yX8_slot ∈ bsG := bsG_in 1063 (by decide +kernel) rfl
theorem ml_L_40 : Cond.methodLink RL 40 yX8_image ∈ bsG := bsG_in 1075 (by decide +kernel) rfl
theorem ml_L_43 : Cond.methodLink RL 43 yX8_install ∈ bsG := bsG_in 1082 (by decide +kernel) rfl
theorem ml_L_46 : Cond.methodLink RL 46 yX8_boot ∈ bsG := bsG_in 1090 (by decide +kernel) rfl
theorem ml_L_49 : Cond.methodLink RL 49 yX8_power ∈ bsG := bsG_in 1103 (by decide +kernel) rfl
theorem ml_L_52 : Cond.methodLink RL 52 yX8_cut ∈ bsG := bsG_in 1136 (by decide +kernel) rfl
theorem ml_L_55 : Cond.methodLink RL 55 yX8_reboot ∈ bsG := bsG_in 1157 (by decide +kernel) rfl
theorem ml_L_58 : Cond.methodLink RL 58 yX8_tick ∈ bsG := bsG_in 1161 (by decide +kernel) rfl
theorem ml_L_61 : Cond.methodLink RL 61 yX8_begin ∈ bsG := bsG_in 1211 (by decide +kernel) rfl
theorem ml_L_64 : Cond.methodLink RL 64 yX8_spoil ∈ bsG := bsG_in 1225 (by decide +kernel) rfl
theorem ml_L_67 : Cond.methodLink RL 67 yX8_textByte ∈ bsG := bsG_in 1229 (by decide +kernel) rfl
theorem ml_L_70 : Cond.methodLink RL 70 yX8_mark ∈ bsG := bsG_in 1233 (by decide +kernel) rfl
theorem ml_L_74 : Cond.methodLink RL 74 yX8_setNumber ∈ bsG := bsG_in 1237 (by decide +kernel) rfl
theorem ml_L_77 : Cond.methodLink RL 77 yX8_stateIn ∈ bsG := bsG_in 1257 (by decide +kernel) rfl
theorem ml_L_80 : Cond.methodLink RL 80 yX8_ifInstalled ∈ bsG := bsG_in 1275 (by decide +kernel) rfl
theorem ml_L_83 : Cond.methodLink RL 83 yX8_undo ∈ bsG := bsG_in 1284 (by decide +kernel) rfl
theorem ml_L_86 : Cond.methodLink RL 86 yX8_save ∈ bsG := bsG_in 1288 (by decide +kernel) rfl
theorem ml_L_89 : Cond.methodLink RL 89 yX8_restore ∈ bsG := bsG_in 1292 (by decide +kernel) rfl
theorem dpX8_begin : (parseMethodDescriptor yX8_begin.desc).map (fun d => d.parameters.length) = some 5 := by decide +kernel
theorem wyX8_begin : bsWy yX8_begin cX8_begin 6 (some .int) := ⟨bsG_in 1212 (by decide +kernel) rfl, bsG_in 1213 (by decide +kernel) rfl, bsG_in 52 (by decide +kernel) rfl, bsG_in 1214 (by decide +kernel) rfl, by decide +kernel, by decide +kernel⟩
theorem dpX8_boot : (parseMethodDescriptor yX8_boot.desc).map (fun d => d.parameters.length) = some 2 := by decide +kernel
theorem wyX8_boot : bsWy yX8_boot cX8_boot 4 (some .int) := ⟨bsG_in 1091 (by decide +kernel) rfl, bsG_in 1092 (by decide +kernel) rfl, bsG_in 52 (by decide +kernel) rfl, bsG_in 1093 (by decide +kernel) rfl, by decide +kernel, by decide +kernel⟩
theorem dpX8_count : (parseMethodDescriptor yX8_count.desc).map (fun d => d.parameters.length) = some 1 := by decide +kernel
theorem wyX8_count : bsWy yX8_count cX8_count 2 (some .int) := ⟨bsG_in 1013 (by decide +kernel) rfl, bsG_in 1014 (by decide +kernel) rfl, bsG_in 52 (by decide +kernel) rfl, bsG_in 1015 (by decide +kernel) rfl, by decide +kernel, by decide +kernel⟩
theorem dpX8_cut : (parseMethodDescriptor yX8_cut.desc).map (fun d => d.parameters.length) = some 0 := by decide +kernel
theorem wyX8_cut : bsWy yX8_cut cX8_cut 2 (some .int) := ⟨bsG_in 1137 (by decide +kernel) rfl, bsG_in 1138 (by decide +kernel) rfl, bsG_in 52 (by decide +kernel) rfl, bsG_in 1139 (by decide +kernel) rfl, by decide +kernel, by decide +kernel⟩
theorem dpX8_image : (parseMethodDescriptor yX8_image.desc).map (fun d => d.parameters.length) = some 2 := by decide +kernel
theorem wyX8_image : bsWy yX8_image cX8_image 4 (some .int) := ⟨bsG_in 1076 (by decide +kernel) rfl, bsG_in 1077 (by decide +kernel) rfl, bsG_in 52 (by decide +kernel) rfl, bsG_in 1078 (by decide +kernel) rfl, by decide +kernel, by decide +kernel⟩
theorem dpX8_install : (parseMethodDescriptor yX8_install.desc).map (fun d => d.parameters.length) = some 1 := by decide +kernel
theorem wyX8_install : bsWy yX8_install cX8_install 3 (some .int) := ⟨bsG_in 1083 (by decide +kernel) rfl, bsG_in 1084 (by decide +kernel) rfl, bsG_in 52 (by decide +kernel) rfl, bsG_in 1085 (by decide +kernel) rfl, by decide +kernel, by decide +kernel⟩
theorem dpX8_mark : (parseMethodDescriptor yX8_mark.desc).map (fun d => d.parameters.length) = some 3 := by decide +kernel
theorem wyX8_mark : bsWy yX8_mark cX8_mark 6 (some .int) := ⟨bsG_in 1234 (by decide +kernel) rfl, bsG_in 1235 (by decide +kernel) rfl, bsG_in 52 (by decide +kernel) rfl, bsG_in 1236 (by decide +kernel) rfl, by decide +kernel, by decide +kernel⟩
theorem dpX8_power : (parseMethodDescriptor yX8_power.desc).map (fun d => d.parameters.length) = some 0 := by decide +kernel
theorem wyX8_power : bsWy yX8_power cX8_power 1 (some .int) := ⟨bsG_in 1104 (by decide +kernel) rfl, bsG_in 1105 (by decide +kernel) rfl, bsG_in 52 (by decide +kernel) rfl, bsG_in 1106 (by decide +kernel) rfl, by decide +kernel, by decide +kernel⟩
theorem dpX8_reboot : (parseMethodDescriptor yX8_reboot.desc).map (fun d => d.parameters.length) = some 0 := by decide +kernel
theorem wyX8_reboot : bsWy yX8_reboot cX8_reboot 1 (some .int) := ⟨bsG_in 1158 (by decide +kernel) rfl, bsG_in 1159 (by decide +kernel) rfl, bsG_in 52 (by decide +kernel) rfl, bsG_in 1160 (by decide +kernel) rfl, by decide +kernel, by decide +kernel⟩
theorem dpX8_setNumber : (parseMethodDescriptor yX8_setNumber.desc).map (fun d => d.parameters.length) = some 2 := by decide +kernel
theorem wyX8_setNumber : bsWy yX8_setNumber cX8_setNumber 3 (some .int) := ⟨bsG_in 1238 (by decide +kernel) rfl, bsG_in 1239 (by decide +kernel) rfl, bsG_in 52 (by decide +kernel) rfl, bsG_in 1240 (by decide +kernel) rfl, by decide +kernel, by decide +kernel⟩
theorem dpX8_slot : (parseMethodDescriptor yX8_slot.desc).map (fun d => d.parameters.length) = some 2 := by decide +kernel
theorem wyX8_slot : bsWy yX8_slot cX8_slot 4 (some .int) := ⟨bsG_in 1064 (by decide +kernel) rfl, bsG_in 1065 (by decide +kernel) rfl, bsG_in 52 (by decide +kernel) rfl, bsG_in 1066 (by decide +kernel) rfl, by decide +kernel, by decide +kernel⟩
theorem dpX8_spoil : (parseMethodDescriptor yX8_spoil.desc).map (fun d => d.parameters.length) = some 2 := by decide +kernel
theorem wyX8_spoil : bsWy yX8_spoil cX8_spoil 5 (some .int) := ⟨bsG_in 1226 (by decide +kernel) rfl, bsG_in 1227 (by decide +kernel) rfl, bsG_in 52 (by decide +kernel) rfl, bsG_in 1228 (by decide +kernel) rfl, by decide +kernel, by decide +kernel⟩
theorem dpX8_stateIn : (parseMethodDescriptor yX8_stateIn.desc).map (fun d => d.parameters.length) = some 1 := by decide +kernel
theorem wyX8_stateIn : bsWy yX8_stateIn cX8_stateIn 2 (some .int) := ⟨bsG_in 1258 (by decide +kernel) rfl, bsG_in 1259 (by decide +kernel) rfl, bsG_in 52 (by decide +kernel) rfl, bsG_in 1260 (by decide +kernel) rfl, by decide +kernel, by decide +kernel⟩
theorem dpX8_textByte : (parseMethodDescriptor yX8_textByte.desc).map (fun d => d.parameters.length) = some 1 := by decide +kernel
theorem wyX8_textByte : bsWy yX8_textByte cX8_textByte 2 (some .int) := ⟨bsG_in 1230 (by decide +kernel) rfl, bsG_in 1231 (by decide +kernel) rfl, bsG_in 52 (by decide +kernel) rfl, bsG_in 1232 (by decide +kernel) rfl, by decide +kernel, by decide +kernel⟩
theorem dpX8_tick : (parseMethodDescriptor yX8_tick.desc).map (fun d => d.parameters.length) = some 1 := by decide +kernel
theorem wyX8_tick : bsWy yX8_tick cX8_tick 4 (some .int) := ⟨bsG_in 1162 (by decide +kernel) rfl, bsG_in 1163 (by decide +kernel) rfl, bsG_in 52 (by decide +kernel) rfl, bsG_in 1164 (by decide +kernel) rfl, by decide +kernel, by decide +kernel⟩
theorem dpX8_undo : (parseMethodDescriptor yX8_undo.desc).map (fun d => d.parameters.length) = some 0 := by decide +kernel
theorem wyX8_undo : bsWy yX8_undo cX8_undo 1 (some .int) := ⟨bsG_in 1285 (by decide +kernel) rfl, bsG_in 1286 (by decide +kernel) rfl, bsG_in 52 (by decide +kernel) rfl, bsG_in 1287 (by decide +kernel) rfl, by decide +kernel, by decide +kernel⟩
set_option maxHeartbeats 4000000 in
set_option maxRecDepth 100000 in
theorem cL_calls_0 {l : Launch} (hst : l.stackTraces = false) {ρ : bsR} {sc L : Nat} {xs : Nat → Int32} {cA : Nat → ClassId} {dC : Nat → ClassId} {dI : Nat → Nat → Nat} {X : bsX} {Rz : va_W} {q0 a : Nat} {f : Nat → Int32} {r : bsXr} (he : Rz[q0]? = some (a, .inl (cA 0, 6, .inl f))) (hf : fX8_count (f 0) X = some r) (h0 : 0 < r.1) : xTl l ρ sc L xs cA dC dI [.ref (ρ 13 0 0), .int 0, .ref a] X Rz r.1 r.2.2 := by
  intro sz
  refine vx_ofW (cc := cL_calls) (maxL := 3) (ret := some .long) (by decide) rfl ?_
  intro p e s m args below meth c s₁ B hml T0 hv
  obtain ⟨rfl, hsz, ⟨hP, hK, hD0, hN, hE⟩, hE2⟩ := hv
  subst hsz
  have hts := atoms_spec (ws := Cond.code yL_calls cL_calls 3 (some .long) :: bsG) B.pre
  have hown : s.vm.findClass RL = some m.cls := findClass_of_methodNamed B.named
  have hl := lv_entry [.ref (ρ 13 0 0), .int 0, .ref a] (n := 3) (Nat.le_of_ble_eq_true rfl)
  rw [lg_entry_eq]
  have C : xCx p m c cL_calls 3 s _ (Cond.code yL_calls cL_calls 3 (some .long) :: bsG) RL ρ sc L xs cA dC dI (bsA ρ cA Rz s.heap.size) meth (some .long) := ⟨⟨B.exec, B.bytes, hml, hown, hts⟩, hK, fun w h => List.mem_cons_of_mem _ h, ⟨hN, hE, hE2⟩, B.notSynchronized, B.returns, fun q hq => bsA_le hq⟩
  have key : xV p l e rmL_calls s m #[Value.ref (ρ 13 0 0), Value.int 0, Value.ref a] below meth c 0 0 (vx_MQ below (va_Ql (fun (_ : Int64) (_ : Unit) => False) (fun _ _ => True) (bsA ρ cA Rz s.heap.size)) (vx_X (fun (_ : Unit) => True) (fun E _ t => E = bsEn r.1 ∧ xB ρ cA dC dI (bsA ρ cA Rz s.heap.size) (r.2.2, Rz) t) (bsA ρ cA Rz s.heap.size)) #[Value.ref (ρ 13 0 0), Value.int 0, Value.ref a] s rmL_calls.cells rmL_calls.slots (bsA ρ cA Rz s.heap.size)) ρ cA dC dI (bsA ρ cA Rz s.heap.size) Rz 3 0 (lv_args 0 [.ref (ρ 13 0 0), .int 0, .ref a]) [] X := by
    refine x_sub [0, 1, 2] rfl ?_
    refine x_iload_n C dL_calls_0 rfl rfl ?_
    refine x_tabIn (off := 91) (tgt := 92) C 0 dL_calls_1 rfl (by decide) (by decide) rfl (by decide) ?_
    refine x_aload_n C dL_calls_92 rfl rfl ?_
    refine x_aload_n C dL_calls_93 rfl rfl ?_
    refine x_iconst (v := 0) C dL_calls_94 (by decide) ?_
    refine x_iald C he (by decide) dL_calls_95 ?_
    exact x_tcall (y := yX8_count) (As := [.int (f 0)]) (rest := []) C T0 (cX8_count_ok hst hf) h0 rfl rfl ml_L_33 wyX8_count bsm_X8 bsc_X8 rfl dpX8_count ⟨Nat.le_of_ble_eq_true rfl, Nat.le_of_ble_eq_true rfl⟩ ⟨by show 0 + 2 ≤ 9; omega, by show 0 + 12 ≤ 54; omega⟩ (by show 0 + 2 ≤ 9; omega) (by show 0 + 12 ≤ 54; omega) rfl (Nat.le_of_ble_eq_true rfl) dL_calls_96
  exact key _ _ _ hl hP (bsD_self _ hD0) va_S.rf
set_option maxHeartbeats 4000000 in
set_option maxRecDepth 100000 in
theorem cL_calls_1 {l : Launch} (hst : l.stackTraces = false) {ρ : bsR} {sc L : Nat} {xs : Nat → Int32} {cA : Nat → ClassId} {dC : Nat → ClassId} {dI : Nat → Nat → Nat} {X : bsX} {Rz : va_W} {q0 a : Nat} {f : Nat → Int32} {r : bsXr} (he : Rz[q0]? = some (a, .inl (cA 0, 6, .inl f))) (hf : fX8_slot (f 0) (f 1) X = some r) (h0 : 0 < r.1) : xTl l ρ sc L xs cA dC dI [.ref (ρ 13 0 0), .int 1, .ref a] X Rz r.1 r.2.2 := by
  intro sz
  refine vx_ofW (cc := cL_calls) (maxL := 3) (ret := some .long) (by decide) rfl ?_
  intro p e s m args below meth c s₁ B hml T0 hv
  obtain ⟨rfl, hsz, ⟨hP, hK, hD0, hN, hE⟩, hE2⟩ := hv
  subst hsz
  have hts := atoms_spec (ws := Cond.code yL_calls cL_calls 3 (some .long) :: bsG) B.pre
  have hown : s.vm.findClass RL = some m.cls := findClass_of_methodNamed B.named
  have hl := lv_entry [.ref (ρ 13 0 0), .int 1, .ref a] (n := 3) (Nat.le_of_ble_eq_true rfl)
  rw [lg_entry_eq]
  have C : xCx p m c cL_calls 3 s _ (Cond.code yL_calls cL_calls 3 (some .long) :: bsG) RL ρ sc L xs cA dC dI (bsA ρ cA Rz s.heap.size) meth (some .long) := ⟨⟨B.exec, B.bytes, hml, hown, hts⟩, hK, fun w h => List.mem_cons_of_mem _ h, ⟨hN, hE, hE2⟩, B.notSynchronized, B.returns, fun q hq => bsA_le hq⟩
  have key : xV p l e rmL_calls s m #[Value.ref (ρ 13 0 0), Value.int 1, Value.ref a] below meth c 0 0 (vx_MQ below (va_Ql (fun (_ : Int64) (_ : Unit) => False) (fun _ _ => True) (bsA ρ cA Rz s.heap.size)) (vx_X (fun (_ : Unit) => True) (fun E _ t => E = bsEn r.1 ∧ xB ρ cA dC dI (bsA ρ cA Rz s.heap.size) (r.2.2, Rz) t) (bsA ρ cA Rz s.heap.size)) #[Value.ref (ρ 13 0 0), Value.int 1, Value.ref a] s rmL_calls.cells rmL_calls.slots (bsA ρ cA Rz s.heap.size)) ρ cA dC dI (bsA ρ cA Rz s.heap.size) Rz 3 0 (lv_args 0 [.ref (ρ 13 0 0), .int 1, .ref a]) [] X := by
    refine x_sub [0, 1, 2] rfl ?_
    refine x_iload_n C dL_calls_0 rfl rfl ?_
    refine x_tabIn (off := 100) (tgt := 101) C 1 dL_calls_1 rfl (by decide) (by decide) rfl (by decide) ?_
    refine x_aload_n C dL_calls_101 rfl rfl ?_
    refine x_aload_n C dL_calls_102 rfl rfl ?_
    refine x_iconst (v := 0) C dL_calls_103 (by decide) ?_
    refine x_iald C he (by decide) dL_calls_104 ?_
    refine x_aload_n C dL_calls_105 rfl rfl ?_
    refine x_iconst (v := 1) C dL_calls_106 (by decide) ?_
    refine x_iald C he (by decide) dL_calls_107 ?_
    exact x_tcall (y := yX8_slot) (As := [.int (f 0), .int (f 1)]) (rest := []) C T0 (cX8_slot_ok hst hf) h0 rfl rfl ml_L_36 wyX8_slot bsm_X8 bsc_X8 rfl dpX8_slot ⟨Nat.le_of_ble_eq_true rfl, Nat.le_of_ble_eq_true rfl⟩ ⟨by show 0 + 3 ≤ 9; omega, by show 0 + 18 ≤ 54; omega⟩ (by show 0 + 3 ≤ 9; omega) (by show 0 + 18 ≤ 54; omega) rfl (Nat.le_of_ble_eq_true rfl) dL_calls_108
  exact key _ _ _ hl hP (bsD_self _ hD0) va_S.rf
set_option maxHeartbeats 4000000 in
set_option maxRecDepth 100000 in
theorem cL_calls_2 {l : Launch} (hst : l.stackTraces = false) {ρ : bsR} {sc L : Nat} {xs : Nat → Int32} {cA : Nat → ClassId} {dC : Nat → ClassId} {dI : Nat → Nat → Nat} {X : bsX} {Rz : va_W} {q0 a : Nat} {f : Nat → Int32} {r : bsXr} (he : Rz[q0]? = some (a, .inl (cA 0, 6, .inl f))) (hf : fX8_image (f 0) (f 1) X = some r) (h0 : 0 < r.1) : xTl l ρ sc L xs cA dC dI [.ref (ρ 13 0 0), .int 2, .ref a] X Rz r.1 r.2.2 := by
  intro sz
  refine vx_ofW (cc := cL_calls) (maxL := 3) (ret := some .long) (by decide) rfl ?_
  intro p e s m args below meth c s₁ B hml T0 hv
  obtain ⟨rfl, hsz, ⟨hP, hK, hD0, hN, hE⟩, hE2⟩ := hv
  subst hsz
  have hts := atoms_spec (ws := Cond.code yL_calls cL_calls 3 (some .long) :: bsG) B.pre
  have hown : s.vm.findClass RL = some m.cls := findClass_of_methodNamed B.named
  have hl := lv_entry [.ref (ρ 13 0 0), .int 2, .ref a] (n := 3) (Nat.le_of_ble_eq_true rfl)
  rw [lg_entry_eq]
  have C : xCx p m c cL_calls 3 s _ (Cond.code yL_calls cL_calls 3 (some .long) :: bsG) RL ρ sc L xs cA dC dI (bsA ρ cA Rz s.heap.size) meth (some .long) := ⟨⟨B.exec, B.bytes, hml, hown, hts⟩, hK, fun w h => List.mem_cons_of_mem _ h, ⟨hN, hE, hE2⟩, B.notSynchronized, B.returns, fun q hq => bsA_le hq⟩
  have key : xV p l e rmL_calls s m #[Value.ref (ρ 13 0 0), Value.int 2, Value.ref a] below meth c 0 0 (vx_MQ below (va_Ql (fun (_ : Int64) (_ : Unit) => False) (fun _ _ => True) (bsA ρ cA Rz s.heap.size)) (vx_X (fun (_ : Unit) => True) (fun E _ t => E = bsEn r.1 ∧ xB ρ cA dC dI (bsA ρ cA Rz s.heap.size) (r.2.2, Rz) t) (bsA ρ cA Rz s.heap.size)) #[Value.ref (ρ 13 0 0), Value.int 2, Value.ref a] s rmL_calls.cells rmL_calls.slots (bsA ρ cA Rz s.heap.size)) ρ cA dC dI (bsA ρ cA Rz s.heap.size) Rz 3 0 (lv_args 0 [.ref (ρ 13 0 0), .int 2, .ref a]) [] X := by
    refine x_sub [0, 1, 2] rfl ?_
    refine x_iload_n C dL_calls_0 rfl rfl ?_
    refine x_tabIn (off := 112) (tgt := 113) C 2 dL_calls_1 rfl (by decide) (by decide) rfl (by decide) ?_
    refine x_aload_n C dL_calls_113 rfl rfl ?_
    refine x_aload_n C dL_calls_114 rfl rfl ?_
    refine x_iconst (v := 0) C dL_calls_115 (by decide) ?_
    refine x_iald C he (by decide) dL_calls_116 ?_
    refine x_aload_n C dL_calls_117 rfl rfl ?_
    refine x_iconst (v := 1) C dL_calls_118 (by decide) ?_
    refine x_iald C he (by decide) dL_calls_119 ?_
    exact x_tcall (y := yX8_image) (As := [.int (f 0), .int (f 1)]) (rest := []) C T0 (cX8_image_ok hst hf) h0 rfl rfl ml_L_40 wyX8_image bsm_X8 bsc_X8 rfl dpX8_image ⟨Nat.le_of_ble_eq_true rfl, Nat.le_of_ble_eq_true rfl⟩ ⟨by show 0 + 3 ≤ 9; omega, by show 0 + 18 ≤ 54; omega⟩ (by show 0 + 3 ≤ 9; omega) (by show 0 + 18 ≤ 54; omega) rfl (Nat.le_of_ble_eq_true rfl) dL_calls_120
  exact key _ _ _ hl hP (bsD_self _ hD0) va_S.rf
set_option maxHeartbeats 4000000 in
set_option maxRecDepth 100000 in
theorem cL_calls_3 {l : Launch} (hst : l.stackTraces = false) {ρ : bsR} {sc L : Nat} {xs : Nat → Int32} {cA : Nat → ClassId} {dC : Nat → ClassId} {dI : Nat → Nat → Nat} {X : bsX} {Rz : va_W} {q0 a : Nat} {f : Nat → Int32} {r : bsXr} (he : Rz[q0]? = some (a, .inl (cA 0, 6, .inl f))) (hf : fX8_install (f 0) X = some r) (h0 : 0 < r.1) : xTl l ρ sc L xs cA dC dI [.ref (ρ 13 0 0), .int 3, .ref a] X Rz r.1 r.2.2 := by
  intro sz
  refine vx_ofW (cc := cL_calls) (maxL := 3) (ret := some .long) (by decide) rfl ?_
  intro p e s m args below meth c s₁ B hml T0 hv
  obtain ⟨rfl, hsz, ⟨hP, hK, hD0, hN, hE⟩, hE2⟩ := hv
  subst hsz
  have hts := atoms_spec (ws := Cond.code yL_calls cL_calls 3 (some .long) :: bsG) B.pre
  have hown : s.vm.findClass RL = some m.cls := findClass_of_methodNamed B.named
  have hl := lv_entry [.ref (ρ 13 0 0), .int 3, .ref a] (n := 3) (Nat.le_of_ble_eq_true rfl)
  rw [lg_entry_eq]
  have C : xCx p m c cL_calls 3 s _ (Cond.code yL_calls cL_calls 3 (some .long) :: bsG) RL ρ sc L xs cA dC dI (bsA ρ cA Rz s.heap.size) meth (some .long) := ⟨⟨B.exec, B.bytes, hml, hown, hts⟩, hK, fun w h => List.mem_cons_of_mem _ h, ⟨hN, hE, hE2⟩, B.notSynchronized, B.returns, fun q hq => bsA_le hq⟩
  have key : xV p l e rmL_calls s m #[Value.ref (ρ 13 0 0), Value.int 3, Value.ref a] below meth c 0 0 (vx_MQ below (va_Ql (fun (_ : Int64) (_ : Unit) => False) (fun _ _ => True) (bsA ρ cA Rz s.heap.size)) (vx_X (fun (_ : Unit) => True) (fun E _ t => E = bsEn r.1 ∧ xB ρ cA dC dI (bsA ρ cA Rz s.heap.size) (r.2.2, Rz) t) (bsA ρ cA Rz s.heap.size)) #[Value.ref (ρ 13 0 0), Value.int 3, Value.ref a] s rmL_calls.cells rmL_calls.slots (bsA ρ cA Rz s.heap.size)) ρ cA dC dI (bsA ρ cA Rz s.heap.size) Rz 3 0 (lv_args 0 [.ref (ρ 13 0 0), .int 3, .ref a]) [] X := by
    refine x_sub [0, 1, 2] rfl ?_
    refine x_iload_n C dL_calls_0 rfl rfl ?_
    refine x_tabIn (off := 124) (tgt := 125) C 3 dL_calls_1 rfl (by decide) (by decide) rfl (by decide) ?_
    refine x_aload_n C dL_calls_125 rfl rfl ?_
    refine x_aload_n C dL_calls_126 rfl rfl ?_
    refine x_iconst (v := 0) C dL_calls_127 (by decide) ?_
    refine x_iald C he (by decide) dL_calls_128 ?_
    exact x_tcall (y := yX8_install) (As := [.int (f 0)]) (rest := []) C T0 (cX8_install_ok hst hf) h0 rfl rfl ml_L_43 wyX8_install bsm_X8 bsc_X8 rfl dpX8_install ⟨Nat.le_of_ble_eq_true rfl, Nat.le_of_ble_eq_true rfl⟩ ⟨by show 0 + 2 ≤ 9; omega, by show 0 + 12 ≤ 54; omega⟩ (by show 0 + 2 ≤ 9; omega) (by show 0 + 12 ≤ 54; omega) rfl (Nat.le_of_ble_eq_true rfl) dL_calls_129
  exact key _ _ _ hl hP (bsD_self _ hD0) va_S.rf
set_option maxHeartbeats 4000000 in
set_option maxRecDepth 100000 in
theorem cL_calls_4 {l : Launch} (hst : l.stackTraces = false) {ρ : bsR} {sc L : Nat} {xs : Nat → Int32} {cA : Nat → ClassId} {dC : Nat → ClassId} {dI : Nat → Nat → Nat} {X : bsX} {Rz : va_W} {q0 a : Nat} {f : Nat → Int32} {r : bsXr} (he : Rz[q0]? = some (a, .inl (cA 0, 6, .inl f))) (hf : fX8_boot (f 0) (f 1) X = some r) (h0 : 0 < r.1) : xTl l ρ sc L xs cA dC dI [.ref (ρ 13 0 0), .int 4, .ref a] X Rz r.1 r.2.2 := by
  intro sz
  refine vx_ofW (cc := cL_calls) (maxL := 3) (ret := some .long) (by decide) rfl ?_
  intro p e s m args below meth c s₁ B hml T0 hv
  obtain ⟨rfl, hsz, ⟨hP, hK, hD0, hN, hE⟩, hE2⟩ := hv
  subst hsz
  have hts := atoms_spec (ws := Cond.code yL_calls cL_calls 3 (some .long) :: bsG) B.pre
  have hown : s.vm.findClass RL = some m.cls := findClass_of_methodNamed B.named
  have hl := lv_entry [.ref (ρ 13 0 0), .int 4, .ref a] (n := 3) (Nat.le_of_ble_eq_true rfl)
  rw [lg_entry_eq]
  have C : xCx p m c cL_calls 3 s _ (Cond.code yL_calls cL_calls 3 (some .long) :: bsG) RL ρ sc L xs cA dC dI (bsA ρ cA Rz s.heap.size) meth (some .long) := ⟨⟨B.exec, B.bytes, hml, hown, hts⟩, hK, fun w h => List.mem_cons_of_mem _ h, ⟨hN, hE, hE2⟩, B.notSynchronized, B.returns, fun q hq => bsA_le hq⟩
  have key : xV p l e rmL_calls s m #[Value.ref (ρ 13 0 0), Value.int 4, Value.ref a] below meth c 0 0 (vx_MQ below (va_Ql (fun (_ : Int64) (_ : Unit) => False) (fun _ _ => True) (bsA ρ cA Rz s.heap.size)) (vx_X (fun (_ : Unit) => True) (fun E _ t => E = bsEn r.1 ∧ xB ρ cA dC dI (bsA ρ cA Rz s.heap.size) (r.2.2, Rz) t) (bsA ρ cA Rz s.heap.size)) #[Value.ref (ρ 13 0 0), Value.int 4, Value.ref a] s rmL_calls.cells rmL_calls.slots (bsA ρ cA Rz s.heap.size)) ρ cA dC dI (bsA ρ cA Rz s.heap.size) Rz 3 0 (lv_args 0 [.ref (ρ 13 0 0), .int 4, .ref a]) [] X := by
    refine x_sub [0, 1, 2] rfl ?_
    refine x_iload_n C dL_calls_0 rfl rfl ?_
    refine x_tabIn (off := 133) (tgt := 134) C 4 dL_calls_1 rfl (by decide) (by decide) rfl (by decide) ?_
    refine x_aload_n C dL_calls_134 rfl rfl ?_
    refine x_aload_n C dL_calls_135 rfl rfl ?_
    refine x_iconst (v := 0) C dL_calls_136 (by decide) ?_
    refine x_iald C he (by decide) dL_calls_137 ?_
    refine x_aload_n C dL_calls_138 rfl rfl ?_
    refine x_iconst (v := 1) C dL_calls_139 (by decide) ?_
    refine x_iald C he (by decide) dL_calls_140 ?_
    exact x_tcall (y := yX8_boot) (As := [.int (f 0), .int (f 1)]) (rest := []) C T0 (cX8_boot_ok hst hf) h0 rfl rfl ml_L_46 wyX8_boot bsm_X8 bsc_X8 rfl dpX8_boot ⟨Nat.le_of_ble_eq_true rfl, Nat.le_of_ble_eq_true rfl⟩ ⟨by show 0 + 2 ≤ 9; omega, by show 0 + 12 ≤ 54; omega⟩ (by show 0 + 2 ≤ 9; omega) (by show 0 + 12 ≤ 54; omega) rfl (Nat.le_of_ble_eq_true rfl) dL_calls_141
  exact key _ _ _ hl hP (bsD_self _ hD0) va_S.rf
set_option maxHeartbeats 4000000 in
set_option maxRecDepth 100000 in
theorem cL_calls_5 {l : Launch} (hst : l.stackTraces = false) {ρ : bsR} {sc L : Nat} {xs : Nat → Int32} {cA : Nat → ClassId} {dC : Nat → ClassId} {dI : Nat → Nat → Nat} {X : bsX} {Rz : va_W} {q0 a : Nat} {f : Nat → Int32} {r : bsXr} (he : Rz[q0]? = some (a, .inl (cA 0, 6, .inl f))) (hf : fX8_power  X = some r) (h0 : 0 < r.1) : xTl l ρ sc L xs cA dC dI [.ref (ρ 13 0 0), .int 5, .ref a] X Rz r.1 r.2.2 := by
  intro sz
  refine vx_ofW (cc := cL_calls) (maxL := 3) (ret := some .long) (by decide) rfl ?_
  intro p e s m args below meth c s₁ B hml T0 hv
  obtain ⟨rfl, hsz, ⟨hP, hK, hD0, hN, hE⟩, hE2⟩ := hv
  subst hsz
  have hts := atoms_spec (ws := Cond.code yL_calls cL_calls 3 (some .long) :: bsG) B.pre
  have hown : s.vm.findClass RL = some m.cls := findClass_of_methodNamed B.named
  have hl := lv_entry [.ref (ρ 13 0 0), .int 5, .ref a] (n := 3) (Nat.le_of_ble_eq_true rfl)
  rw [lg_entry_eq]
  have C : xCx p m c cL_calls 3 s _ (Cond.code yL_calls cL_calls 3 (some .long) :: bsG) RL ρ sc L xs cA dC dI (bsA ρ cA Rz s.heap.size) meth (some .long) := ⟨⟨B.exec, B.bytes, hml, hown, hts⟩, hK, fun w h => List.mem_cons_of_mem _ h, ⟨hN, hE, hE2⟩, B.notSynchronized, B.returns, fun q hq => bsA_le hq⟩
  have key : xV p l e rmL_calls s m #[Value.ref (ρ 13 0 0), Value.int 5, Value.ref a] below meth c 0 0 (vx_MQ below (va_Ql (fun (_ : Int64) (_ : Unit) => False) (fun _ _ => True) (bsA ρ cA Rz s.heap.size)) (vx_X (fun (_ : Unit) => True) (fun E _ t => E = bsEn r.1 ∧ xB ρ cA dC dI (bsA ρ cA Rz s.heap.size) (r.2.2, Rz) t) (bsA ρ cA Rz s.heap.size)) #[Value.ref (ρ 13 0 0), Value.int 5, Value.ref a] s rmL_calls.cells rmL_calls.slots (bsA ρ cA Rz s.heap.size)) ρ cA dC dI (bsA ρ cA Rz s.heap.size) Rz 3 0 (lv_args 0 [.ref (ρ 13 0 0), .int 5, .ref a]) [] X := by
    refine x_sub [0, 1, 2] rfl ?_
    refine x_iload_n C dL_calls_0 rfl rfl ?_
    refine x_tabIn (off := 145) (tgt := 146) C 5 dL_calls_1 rfl (by decide) (by decide) rfl (by decide) ?_
    refine x_aload_n C dL_calls_146 rfl rfl ?_
    exact x_tcall (y := yX8_power) (As := []) (rest := []) C T0 (cX8_power_ok hst hf) h0 rfl rfl ml_L_49 wyX8_power bsm_X8 bsc_X8 rfl dpX8_power ⟨Nat.le_of_ble_eq_true rfl, Nat.le_of_ble_eq_true rfl⟩ ⟨by show 0 + 2 ≤ 9; omega, by show 0 + 12 ≤ 54; omega⟩ (by show 0 + 2 ≤ 9; omega) (by show 0 + 12 ≤ 54; omega) rfl (Nat.le_of_ble_eq_true rfl) dL_calls_147
  exact key _ _ _ hl hP (bsD_self _ hD0) va_S.rf
set_option maxHeartbeats 4000000 in
set_option maxRecDepth 100000 in
theorem cL_calls_6 {l : Launch} (hst : l.stackTraces = false) {ρ : bsR} {sc L : Nat} {xs : Nat → Int32} {cA : Nat → ClassId} {dC : Nat → ClassId} {dI : Nat → Nat → Nat} {X : bsX} {Rz : va_W} {q0 a : Nat} {f : Nat → Int32} {r : bsXr} (he : Rz[q0]? = some (a, .inl (cA 0, 6, .inl f))) (hf : fX8_cut  X = some r) (h0 : 0 < r.1) : xTl l ρ sc L xs cA dC dI [.ref (ρ 13 0 0), .int 6, .ref a] X Rz r.1 r.2.2 := by
  intro sz
  refine vx_ofW (cc := cL_calls) (maxL := 3) (ret := some .long) (by decide) rfl ?_
  intro p e s m args below meth c s₁ B hml T0 hv
  obtain ⟨rfl, hsz, ⟨hP, hK, hD0, hN, hE⟩, hE2⟩ := hv
  subst hsz
  have hts := atoms_spec (ws := Cond.code yL_calls cL_calls 3 (some .long) :: bsG) B.pre
  have hown : s.vm.findClass RL = some m.cls := findClass_of_methodNamed B.named
  have hl := lv_entry [.ref (ρ 13 0 0), .int 6, .ref a] (n := 3) (Nat.le_of_ble_eq_true rfl)
  rw [lg_entry_eq]
  have C : xCx p m c cL_calls 3 s _ (Cond.code yL_calls cL_calls 3 (some .long) :: bsG) RL ρ sc L xs cA dC dI (bsA ρ cA Rz s.heap.size) meth (some .long) := ⟨⟨B.exec, B.bytes, hml, hown, hts⟩, hK, fun w h => List.mem_cons_of_mem _ h, ⟨hN, hE, hE2⟩, B.notSynchronized, B.returns, fun q hq => bsA_le hq⟩
  have key : xV p l e rmL_calls s m #[Value.ref (ρ 13 0 0), Value.int 6, Value.ref a] below meth c 0 0 (vx_MQ below (va_Ql (fun (_ : Int64) (_ : Unit) => False) (fun _ _ => True) (bsA ρ cA Rz s.heap.size)) (vx_X (fun (_ : Unit) => True) (fun E _ t => E = bsEn r.1 ∧ xB ρ cA dC dI (bsA ρ cA Rz s.heap.size) (r.2.2, Rz) t) (bsA ρ cA Rz s.heap.size)) #[Value.ref (ρ 13 0 0), Value.int 6, Value.ref a] s rmL_calls.cells rmL_calls.slots (bsA ρ cA Rz s.heap.size)) ρ cA dC dI (bsA ρ cA Rz s.heap.size) Rz 3 0 (lv_args 0 [.ref (ρ 13 0 0), .int 6, .ref a]) [] X := by
    refine x_sub [0, 1, 2] rfl ?_
    refine x_iload_n C dL_calls_0 rfl rfl ?_
    refine x_tabIn (off := 151) (tgt := 152) C 6 dL_calls_1 rfl (by decide) (by decide) rfl (by decide) ?_
    refine x_aload_n C dL_calls_152 rfl rfl ?_
    exact x_tcall (y := yX8_cut) (As := []) (rest := []) C T0 (cX8_cut_ok hst hf) h0 rfl rfl ml_L_52 wyX8_cut bsm_X8 bsc_X8 rfl dpX8_cut ⟨Nat.le_of_ble_eq_true rfl, Nat.le_of_ble_eq_true rfl⟩ ⟨by show 0 + 2 ≤ 9; omega, by show 0 + 12 ≤ 54; omega⟩ (by show 0 + 2 ≤ 9; omega) (by show 0 + 12 ≤ 54; omega) rfl (Nat.le_of_ble_eq_true rfl) dL_calls_153
  exact key _ _ _ hl hP (bsD_self _ hD0) va_S.rf
set_option maxHeartbeats 4000000 in
set_option maxRecDepth 100000 in
theorem cL_calls_7 {l : Launch} (hst : l.stackTraces = false) {ρ : bsR} {sc L : Nat} {xs : Nat → Int32} {cA : Nat → ClassId} {dC : Nat → ClassId} {dI : Nat → Nat → Nat} {X : bsX} {Rz : va_W} {q0 a : Nat} {f : Nat → Int32} {r : bsXr} (he : Rz[q0]? = some (a, .inl (cA 0, 6, .inl f))) (hf : fX8_reboot  X = some r) (h0 : 0 < r.1) : xTl l ρ sc L xs cA dC dI [.ref (ρ 13 0 0), .int 7, .ref a] X Rz r.1 r.2.2 := by
  intro sz
  refine vx_ofW (cc := cL_calls) (maxL := 3) (ret := some .long) (by decide) rfl ?_
  intro p e s m args below meth c s₁ B hml T0 hv
  obtain ⟨rfl, hsz, ⟨hP, hK, hD0, hN, hE⟩, hE2⟩ := hv
  subst hsz
  have hts := atoms_spec (ws := Cond.code yL_calls cL_calls 3 (some .long) :: bsG) B.pre
  have hown : s.vm.findClass RL = some m.cls := findClass_of_methodNamed B.named
  have hl := lv_entry [.ref (ρ 13 0 0), .int 7, .ref a] (n := 3) (Nat.le_of_ble_eq_true rfl)
  rw [lg_entry_eq]
  have C : xCx p m c cL_calls 3 s _ (Cond.code yL_calls cL_calls 3 (some .long) :: bsG) RL ρ sc L xs cA dC dI (bsA ρ cA Rz s.heap.size) meth (some .long) := ⟨⟨B.exec, B.bytes, hml, hown, hts⟩, hK, fun w h => List.mem_cons_of_mem _ h, ⟨hN, hE, hE2⟩, B.notSynchronized, B.returns, fun q hq => bsA_le hq⟩
  have key : xV p l e rmL_calls s m #[Value.ref (ρ 13 0 0), Value.int 7, Value.ref a] below meth c 0 0 (vx_MQ below (va_Ql (fun (_ : Int64) (_ : Unit) => False) (fun _ _ => True) (bsA ρ cA Rz s.heap.size)) (vx_X (fun (_ : Unit) => True) (fun E _ t => E = bsEn r.1 ∧ xB ρ cA dC dI (bsA ρ cA Rz s.heap.size) (r.2.2, Rz) t) (bsA ρ cA Rz s.heap.size)) #[Value.ref (ρ 13 0 0), Value.int 7, Value.ref a] s rmL_calls.cells rmL_calls.slots (bsA ρ cA Rz s.heap.size)) ρ cA dC dI (bsA ρ cA Rz s.heap.size) Rz 3 0 (lv_args 0 [.ref (ρ 13 0 0), .int 7, .ref a]) [] X := by
    refine x_sub [0, 1, 2] rfl ?_
    refine x_iload_n C dL_calls_0 rfl rfl ?_
    refine x_tabIn (off := 157) (tgt := 158) C 7 dL_calls_1 rfl (by decide) (by decide) rfl (by decide) ?_
    refine x_aload_n C dL_calls_158 rfl rfl ?_
    exact x_tcall (y := yX8_reboot) (As := []) (rest := []) C T0 (cX8_reboot_ok hst hf) h0 rfl rfl ml_L_55 wyX8_reboot bsm_X8 bsc_X8 rfl dpX8_reboot ⟨Nat.le_of_ble_eq_true rfl, Nat.le_of_ble_eq_true rfl⟩ ⟨by show 0 + 2 ≤ 9; omega, by show 0 + 12 ≤ 54; omega⟩ (by show 0 + 2 ≤ 9; omega) (by show 0 + 12 ≤ 54; omega) rfl (Nat.le_of_ble_eq_true rfl) dL_calls_159
  exact key _ _ _ hl hP (bsD_self _ hD0) va_S.rf
set_option maxHeartbeats 4000000 in
set_option maxRecDepth 100000 in
theorem cL_calls_8 {l : Launch} (hst : l.stackTraces = false) {ρ : bsR} {sc L : Nat} {xs : Nat → Int32} {cA : Nat → ClassId} {dC : Nat → ClassId} {dI : Nat → Nat → Nat} {X : bsX} {Rz : va_W} {q0 a : Nat} {f : Nat → Int32} {r : bsXr} (he : Rz[q0]? = some (a, .inl (cA 0, 6, .inl f))) (hf : fX8_tick (f 0) X = some r) (h0 : 0 < r.1) : xTl l ρ sc L xs cA dC dI [.ref (ρ 13 0 0), .int 8, .ref a] X Rz r.1 r.2.2 := by
  intro sz
  refine vx_ofW (cc := cL_calls) (maxL := 3) (ret := some .long) (by decide) rfl ?_
  intro p e s m args below meth c s₁ B hml T0 hv
  obtain ⟨rfl, hsz, ⟨hP, hK, hD0, hN, hE⟩, hE2⟩ := hv
  subst hsz
  have hts := atoms_spec (ws := Cond.code yL_calls cL_calls 3 (some .long) :: bsG) B.pre
  have hown : s.vm.findClass RL = some m.cls := findClass_of_methodNamed B.named
  have hl := lv_entry [.ref (ρ 13 0 0), .int 8, .ref a] (n := 3) (Nat.le_of_ble_eq_true rfl)
  rw [lg_entry_eq]
  have C : xCx p m c cL_calls 3 s _ (Cond.code yL_calls cL_calls 3 (some .long) :: bsG) RL ρ sc L xs cA dC dI (bsA ρ cA Rz s.heap.size) meth (some .long) := ⟨⟨B.exec, B.bytes, hml, hown, hts⟩, hK, fun w h => List.mem_cons_of_mem _ h, ⟨hN, hE, hE2⟩, B.notSynchronized, B.returns, fun q hq => bsA_le hq⟩
  have key : xV p l e rmL_calls s m #[Value.ref (ρ 13 0 0), Value.int 8, Value.ref a] below meth c 0 0 (vx_MQ below (va_Ql (fun (_ : Int64) (_ : Unit) => False) (fun _ _ => True) (bsA ρ cA Rz s.heap.size)) (vx_X (fun (_ : Unit) => True) (fun E _ t => E = bsEn r.1 ∧ xB ρ cA dC dI (bsA ρ cA Rz s.heap.size) (r.2.2, Rz) t) (bsA ρ cA Rz s.heap.size)) #[Value.ref (ρ 13 0 0), Value.int 8, Value.ref a] s rmL_calls.cells rmL_calls.slots (bsA ρ cA Rz s.heap.size)) ρ cA dC dI (bsA ρ cA Rz s.heap.size) Rz 3 0 (lv_args 0 [.ref (ρ 13 0 0), .int 8, .ref a]) [] X := by
    refine x_sub [0, 1, 2] rfl ?_
    refine x_iload_n C dL_calls_0 rfl rfl ?_
    refine x_tabIn (off := 163) (tgt := 164) C 8 dL_calls_1 rfl (by decide) (by decide) rfl (by decide) ?_
    refine x_aload_n C dL_calls_164 rfl rfl ?_
    refine x_aload_n C dL_calls_165 rfl rfl ?_
    refine x_iconst (v := 0) C dL_calls_166 (by decide) ?_
    refine x_iald C he (by decide) dL_calls_167 ?_
    exact x_tcall (y := yX8_tick) (As := [.int (f 0)]) (rest := []) C T0 (cX8_tick_ok hst hf) h0 rfl rfl ml_L_58 wyX8_tick bsm_X8 bsc_X8 rfl dpX8_tick ⟨Nat.le_of_ble_eq_true rfl, Nat.le_of_ble_eq_true rfl⟩ ⟨by show 0 + 3 ≤ 9; omega, by show 0 + 18 ≤ 54; omega⟩ (by show 0 + 3 ≤ 9; omega) (by show 0 + 18 ≤ 54; omega) rfl (Nat.le_of_ble_eq_true rfl) dL_calls_168
  exact key _ _ _ hl hP (bsD_self _ hD0) va_S.rf
set_option maxHeartbeats 4000000 in
set_option maxRecDepth 100000 in
theorem cL_calls_9 {l : Launch} (hst : l.stackTraces = false) {ρ : bsR} {sc L : Nat} {xs : Nat → Int32} {cA : Nat → ClassId} {dC : Nat → ClassId} {dI : Nat → Nat → Nat} {X : bsX} {Rz : va_W} {q0 a : Nat} {f : Nat → Int32} {r : bsXr} (he : Rz[q0]? = some (a, .inl (cA 0, 6, .inl f))) (hf : fX8_begin (f 0) (f 1) (f 2) (f 3) (f 4) X = some r) (h0 : 0 < r.1) : xTl l ρ sc L xs cA dC dI [.ref (ρ 13 0 0), .int 9, .ref a] X Rz r.1 r.2.2 := by
  intro sz
  refine vx_ofW (cc := cL_calls) (maxL := 3) (ret := some .long) (by decide) rfl ?_
  intro p e s m args below meth c s₁ B hml T0 hv
  obtain ⟨rfl, hsz, ⟨hP, hK, hD0, hN, hE⟩, hE2⟩ := hv
  subst hsz
  have hts := atoms_spec (ws := Cond.code yL_calls cL_calls 3 (some .long) :: bsG) B.pre
  have hown : s.vm.findClass RL = some m.cls := findClass_of_methodNamed B.named
  have hl := lv_entry [.ref (ρ 13 0 0), .int 9, .ref a] (n := 3) (Nat.le_of_ble_eq_true rfl)
  rw [lg_entry_eq]
  have C : xCx p m c cL_calls 3 s _ (Cond.code yL_calls cL_calls 3 (some .long) :: bsG) RL ρ sc L xs cA dC dI (bsA ρ cA Rz s.heap.size) meth (some .long) := ⟨⟨B.exec, B.bytes, hml, hown, hts⟩, hK, fun w h => List.mem_cons_of_mem _ h, ⟨hN, hE, hE2⟩, B.notSynchronized, B.returns, fun q hq => bsA_le hq⟩
  have key : xV p l e rmL_calls s m #[Value.ref (ρ 13 0 0), Value.int 9, Value.ref a] below meth c 0 0 (vx_MQ below (va_Ql (fun (_ : Int64) (_ : Unit) => False) (fun _ _ => True) (bsA ρ cA Rz s.heap.size)) (vx_X (fun (_ : Unit) => True) (fun E _ t => E = bsEn r.1 ∧ xB ρ cA dC dI (bsA ρ cA Rz s.heap.size) (r.2.2, Rz) t) (bsA ρ cA Rz s.heap.size)) #[Value.ref (ρ 13 0 0), Value.int 9, Value.ref a] s rmL_calls.cells rmL_calls.slots (bsA ρ cA Rz s.heap.size)) ρ cA dC dI (bsA ρ cA Rz s.heap.size) Rz 3 0 (lv_args 0 [.ref (ρ 13 0 0), .int 9, .ref a]) [] X := by
    refine x_sub [0, 1, 2] rfl ?_
    refine x_iload_n C dL_calls_0 rfl rfl ?_
    refine x_tabIn (off := 172) (tgt := 173) C 9 dL_calls_1 rfl (by decide) (by decide) rfl (by decide) ?_
    refine x_aload_n C dL_calls_173 rfl rfl ?_
    refine x_aload_n C dL_calls_174 rfl rfl ?_
    refine x_iconst (v := 0) C dL_calls_175 (by decide) ?_
    refine x_iald C he (by decide) dL_calls_176 ?_
    refine x_aload_n C dL_calls_177 rfl rfl ?_
    refine x_iconst (v := 1) C dL_calls_178 (by decide) ?_
    refine x_iald C he (by decide) dL_calls_179 ?_
    refine x_aload_n C dL_calls_180 rfl rfl ?_
    refine x_iconst (v := 2) C dL_calls_181 (by decide) ?_
    refine x_iald C he (by decide) dL_calls_182 ?_
    refine x_aload_n C dL_calls_183 rfl rfl ?_
    refine x_iconst (v := 3) C dL_calls_184 (by decide) ?_
    refine x_iald C he (by decide) dL_calls_185 ?_
    refine x_aload_n C dL_calls_186 rfl rfl ?_
    refine x_iconst (v := 4) C dL_calls_187 (by decide) ?_
    refine x_iald C he (by decide) dL_calls_188 ?_
    exact x_tcall (y := yX8_begin) (As := [.int (f 0), .int (f 1), .int (f 2), .int (f 3), .int (f 4)]) (rest := []) C T0 (cX8_begin_ok hst hf) h0 rfl rfl ml_L_61 wyX8_begin bsm_X8 bsc_X8 rfl dpX8_begin ⟨Nat.le_of_ble_eq_true rfl, Nat.le_of_ble_eq_true rfl⟩ ⟨by show 0 + 9 ≤ 9; omega, by show 0 + 54 ≤ 54; omega⟩ (by show 0 + 9 ≤ 9; omega) (by show 0 + 54 ≤ 54; omega) rfl (Nat.le_of_ble_eq_true rfl) dL_calls_189
  exact key _ _ _ hl hP (bsD_self _ hD0) va_S.rf
set_option maxHeartbeats 4000000 in
set_option maxRecDepth 100000 in
theorem cL_calls_10 {l : Launch} (hst : l.stackTraces = false) {ρ : bsR} {sc L : Nat} {xs : Nat → Int32} {cA : Nat → ClassId} {dC : Nat → ClassId} {dI : Nat → Nat → Nat} {X : bsX} {Rz : va_W} {q0 a : Nat} {f : Nat → Int32} {r : bsXr} (he : Rz[q0]? = some (a, .inl (cA 0, 6, .inl f))) (hf : fX8_spoil (f 0) (f 1) X = some r) (h0 : 0 < r.1) : xTl l ρ sc L xs cA dC dI [.ref (ρ 13 0 0), .int 10, .ref a] X Rz r.1 r.2.2 := by
  intro sz
  refine vx_ofW (cc := cL_calls) (maxL := 3) (ret := some .long) (by decide) rfl ?_
  intro p e s m args below meth c s₁ B hml T0 hv
  obtain ⟨rfl, hsz, ⟨hP, hK, hD0, hN, hE⟩, hE2⟩ := hv
  subst hsz
  have hts := atoms_spec (ws := Cond.code yL_calls cL_calls 3 (some .long) :: bsG) B.pre
  have hown : s.vm.findClass RL = some m.cls := findClass_of_methodNamed B.named
  have hl := lv_entry [.ref (ρ 13 0 0), .int 10, .ref a] (n := 3) (Nat.le_of_ble_eq_true rfl)
  rw [lg_entry_eq]
  have C : xCx p m c cL_calls 3 s _ (Cond.code yL_calls cL_calls 3 (some .long) :: bsG) RL ρ sc L xs cA dC dI (bsA ρ cA Rz s.heap.size) meth (some .long) := ⟨⟨B.exec, B.bytes, hml, hown, hts⟩, hK, fun w h => List.mem_cons_of_mem _ h, ⟨hN, hE, hE2⟩, B.notSynchronized, B.returns, fun q hq => bsA_le hq⟩
  have key : xV p l e rmL_calls s m #[Value.ref (ρ 13 0 0), Value.int 10, Value.ref a] below meth c 0 0 (vx_MQ below (va_Ql (fun (_ : Int64) (_ : Unit) => False) (fun _ _ => True) (bsA ρ cA Rz s.heap.size)) (vx_X (fun (_ : Unit) => True) (fun E _ t => E = bsEn r.1 ∧ xB ρ cA dC dI (bsA ρ cA Rz s.heap.size) (r.2.2, Rz) t) (bsA ρ cA Rz s.heap.size)) #[Value.ref (ρ 13 0 0), Value.int 10, Value.ref a] s rmL_calls.cells rmL_calls.slots (bsA ρ cA Rz s.heap.size)) ρ cA dC dI (bsA ρ cA Rz s.heap.size) Rz 3 0 (lv_args 0 [.ref (ρ 13 0 0), .int 10, .ref a]) [] X := by
    refine x_sub [0, 1, 2] rfl ?_
    refine x_iload_n C dL_calls_0 rfl rfl ?_
    refine x_tabIn (off := 193) (tgt := 194) C 10 dL_calls_1 rfl (by decide) (by decide) rfl (by decide) ?_
    refine x_aload_n C dL_calls_194 rfl rfl ?_
    refine x_aload_n C dL_calls_195 rfl rfl ?_
    refine x_iconst (v := 0) C dL_calls_196 (by decide) ?_
    refine x_iald C he (by decide) dL_calls_197 ?_
    refine x_aload_n C dL_calls_198 rfl rfl ?_
    refine x_iconst (v := 1) C dL_calls_199 (by decide) ?_
    refine x_iald C he (by decide) dL_calls_200 ?_
    exact x_tcall (y := yX8_spoil) (As := [.int (f 0), .int (f 1)]) (rest := []) C T0 (cX8_spoil_ok hst hf) h0 rfl rfl ml_L_64 wyX8_spoil bsm_X8 bsc_X8 rfl dpX8_spoil ⟨Nat.le_of_ble_eq_true rfl, Nat.le_of_ble_eq_true rfl⟩ ⟨by show 0 + 4 ≤ 9; omega, by show 0 + 24 ≤ 54; omega⟩ (by show 0 + 4 ≤ 9; omega) (by show 0 + 24 ≤ 54; omega) rfl (Nat.le_of_ble_eq_true rfl) dL_calls_201
  exact key _ _ _ hl hP (bsD_self _ hD0) va_S.rf
set_option maxHeartbeats 4000000 in
set_option maxRecDepth 100000 in
theorem cL_calls_11 {l : Launch} (hst : l.stackTraces = false) {ρ : bsR} {sc L : Nat} {xs : Nat → Int32} {cA : Nat → ClassId} {dC : Nat → ClassId} {dI : Nat → Nat → Nat} {X : bsX} {Rz : va_W} {q0 a : Nat} {f : Nat → Int32} {r : bsXr} (he : Rz[q0]? = some (a, .inl (cA 0, 6, .inl f))) (hf : fX8_textByte (f 0) X = some r) (h0 : 0 < r.1) : xTl l ρ sc L xs cA dC dI [.ref (ρ 13 0 0), .int 11, .ref a] X Rz r.1 r.2.2 := by
  intro sz
  refine vx_ofW (cc := cL_calls) (maxL := 3) (ret := some .long) (by decide) rfl ?_
  intro p e s m args below meth c s₁ B hml T0 hv
  obtain ⟨rfl, hsz, ⟨hP, hK, hD0, hN, hE⟩, hE2⟩ := hv
  subst hsz
  have hts := atoms_spec (ws := Cond.code yL_calls cL_calls 3 (some .long) :: bsG) B.pre
  have hown : s.vm.findClass RL = some m.cls := findClass_of_methodNamed B.named
  have hl := lv_entry [.ref (ρ 13 0 0), .int 11, .ref a] (n := 3) (Nat.le_of_ble_eq_true rfl)
  rw [lg_entry_eq]
  have C : xCx p m c cL_calls 3 s _ (Cond.code yL_calls cL_calls 3 (some .long) :: bsG) RL ρ sc L xs cA dC dI (bsA ρ cA Rz s.heap.size) meth (some .long) := ⟨⟨B.exec, B.bytes, hml, hown, hts⟩, hK, fun w h => List.mem_cons_of_mem _ h, ⟨hN, hE, hE2⟩, B.notSynchronized, B.returns, fun q hq => bsA_le hq⟩
  have key : xV p l e rmL_calls s m #[Value.ref (ρ 13 0 0), Value.int 11, Value.ref a] below meth c 0 0 (vx_MQ below (va_Ql (fun (_ : Int64) (_ : Unit) => False) (fun _ _ => True) (bsA ρ cA Rz s.heap.size)) (vx_X (fun (_ : Unit) => True) (fun E _ t => E = bsEn r.1 ∧ xB ρ cA dC dI (bsA ρ cA Rz s.heap.size) (r.2.2, Rz) t) (bsA ρ cA Rz s.heap.size)) #[Value.ref (ρ 13 0 0), Value.int 11, Value.ref a] s rmL_calls.cells rmL_calls.slots (bsA ρ cA Rz s.heap.size)) ρ cA dC dI (bsA ρ cA Rz s.heap.size) Rz 3 0 (lv_args 0 [.ref (ρ 13 0 0), .int 11, .ref a]) [] X := by
    refine x_sub [0, 1, 2] rfl ?_
    refine x_iload_n C dL_calls_0 rfl rfl ?_
    refine x_tabIn (off := 205) (tgt := 206) C 11 dL_calls_1 rfl (by decide) (by decide) rfl (by decide) ?_
    refine x_aload_n C dL_calls_206 rfl rfl ?_
    refine x_aload_n C dL_calls_207 rfl rfl ?_
    refine x_iconst (v := 0) C dL_calls_208 (by decide) ?_
    refine x_iald C he (by decide) dL_calls_209 ?_
    exact x_tcall (y := yX8_textByte) (As := [.int (f 0)]) (rest := []) C T0 (cX8_textByte_ok hst hf) h0 rfl rfl ml_L_67 wyX8_textByte bsm_X8 bsc_X8 rfl dpX8_textByte ⟨Nat.le_of_ble_eq_true rfl, Nat.le_of_ble_eq_true rfl⟩ ⟨by show 0 + 1 ≤ 9; omega, by show 0 + 6 ≤ 54; omega⟩ (by show 0 + 1 ≤ 9; omega) (by show 0 + 6 ≤ 54; omega) rfl (Nat.le_of_ble_eq_true rfl) dL_calls_210
  exact key _ _ _ hl hP (bsD_self _ hD0) va_S.rf
set_option maxHeartbeats 4000000 in
set_option maxRecDepth 100000 in
theorem cL_calls_12 {l : Launch} (hst : l.stackTraces = false) {ρ : bsR} {sc L : Nat} {xs : Nat → Int32} {cA : Nat → ClassId} {dC : Nat → ClassId} {dI : Nat → Nat → Nat} {X : bsX} {Rz : va_W} {q0 a : Nat} {f : Nat → Int32} {r : bsXr} (he : Rz[q0]? = some (a, .inl (cA 0, 6, .inl f))) (hf : fX8_mark (f 0) (f 1) (f 2) X = some r) (h0 : 0 < r.1) : xTl l ρ sc L xs cA dC dI [.ref (ρ 13 0 0), .int 12, .ref a] X Rz r.1 r.2.2 := by
  intro sz
  refine vx_ofW (cc := cL_calls) (maxL := 3) (ret := some .long) (by decide) rfl ?_
  intro p e s m args below meth c s₁ B hml T0 hv
  obtain ⟨rfl, hsz, ⟨hP, hK, hD0, hN, hE⟩, hE2⟩ := hv
  subst hsz
  have hts := atoms_spec (ws := Cond.code yL_calls cL_calls 3 (some .long) :: bsG) B.pre
  have hown : s.vm.findClass RL = some m.cls := findClass_of_methodNamed B.named
  have hl := lv_entry [.ref (ρ 13 0 0), .int 12, .ref a] (n := 3) (Nat.le_of_ble_eq_true rfl)
  rw [lg_entry_eq]
  have C : xCx p m c cL_calls 3 s _ (Cond.code yL_calls cL_calls 3 (some .long) :: bsG) RL ρ sc L xs cA dC dI (bsA ρ cA Rz s.heap.size) meth (some .long) := ⟨⟨B.exec, B.bytes, hml, hown, hts⟩, hK, fun w h => List.mem_cons_of_mem _ h, ⟨hN, hE, hE2⟩, B.notSynchronized, B.returns, fun q hq => bsA_le hq⟩
  have key : xV p l e rmL_calls s m #[Value.ref (ρ 13 0 0), Value.int 12, Value.ref a] below meth c 0 0 (vx_MQ below (va_Ql (fun (_ : Int64) (_ : Unit) => False) (fun _ _ => True) (bsA ρ cA Rz s.heap.size)) (vx_X (fun (_ : Unit) => True) (fun E _ t => E = bsEn r.1 ∧ xB ρ cA dC dI (bsA ρ cA Rz s.heap.size) (r.2.2, Rz) t) (bsA ρ cA Rz s.heap.size)) #[Value.ref (ρ 13 0 0), Value.int 12, Value.ref a] s rmL_calls.cells rmL_calls.slots (bsA ρ cA Rz s.heap.size)) ρ cA dC dI (bsA ρ cA Rz s.heap.size) Rz 3 0 (lv_args 0 [.ref (ρ 13 0 0), .int 12, .ref a]) [] X := by
    refine x_sub [0, 1, 2] rfl ?_
    refine x_iload_n C dL_calls_0 rfl rfl ?_
    refine x_tabIn (off := 214) (tgt := 215) C 12 dL_calls_1 rfl (by decide) (by decide) rfl (by decide) ?_
    refine x_aload_n C dL_calls_215 rfl rfl ?_
    refine x_aload_n C dL_calls_216 rfl rfl ?_
    refine x_iconst (v := 0) C dL_calls_217 (by decide) ?_
    refine x_iald C he (by decide) dL_calls_218 ?_
    refine x_aload_n C dL_calls_219 rfl rfl ?_
    refine x_iconst (v := 1) C dL_calls_220 (by decide) ?_
    refine x_iald C he (by decide) dL_calls_221 ?_
    refine x_aload_n C dL_calls_222 rfl rfl ?_
    refine x_iconst (v := 2) C dL_calls_223 (by decide) ?_
    refine x_iald C he (by decide) dL_calls_224 ?_
    exact x_tcall (y := yX8_mark) (As := [.int (f 0), .int (f 1), .int (f 2)]) (rest := []) C T0 (cX8_mark_ok hst hf) h0 rfl rfl ml_L_70 wyX8_mark bsm_X8 bsc_X8 rfl dpX8_mark ⟨Nat.le_of_ble_eq_true rfl, Nat.le_of_ble_eq_true rfl⟩ ⟨by show 0 + 5 ≤ 9; omega, by show 0 + 30 ≤ 54; omega⟩ (by show 0 + 5 ≤ 9; omega) (by show 0 + 30 ≤ 54; omega) rfl (Nat.le_of_ble_eq_true rfl) dL_calls_225
  exact key _ _ _ hl hP (bsD_self _ hD0) va_S.rf
set_option maxHeartbeats 4000000 in
set_option maxRecDepth 100000 in
theorem cL_calls_13 {l : Launch} (hst : l.stackTraces = false) {ρ : bsR} {sc L : Nat} {xs : Nat → Int32} {cA : Nat → ClassId} {dC : Nat → ClassId} {dI : Nat → Nat → Nat} {X : bsX} {Rz : va_W} {q0 a : Nat} {f : Nat → Int32} {r : bsXr} (he : Rz[q0]? = some (a, .inl (cA 0, 6, .inl f))) (hf : fX8_setNumber (f 0) (f 1) X = some r) (h0 : 0 < r.1) : xTl l ρ sc L xs cA dC dI [.ref (ρ 13 0 0), .int 13, .ref a] X Rz r.1 r.2.2 := by
  intro sz
  refine vx_ofW (cc := cL_calls) (maxL := 3) (ret := some .long) (by decide) rfl ?_
  intro p e s m args below meth c s₁ B hml T0 hv
  obtain ⟨rfl, hsz, ⟨hP, hK, hD0, hN, hE⟩, hE2⟩ := hv
  subst hsz
  have hts := atoms_spec (ws := Cond.code yL_calls cL_calls 3 (some .long) :: bsG) B.pre
  have hown : s.vm.findClass RL = some m.cls := findClass_of_methodNamed B.named
  have hl := lv_entry [.ref (ρ 13 0 0), .int 13, .ref a] (n := 3) (Nat.le_of_ble_eq_true rfl)
  rw [lg_entry_eq]
  have C : xCx p m c cL_calls 3 s _ (Cond.code yL_calls cL_calls 3 (some .long) :: bsG) RL ρ sc L xs cA dC dI (bsA ρ cA Rz s.heap.size) meth (some .long) := ⟨⟨B.exec, B.bytes, hml, hown, hts⟩, hK, fun w h => List.mem_cons_of_mem _ h, ⟨hN, hE, hE2⟩, B.notSynchronized, B.returns, fun q hq => bsA_le hq⟩
  have key : xV p l e rmL_calls s m #[Value.ref (ρ 13 0 0), Value.int 13, Value.ref a] below meth c 0 0 (vx_MQ below (va_Ql (fun (_ : Int64) (_ : Unit) => False) (fun _ _ => True) (bsA ρ cA Rz s.heap.size)) (vx_X (fun (_ : Unit) => True) (fun E _ t => E = bsEn r.1 ∧ xB ρ cA dC dI (bsA ρ cA Rz s.heap.size) (r.2.2, Rz) t) (bsA ρ cA Rz s.heap.size)) #[Value.ref (ρ 13 0 0), Value.int 13, Value.ref a] s rmL_calls.cells rmL_calls.slots (bsA ρ cA Rz s.heap.size)) ρ cA dC dI (bsA ρ cA Rz s.heap.size) Rz 3 0 (lv_args 0 [.ref (ρ 13 0 0), .int 13, .ref a]) [] X := by
    refine x_sub [0, 1, 2] rfl ?_
    refine x_iload_n C dL_calls_0 rfl rfl ?_
    refine x_tabIn (off := 229) (tgt := 230) C 13 dL_calls_1 rfl (by decide) (by decide) rfl (by decide) ?_
    refine x_aload_n C dL_calls_230 rfl rfl ?_
    refine x_aload_n C dL_calls_231 rfl rfl ?_
    refine x_iconst (v := 0) C dL_calls_232 (by decide) ?_
    refine x_iald C he (by decide) dL_calls_233 ?_
    refine x_aload_n C dL_calls_234 rfl rfl ?_
    refine x_iconst (v := 1) C dL_calls_235 (by decide) ?_
    refine x_iald C he (by decide) dL_calls_236 ?_
    exact x_tcall (y := yX8_setNumber) (As := [.int (f 0), .int (f 1)]) (rest := []) C T0 (cX8_setNumber_ok hst hf) h0 rfl rfl ml_L_74 wyX8_setNumber bsm_X8 bsc_X8 rfl dpX8_setNumber ⟨Nat.le_of_ble_eq_true rfl, Nat.le_of_ble_eq_true rfl⟩ ⟨by show 0 + 2 ≤ 9; omega, by show 0 + 12 ≤ 54; omega⟩ (by show 0 + 2 ≤ 9; omega) (by show 0 + 12 ≤ 54; omega) rfl (Nat.le_of_ble_eq_true rfl) dL_calls_237
  exact key _ _ _ hl hP (bsD_self _ hD0) va_S.rf
set_option maxHeartbeats 4000000 in
set_option maxRecDepth 100000 in
theorem cL_calls_14 {l : Launch} (hst : l.stackTraces = false) {ρ : bsR} {sc L : Nat} {xs : Nat → Int32} {cA : Nat → ClassId} {dC : Nat → ClassId} {dI : Nat → Nat → Nat} {X : bsX} {Rz : va_W} {q0 a : Nat} {f : Nat → Int32} {r : bsXr} (he : Rz[q0]? = some (a, .inl (cA 0, 6, .inl f))) (hf : fX8_stateIn (f 0) X = some r) (h0 : 0 < r.1) : xTl l ρ sc L xs cA dC dI [.ref (ρ 13 0 0), .int 14, .ref a] X Rz r.1 r.2.2 := by
  intro sz
  refine vx_ofW (cc := cL_calls) (maxL := 3) (ret := some .long) (by decide) rfl ?_
  intro p e s m args below meth c s₁ B hml T0 hv
  obtain ⟨rfl, hsz, ⟨hP, hK, hD0, hN, hE⟩, hE2⟩ := hv
  subst hsz
  have hts := atoms_spec (ws := Cond.code yL_calls cL_calls 3 (some .long) :: bsG) B.pre
  have hown : s.vm.findClass RL = some m.cls := findClass_of_methodNamed B.named
  have hl := lv_entry [.ref (ρ 13 0 0), .int 14, .ref a] (n := 3) (Nat.le_of_ble_eq_true rfl)
  rw [lg_entry_eq]
  have C : xCx p m c cL_calls 3 s _ (Cond.code yL_calls cL_calls 3 (some .long) :: bsG) RL ρ sc L xs cA dC dI (bsA ρ cA Rz s.heap.size) meth (some .long) := ⟨⟨B.exec, B.bytes, hml, hown, hts⟩, hK, fun w h => List.mem_cons_of_mem _ h, ⟨hN, hE, hE2⟩, B.notSynchronized, B.returns, fun q hq => bsA_le hq⟩
  have key : xV p l e rmL_calls s m #[Value.ref (ρ 13 0 0), Value.int 14, Value.ref a] below meth c 0 0 (vx_MQ below (va_Ql (fun (_ : Int64) (_ : Unit) => False) (fun _ _ => True) (bsA ρ cA Rz s.heap.size)) (vx_X (fun (_ : Unit) => True) (fun E _ t => E = bsEn r.1 ∧ xB ρ cA dC dI (bsA ρ cA Rz s.heap.size) (r.2.2, Rz) t) (bsA ρ cA Rz s.heap.size)) #[Value.ref (ρ 13 0 0), Value.int 14, Value.ref a] s rmL_calls.cells rmL_calls.slots (bsA ρ cA Rz s.heap.size)) ρ cA dC dI (bsA ρ cA Rz s.heap.size) Rz 3 0 (lv_args 0 [.ref (ρ 13 0 0), .int 14, .ref a]) [] X := by
    refine x_sub [0, 1, 2] rfl ?_
    refine x_iload_n C dL_calls_0 rfl rfl ?_
    refine x_tabIn (off := 241) (tgt := 242) C 14 dL_calls_1 rfl (by decide) (by decide) rfl (by decide) ?_
    refine x_aload_n C dL_calls_242 rfl rfl ?_
    refine x_aload_n C dL_calls_243 rfl rfl ?_
    refine x_iconst (v := 0) C dL_calls_244 (by decide) ?_
    refine x_iald C he (by decide) dL_calls_245 ?_
    exact x_tcall (y := yX8_stateIn) (As := [.int (f 0)]) (rest := []) C T0 (cX8_stateIn_ok hst hf) h0 rfl rfl ml_L_77 wyX8_stateIn bsm_X8 bsc_X8 rfl dpX8_stateIn ⟨Nat.le_of_ble_eq_true rfl, Nat.le_of_ble_eq_true rfl⟩ ⟨by show 0 + 2 ≤ 9; omega, by show 0 + 12 ≤ 54; omega⟩ (by show 0 + 2 ≤ 9; omega) (by show 0 + 12 ≤ 54; omega) rfl (Nat.le_of_ble_eq_true rfl) dL_calls_246
  exact key _ _ _ hl hP (bsD_self _ hD0) va_S.rf
set_option maxHeartbeats 4000000 in
set_option maxRecDepth 100000 in
theorem cL_calls_16 {l : Launch} (hst : l.stackTraces = false) {ρ : bsR} {sc L : Nat} {xs : Nat → Int32} {cA : Nat → ClassId} {dC : Nat → ClassId} {dI : Nat → Nat → Nat} {X : bsX} {Rz : va_W} {q0 a : Nat} {f : Nat → Int32} {r : bsXr} (he : Rz[q0]? = some (a, .inl (cA 0, 6, .inl f))) (hf : fX8_undo  X = some r) (h0 : 0 < r.1) : xTl l ρ sc L xs cA dC dI [.ref (ρ 13 0 0), .int 16, .ref a] X Rz r.1 r.2.2 := by
  intro sz
  refine vx_ofW (cc := cL_calls) (maxL := 3) (ret := some .long) (by decide) rfl ?_
  intro p e s m args below meth c s₁ B hml T0 hv
  obtain ⟨rfl, hsz, ⟨hP, hK, hD0, hN, hE⟩, hE2⟩ := hv
  subst hsz
  have hts := atoms_spec (ws := Cond.code yL_calls cL_calls 3 (some .long) :: bsG) B.pre
  have hown : s.vm.findClass RL = some m.cls := findClass_of_methodNamed B.named
  have hl := lv_entry [.ref (ρ 13 0 0), .int 16, .ref a] (n := 3) (Nat.le_of_ble_eq_true rfl)
  rw [lg_entry_eq]
  have C : xCx p m c cL_calls 3 s _ (Cond.code yL_calls cL_calls 3 (some .long) :: bsG) RL ρ sc L xs cA dC dI (bsA ρ cA Rz s.heap.size) meth (some .long) := ⟨⟨B.exec, B.bytes, hml, hown, hts⟩, hK, fun w h => List.mem_cons_of_mem _ h, ⟨hN, hE, hE2⟩, B.notSynchronized, B.returns, fun q hq => bsA_le hq⟩
  have key : xV p l e rmL_calls s m #[Value.ref (ρ 13 0 0), Value.int 16, Value.ref a] below meth c 0 0 (vx_MQ below (va_Ql (fun (_ : Int64) (_ : Unit) => False) (fun _ _ => True) (bsA ρ cA Rz s.heap.size)) (vx_X (fun (_ : Unit) => True) (fun E _ t => E = bsEn r.1 ∧ xB ρ cA dC dI (bsA ρ cA Rz s.heap.size) (r.2.2, Rz) t) (bsA ρ cA Rz s.heap.size)) #[Value.ref (ρ 13 0 0), Value.int 16, Value.ref a] s rmL_calls.cells rmL_calls.slots (bsA ρ cA Rz s.heap.size)) ρ cA dC dI (bsA ρ cA Rz s.heap.size) Rz 3 0 (lv_args 0 [.ref (ρ 13 0 0), .int 16, .ref a]) [] X := by
    refine x_sub [0, 1, 2] rfl ?_
    refine x_iload_n C dL_calls_0 rfl rfl ?_
    refine x_tabIn (off := 265) (tgt := 266) C 16 dL_calls_1 rfl (by decide) (by decide) rfl (by decide) ?_
    refine x_aload_n C dL_calls_266 rfl rfl ?_
    exact x_tcall (y := yX8_undo) (As := []) (rest := []) C T0 (cX8_undo_ok hst hf) h0 rfl rfl ml_L_83 wyX8_undo bsm_X8 bsc_X8 rfl dpX8_undo ⟨Nat.le_of_ble_eq_true rfl, Nat.le_of_ble_eq_true rfl⟩ ⟨by show 0 + 1 ≤ 9; omega, by show 0 + 6 ≤ 54; omega⟩ (by show 0 + 1 ≤ 9; omega) (by show 0 + 6 ≤ 54; omega) rfl (Nat.le_of_ble_eq_true rfl) dL_calls_267
  exact key _ _ _ hl hP (bsD_self _ hD0) va_S.rf
def xMw (l : Launch) (y : MethodName) (b : ByteArray) (nL : Nat) (ret : Option FieldType) (hh : List (Nat × Nat × Nat × Nat)) (rm : Room) (ρ : bsR) (sc L : Nat) (xs : Nat → Int32) (cA : Nat → ClassId) (dC : Nat → ClassId) (dI : Nat → Nat → Nat) (As : List Value) (X : bsX) (Rz : va_W) (P : Int32 → bsX → va_W → Prop) : Prop :=
  ∀ sz : Nat, Met l y (Cond.codeWith y b nL ret hh :: bsG) rm (va_Pc As (fun U => U.heap.size = sz ∧ xWp ρ sc L xs cA dC dI Rz X U)) (xQi ρ cA dC dI (bsA ρ cA Rz sz) P) rm.cells rm.slots (bsA ρ cA Rz sz)
theorem bs_ofWH {l : Launch} {y : MethodName} {ws ws' : List Cond} {rm : Room} {Pc : Array Value → State → Prop} {Qc : Array Value → State → Outcome → State → Prop} {mc ms : Nat} {free : Addr → Prop} {cc : ByteArray} {maxL : Nat} {ret : Option FieldType} {hh : List (Nat × Nat × Nat × Nat)}
    (hy : plainName y.cls = true) (hw : ws = Cond.codeWith y cc maxL ret hh :: ws')
    (body : ∀ p e s m args below meth c s₁, BodyLoose p l y (headSpec ws rm) cc maxL ret e s m args below meth c s₁ → c.maxLocals = maxL → Pc args s →
      W p l e (headSpec ws rm).room s m args below meth c s.heap [] 0 0 (MQ below Qc args s mc ms free) (entryFrame m args maxL)) : Met l y ws rm Pc Qc mc ms free := by
  refine MetFree.of_bodyS (code := cc) (maxLocals := maxL) (ret := ret) hy ?_ ?_
  · intro args s m h hn
    obtain ⟨m9, meth, c, hn9, h1, h2, h3, h4, -, h5, h6, -⟩ := Cond.codeWith_spec (atoms_spec (ws := ws) h _ (by rw [hw]; exact List.mem_cons_self))
    cases hn.symm.trans hn9
    exact ⟨meth, c, h1, h2, h3, h4, h5, h6⟩
  · intro p e s m args below meth c s₁ B hml hP _
    have hh0 : s₁.heap = s.heap := by rw [B.state]; rfl
    obtain ⟨t, a1, o, b1, b2, b3⟩ := body p e s m args below meth c s₁ B hml hP s₁ hh0 (Stand.of_body B)
    exact ⟨t, o, a1, b1, b2, ⟨b3.1, b3.2⟩⟩
/-- where an exception of number k goes: the handler's row x, the rows ahead of it name other classes -/
def bsHd (own : String) (pc k : Nat) (tb : List ExceptionTableEntry) (hp : Nat) : Prop := ∃ (pre : List ExceptionTableEntry) (x : ExceptionTableEntry) (suf : List ExceptionTableEntry), tb = pre ++ x :: suf ∧ (∀ z ∈ pre, z.catchType ≠ 0 ∧ ∃ F ∈ ["java/lang/IllegalStateException", "java/lang/IndexOutOfBoundsException", "java/lang/IllegalArgumentException"], bsEn k ≠ F ∧ Cond.classLink own z.catchType F ∈ bsG) ∧ covers x pc = true ∧ x.catchType ≠ 0 ∧ Cond.classLink own x.catchType (bsEn k) ∈ bsG ∧ x.handlerPc = hp ∧ bsEn k ∈ ["java/lang/IllegalStateException", "java/lang/IndexOutOfBoundsException", "java/lang/IllegalArgumentException"]
section X330b
variable {p : Program} {l : Launch} {e : Env} {R : Room} {s : State} {m : MethodId} {args : Array Value} {below : List Frame} {meth : Method} {c : Code} {cells slots : Nat} {Q : State → Prop} {ρ : bsR} {sc L : Nat} {xs : Nat → Int32} {cA : Nat → ClassId} {dC : Nat → ClassId} {dI : Nat → Nat → Nat} {A : Nat → Prop} {Rz Rz' : va_W} {nL : Nat} {cc : ByteArray} {Ts : List Cond} {own : String} {ret : Option FieldType} {pc : Nat} {lv : List (Nat × Value)} {st : List Value} {X : bsX} {mc ms : Nat}
theorem wz_calls : bsWz yL_calls cL_calls 3 (some .long) := ⟨bsG_in 1010 (by decide +kernel) rfl, bsG_in 37 (by decide +kernel) rfl, bsG_in 1011 (by decide +kernel) rfl, by decide +kernel, by decide +kernel⟩
theorem dpL_calls : (parseMethodDescriptor yL_calls.desc).map (fun d => d.parameters.length) = some 3 := by decide +kernel
theorem ml_L_98 : Cond.methodLink RL 98 yL_calls ∈ bsG := bsG_in 1009 (by decide +kernel) rfl
theorem x_tcatch (C : xCx p m c cc nL s args Ts RL ρ sc L xs cA dC dI A meth ret) {tb : List ExceptionTableEntry} (T9 : c.exceptionTable.toList = tb) {As rest : List Value} {k hp : Nat} {X' : bsX} (hM : xTl l ρ sc L xs cA dC dI As X Rz k X') (hAs : As.length = 3)
    (hR : 10 ≤ R.frames ∧ 8 + (3 + 11) + 220 ≤ R.locals) (hcs : cells + 9 ≤ R.cells ∧ slots + 54 ≤ R.slots) (hst : st = As.reverse ++ rest) (hW : (rest.map fun v => v.category).sum ≤ 8) (hd : decode cc pc = .ok (.invokestatic 98, 3)) (hH : bsHd RL pc k tb hp)
    (kk : ∀ q9 : Nat, xV p l e R s m args below meth c (cells + 9) (slots + 54) Q ρ cA dC dI A Rz nL hp lv [.ref q9] X') : xV p l e R s m args below meth c cells slots Q ρ cA dC dI A Rz nL pc lv st X := by
  intro ls H locs hl hP hD hS
  have hw := wz_calls
  refine vx_calll (vx_runS (As := As) (rest := rest) C.1 (hM H.size) ⟨callB_of As.length C.1.2.2.2.2 (bs_goodC C.2.2.1 hw.2.2.1) rfl rfl rfl (C.1.2.2.2.2 _ (C.2.2.1 _ hw.2.1)) (C.1.2.2.2.2 _ (C.2.2.1 _ ml_L_98)) ⟨hw.2.2.2.1, hw.2.2.2.2, by rw [hAs]; exact dpL_calls⟩ hR, C.1.2.2.2.2 _ (C.2.2.1 _ hw.1)⟩ (x_pre C hP hD hS) rfl rfl hl.1 hst (lv_room hW) hd hcs) hS (fun q _ h => xA_sub C hD hS q h) (fun q h => xA_sub C hD hS q h) (fun q _ h => xA_sub C hD hS q h) (fun E ce q9 u t H1 locs1 ht hvm hp9 hB hz1 hk1 hS1 hc1 hc2 hc3 => ?_) (fun r1 u t H1 locs1 ht hvm hr hB hz1 hk1 hS1 => hr.elim)
  obtain ⟨hE, hB2⟩ := hB
  obtain ⟨pre, x, suf, e1, e2, e3, e4, e5, e6, e7⟩ := hH
  subst hE
  have W9 := fun w (h : w ∈ bsG) => C.1.2.2.2.2 w (C.2.2.1 w h)
  have E9 := C.2.2.2.1.2.1
  refine vx_catch C.1.2.2.2.1 pre x suf (T9.trans e1) (fun z hz => Or.inr ?_) e3 e4 (W9 _ e5) (va_Nw.use rfl (E9.2.2.2.2.2.1.1 _ e7)) hc1 hc2 hc3 ?_
  · obtain ⟨z1, F, hF, hne, hlk⟩ := e2 z hz
    exact ⟨z1, F, W9 _ hlk, E9.2.2.2.2.2.2 _ e7 F hF hne⟩
  · rw [e6]
    exact x_back hl ht hB2 (xA_sub C hD hS) hS1 (kk q9)
end X330b
def tbT : List ExceptionTableEntry := tableOf [(14, 32, 33, 104), (14, 32, 37, 106), (14, 32, 41, 108)]
theorem hd_1 : bsHd RL 17 1 tbT 33 := ⟨[], _, _, rfl, fun z hz => absurd hz List.not_mem_nil, by decide +kernel, by decide +kernel, by decide +kernel, rfl, by decide +kernel⟩
theorem hd_2 : bsHd RL 17 2 tbT 37 := ⟨[_], _, _, rfl, fun z hz => by
  rw [List.mem_singleton] at hz
  subst hz
  exact ⟨by decide +kernel, "java/lang/IllegalStateException", by decide +kernel, by decide +kernel, by decide +kernel⟩, by decide +kernel, by decide +kernel, by decide +kernel, rfl, by decide +kernel⟩
theorem hd_3 : bsHd RL 17 3 tbT 41 := ⟨[_, _], _, _, rfl, fun z hz => by
  rcases List.mem_cons.mp hz with rfl | hz
  · exact ⟨by decide +kernel, "java/lang/IllegalStateException", by decide +kernel, by decide +kernel, by decide +kernel⟩
  · rw [List.mem_singleton] at hz
    subst hz
    exact ⟨by decide +kernel, "java/lang/IndexOutOfBoundsException", by decide +kernel, by decide +kernel, by decide +kernel⟩, by decide +kernel, by decide +kernel, by decide +kernel, rfl, by decide +kernel⟩
theorem x_copyi {p : Program} {l : Launch} {e : Env} {R : Room} {s : State} {m : MethodId} {args : Array Value} {below : List Frame} {meth : Method} {c : Code} {cells slots : Nat} {Q : State → Prop} {ρ : bsR} {sc L : Nat} {xs : Nat → Int32} {cA : Nat → ClassId} {dC : Nat → ClassId} {dI : Nat → Nat → Nat} {A : Nat → Prop} {Rz Rz' : va_W} {nL : Nat} {cc : ByteArray} {Ts : List Cond} {own : String} {ret : Option FieldType} {pc : Nat} {lv : List (Nat × Value)} {st : List Value} {X : bsX} (C : xCx p m c cc nL s args Ts own ρ sc L xs cA dC dI A meth ret) {q0 q1 a0 a n0 n1 : Nat} {index : Nat} {f g : Nat → Int32} {sp dp n : Int32} (hlink : Cond.methodLink own index arraycopyName ∈ bsG) (ha0 : Rz[q0]? = some (a0, .inl (cA 0, n0, .inl f))) (ha1 : Rz[q1]? = some (a, .inl (cA 0, n1, .inl g))) (h1 : ¬ sp < 0) (h2 : ¬ dp < 0) (h3 : ¬ n < 0) (h4 : bsIx sp + bsIx n ≤ n0) (h5 : bsIx dp + bsIx n ≤ n1) (hfr : 1 ≤ R.frames) (hlo : (st.map fun v => v.category).sum + (nativeFrameWords "java/lang/System" "arraycopy" 5 + 11) ≤ R.locals) (hR : Rz.set q1 (a, .inl (cA 0, n1, .inl (va_cpy f g (bsIx sp) (bsIx dp) (bsIx n)))) = Rz') (hd : decode cc pc = .ok (.invokestatic index, 3)) (kk : xV p l e R s m args below meth c cells slots Q ρ cA dC dI A Rz' nL (pc + 3) lv st X) : xV p l e R s m args below meth c cells slots Q ρ cA dC dI A Rz nL pc lv (.int n :: .int dp :: .ref a :: .int sp :: .ref a0 :: st) X := by
  intro ls H locs hl hP hD hS
  have W9 := fun w (h : w ∈ bsG) => C.1.2.2.2.2 w (C.2.2.1 w h)
  refine va_copyi C.1.1 C.1.2.1 (C.1.2.2.1.trans hl.1.symm) C.1.2.2.2.1 (W9 _ hlink) (W9 _ ac_ok.1) (W9 _ ac_ok.2.1) (W9 _ ac_ok.2.2) C.2.1 hP hD hS (bsKeys.length + q0) (bsKeys.length + q1) 0 0 ((xW_at q0).trans ha0) ((xW_at q1).trans ha1) rfl rfl rfl h1 h2 h3 h4 h5 (fun _ _ => rfl) hfr hlo hd (fun H1 locs1 hP hD hS => ?_)
  rw [xW_set, show (va_cpy f g sp.toNatClampNeg dp.toNatClampNeg n.toNatClampNeg) = va_cpy f g (bsIx sp) (bsIx dp) (bsIx n) from rfl, hR] at hP hD
  exact kk ls H1 locs1 hl hP hD hS
set_option maxHeartbeats 4000000 in
set_option maxRecDepth 100000 in
theorem cL_thrown_ok {l : Launch} {ρ : bsR} {sc L : Nat} {xs : Nat → Int32} {cA : Nat → ClassId} {dC : Nat → ClassId} {dI : Nat → Nat → Nat} {X X' : bsX} {Rz : va_W} {q0 a n k : Nat} {f : Nat → Int32} {w : Int32} (he : Rz[q0]? = some (a, .inl (cA 0, n, .inl f))) (hn : n ≤ 6) (hk : k = 1 ∨ k = 2 ∨ k = 3)
    (hM : ∀ (R2 : va_W) (q2 b : Nat), R2[q2]? = some (b, .inl (cA 0, 6, .inl (va_cpy f (fun _ => 0) 0 0 n))) → xTl l ρ sc L xs cA dC dI [.ref (ρ 13 0 0), .int w, .ref b] X R2 k X') : xMw l yL_thrown cL_thrown 5 (some .int) [(14, 32, 33, 104), (14, 32, 37, 106), (14, 32, 41, 108)] rmL_thrown ρ sc L xs cA dC dI [.ref (ρ 13 0 0), .int w, .ref a] X Rz (fun r X'' R' => r = nI k ∧ X'' = X' ∧ R' = Rz) := by
  intro sz
  refine bs_ofWH (cc := cL_thrown) (maxL := 5) (ret := some .int) (by decide) rfl ?_
  intro p e s m args below meth c s₁ B hml hv
  obtain ⟨rfl, hsz, ⟨hP, hK, hD0, hN, hE⟩, hE2⟩ := hv
  subst hsz
  have hts := atoms_spec (ws := Cond.codeWith yL_thrown cL_thrown 5 (some .int) [(14, 32, 33, 104), (14, 32, 37, 106), (14, 32, 41, 108)] :: bsG) B.pre
  have hown : s.vm.findClass RL = some m.cls := findClass_of_methodNamed B.named
  have hl := lv_entry [.ref (ρ 13 0 0), .int w, .ref a] (n := 5) (Nat.le_of_ble_eq_true rfl)
  rw [lg_entry_eq]
  have T9 : c.exceptionTable.toList = tbT := vx_table (x := yL_thrown) B (hts _ List.mem_cons_self)
  have C : xCx p m c cL_thrown 5 s _ (Cond.codeWith yL_thrown cL_thrown 5 (some .int) [(14, 32, 33, 104), (14, 32, 37, 106), (14, 32, 41, 108)] :: bsG) RL ρ sc L xs cA dC dI (bsA ρ cA Rz s.heap.size) meth (some .int) := ⟨⟨B.exec, B.bytes, hml, hown, hts⟩, hK, fun w h => List.mem_cons_of_mem _ h, ⟨hN, hE, hE2⟩, B.notSynchronized, B.returns, fun q hq => bsA_le hq⟩
  refine (?_ : xV p l e rmL_thrown s m _ below meth c 0 0 (MQ below (xQi ρ cA dC dI (bsA ρ cA Rz s.heap.size) (fun r X'' R' => r = nI k ∧ X'' = X' ∧ R' = Rz)) _ s rmL_thrown.cells rmL_thrown.slots (bsA ρ cA Rz s.heap.size)) ρ cA dC dI (bsA ρ cA Rz s.heap.size) Rz 5 0 (lv_args 0 [.ref (ρ 13 0 0), .int w, .ref a]) [] X) _ _ _ hl hP (bsD_self _ hD0) va_S.rf
  clear hP hD0 hl hE hE2 hK hN
  generalize (bsA ρ cA Rz s.heap.size) = A at C ⊢
  refine x_sub [0, 1, 2] rfl ?_
  refine x_bipush (v := 6) C dL_thrown_0 (by decide) ?_
  refine x_newi (N := 6) C (by decide) (by decide) (by decide) ⟨by show 0 + 1 ≤ 10; omega, by show 0 + 6 ≤ 60; omega⟩ dL_thrown_2 (fun b => ?_)
  have hb : (Rz ++ [(b, .inl (cA 0, 6, .inl (fun _ => (0 : Int32))))])[Rz.length]? = some (b, .inl (cA 0, 6, .inl (fun _ => (0 : Int32)))) := by simp
  have ha : (Rz ++ [(b, .inl (cA 0, 6, .inl (fun _ => (0 : Int32))))])[q0]? = some (a, .inl (cA 0, n, .inl f)) := by
    rw [List.getElem?_append_left (List.getElem?_eq_some_iff.mp he).1]
    exact he
  refine x_widen (k := 1) (n := 6) (Nat.le_refl _) (Nat.le_refl _) ?_
  refine x_astore_n (lv' := [(3, .ref b), (0, .ref (ρ 13 0 0)), (1, .int w), (2, .ref a)]) C dL_thrown_4 rfl (by decide) rfl ?_
  refine x_aload_n C dL_thrown_5 rfl rfl ?_
  refine x_iconst (v := 0) C dL_thrown_6 (by decide) ?_
  refine x_aload_n C dL_thrown_7 rfl rfl ?_
  refine x_iconst (v := 0) C dL_thrown_8 (by decide) ?_
  refine x_aload_n C dL_thrown_9 rfl rfl ?_
  refine x_alen C (t0 := 0) ha rfl rfl dL_thrown_10 ?_
  have h00 : bsIx (0 : Int32) = 0 := by decide
  refine x_copyi (Rz' := Rz ++ [(b, .inl (cA 0, 6, .inl (va_cpy f (fun _ => 0) 0 0 n)))]) C (bsG_in 1008 (by decide +kernel) rfl) ha hb (by decide) (by decide) (pu_neg _ (by show n < 2147483648; omega)) (by show bsIx 0 + bsIx (nI n) ≤ n; rw [h00, pu_ix _ (by omega)]; omega) (by show bsIx 0 + bsIx (nI n) ≤ 6; rw [h00, pu_ix _ (by omega)]; omega) (by show 1 ≤ 10; omega) (by show _ ≤ 300; decide +kernel) (by
    rw [show bsIx (nI ((n, (.inl f : (Nat → Int32) ⊕ _)) : vp_A).1) = n from pu_ix n (by omega), h00, List.set_append, if_neg (by omega), Nat.sub_self]
    rfl) dL_thrown_11 ?_
  have xq_at : ∀ _ : Nat, (Rz ++ [(b, .inl (cA 0, 6, .inl (va_cpy f (fun _ => 0) 0 0 n)))])[Rz.length]? = some (b, .inl (cA 0, 6, .inl (va_cpy f (fun _ => 0) 0 0 n))) := fun _ => by simp
  refine x_aload_n C dL_thrown_14 rfl rfl ?_
  refine x_iload_n C dL_thrown_15 rfl rfl ?_
  refine x_aload_n C dL_thrown_16 rfl rfl ?_
  rcases hk with h9 | h9 | h9
  · subst h9
    refine x_tcatch (As := [.ref (ρ 13 0 0), .int w, .ref b]) (rest := []) C T9 (hM _ _ _ (xq_at 1)) rfl ⟨Nat.le_refl _, Nat.le_of_ble_eq_true rfl⟩ ⟨by show 1 + 9 ≤ 10; omega, by show 6 + 54 ≤ 60; omega⟩ rfl (Nat.le_of_ble_eq_true rfl) dL_thrown_17 hd_1 (fun q9 => ?_)
    refine x_astore (lv' := [(4, .ref q9), (3, .ref b), (0, .ref (ρ 13 0 0)), (1, .int w), (2, .ref a)]) C dL_thrown_33 (by decide) rfl ?_
    refine x_subl (List.sublist_append_left Rz _) ?_
    refine x_iconst (v := 1) C dL_thrown_35 (by decide) ?_
    exact x_iret C ⟨rfl, rfl, rfl⟩ (Nat.le_refl _) (Nat.le_refl _) dL_thrown_36
  · subst h9
    refine x_tcatch (As := [.ref (ρ 13 0 0), .int w, .ref b]) (rest := []) C T9 (hM _ _ _ (xq_at 1)) rfl ⟨Nat.le_refl _, Nat.le_of_ble_eq_true rfl⟩ ⟨by show 1 + 9 ≤ 10; omega, by show 6 + 54 ≤ 60; omega⟩ rfl (Nat.le_of_ble_eq_true rfl) dL_thrown_17 hd_2 (fun q9 => ?_)
    refine x_astore (lv' := [(4, .ref q9), (3, .ref b), (0, .ref (ρ 13 0 0)), (1, .int w), (2, .ref a)]) C dL_thrown_37 (by decide) rfl ?_
    refine x_subl (List.sublist_append_left Rz _) ?_
    refine x_iconst (v := 2) C dL_thrown_39 (by decide) ?_
    exact x_iret C ⟨rfl, rfl, rfl⟩ (Nat.le_refl _) (Nat.le_refl _) dL_thrown_40
  · subst h9
    refine x_tcatch (As := [.ref (ρ 13 0 0), .int w, .ref b]) (rest := []) C T9 (hM _ _ _ (xq_at 1)) rfl ⟨Nat.le_refl _, Nat.le_of_ble_eq_true rfl⟩ ⟨by show 1 + 9 ≤ 10; omega, by show 6 + 54 ≤ 60; omega⟩ rfl (Nat.le_of_ble_eq_true rfl) dL_thrown_17 hd_3 (fun q9 => ?_)
    refine x_astore (lv' := [(4, .ref q9), (3, .ref b), (0, .ref (ρ 13 0 0)), (1, .int w), (2, .ref a)]) C dL_thrown_41 (by decide) rfl ?_
    refine x_subl (List.sublist_append_left Rz _) ?_
    refine x_iconst (v := 3) C dL_thrown_43 (by decide) ?_
    exact x_iret C ⟨rfl, rfl, rfl⟩ (Nat.le_refl _) (Nat.le_refl _) dL_thrown_44
section X330c
variable {p : Program} {l : Launch} {e : Env} {R : Room} {s : State} {m : MethodId} {args : Array Value} {below : List Frame} {meth : Method} {c : Code} {cells slots : Nat} {Q : State → Prop} {ρ : bsR} {sc L : Nat} {xs : Nat → Int32} {cA : Nat → ClassId} {dC : Nat → ClassId} {dI : Nat → Nat → Nat} {A : Nat → Prop} {Rz Rz' : va_W} {nL : Nat} {cc : ByteArray} {Ts : List Cond} {own : String} {ret : Option FieldType} {pc : Nat} {lv : List (Nat × Value)} {st : List Value} {X : bsX} {B F T T' : va_W} {c1 s1 : Nat}
theorem ww_thrown : Cond.static yL_thrown ∈ bsG ∧ Cond.initialized yL_thrown.cls ∈ bsG ∧ Cond.codeWith yL_thrown cL_thrown 5 (some .int) [(14, 32, 33, 104), (14, 32, 37, 106), (14, 32, 41, 108)] ∈ bsG ∧ (yL_thrown.cls ≠ "java/lang/invoke/MethodHandle" ∧ yL_thrown.cls ≠ "java/lang/invoke/VarHandle") := ⟨bsG_in 1003 (by decide +kernel) rfl, bsG_in 37 (by decide +kernel) rfl, bsG_in 1004 (by decide +kernel) rfl, by decide +kernel, by decide +kernel⟩
theorem dpL_thrown : (parseMethodDescriptor yL_thrown.desc).map (fun d => d.parameters.length) = some 3 := by decide +kernel
theorem ml_L_110 : Cond.methodLink RL 110 yL_thrown ∈ bsG := bsG_in 1002 (by decide +kernel) rfl
/-- a call of 'thrown' with the temporary k0 as what is handed on -/
theorem xu_thrown (C : xCx p m c cc nL s args Ts RL ρ sc L xs cA dC dI A meth ret) (k0 : Nat) {a n k : Nat} {f : Nat → Int32} {w : Int32} {X' : bsX} {rest : List Value} (he : T[k0]? = some (a, .inl (cA 0, n, .inl f))) (hn : n ≤ 6) (hk : 0 < k ∧ k ≤ 3)
    (hM : ∀ (R2 : va_W) (q2 b : Nat), R2[q2]? = some (b, .inl (cA 0, 6, .inl (va_cpy f (fun _ => 0) 0 0 n))) → xTl l ρ sc L xs cA dC dI [.ref (ρ 13 0 0), .int w, .ref b] X R2 k X')
    (hR : 11 ≤ R.frames ∧ 8 + (5 + 11) + 300 ≤ R.locals) (hcs : cells + 10 ≤ R.cells ∧ slots + 60 ≤ R.slots) (hst : st = .ref a :: .int w :: .ref (ρ 13 0 0) :: rest) (hW : (rest.map fun v => v.category).sum ≤ 8) (hd : decode cc pc = .ok (.invokestatic 110, 3)) (kk : xV p l e R s m args below meth c (cells + 10) (slots + 60) Q ρ cA dC dI A (B ++ (F ++ T)) nL (pc + 3) lv (.int (nI k) :: rest) X') : xV p l e R s m args below meth c cells slots Q ρ cA dC dI A (B ++ (F ++ T)) nL pc lv st X := by
  intro ls H locs hl hP hD hS
  have W9 := fun w (h : w ∈ bsG) => C.1.2.2.2.2 w (C.2.2.1 w h)
  have hw := ww_thrown
  have hG : GoodIn Ts (Cond.codeWith yL_thrown cL_thrown 5 (some .int) [(14, 32, 33, 104), (14, 32, 37, 106), (14, 32, 41, 108)] :: bsG) := fun w hw2 => by
    have key : w ∈ bsG := by
      rcases List.mem_cons.mp hw2 with rfl | h
      · exact hw.2.2.1
      · exact h
    exact ⟨C.2.2.1 w key, bsG_good key⟩
  have hcw : vx_CSW R s args RL 110 yL_thrown cL_thrown 5 (some .int) [(14, 32, 33, 104), (14, 32, 37, 106), (14, 32, 41, 108)] (Cond.codeWith yL_thrown cL_thrown 5 (some .int) [(14, 32, 33, 104), (14, 32, 37, 106), (14, 32, 41, 108)] :: bsG) rmL_thrown rmL_thrown.cells rmL_thrown.slots 3 := by
    refine ⟨⟨rfl, rfl, hR.1, hR.2, pay_in C.1.2.2.2.2 hG, List.mem_cons_self⟩, W9 _ hw.2.2.1, W9 _ hw.2.1, hw.2.2.2, fun sig h => ?_, W9 _ ml_L_110, W9 _ hw.1⟩
    have h2 := dpL_thrown
    rw [h] at h2
    exact (Option.some.inj h2).symm
  have hM9 := cL_thrown_ok (l := l) (ρ := ρ) (sc := sc) (L := L) (xs := xs) (cA := cA) (dC := dC) (dI := dI) (Rz := B ++ (F ++ T)) ((xu_at B F T k0).trans he) hn (by omega) hM
  refine va_calli (vx_runSW (As := [.ref (ρ 13 0 0), .int w, .ref a]) (rest := rest) C.1 (hM9 H.size) hcw (x_pre C hP hD hS) rfl rfl hl.1 hst (lv_room hW) hd hcs) hS (fun q _ h => xA_sub C hD hS q h) (fun q h => xA_sub C hD hS q h) (fun r u t H1 locs1 ht hvm hr hB hz1 hk1 hS1 => ?_)
  obtain ⟨u1, u2⟩ := u
  obtain ⟨h1, h2, h3⟩ := hr
  have h1 : r = nI k := h1
  have h2 : u1 = X' := h2
  have h3 : u2 = B ++ (F ++ T) := h3
  subst h1 h2 h3
  exact x_back hl ht hB (xA_sub C hD hS) hS1 kk
end X330c
