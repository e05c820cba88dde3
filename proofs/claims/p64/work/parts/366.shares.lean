/-! BootSlotsLaw.shares -/
section XS
variable {p : Program} {l : Launch} {e : Env} {R : Room} {s : State} {m : MethodId} {args : Array Value} {below : List Frame} {meth : Method} {c : Code} {cells slots : Nat} {Q : State → Prop} {ρ : bsR} {sc L : Nat} {xs : Nat → Int32} {cA : Nat → ClassId} {dC : Nat → ClassId} {dI : Nat → Nat → Nat} {A : Nat → Prop} {Rz Rz' : va_W} {nL : Nat} {cc : ByteArray} {Ts : List Cond} {own : String} {ret : Option FieldType} {pc : Nat} {lv : List (Nat × Value)} {st : List Value} {X : bsX} {mc ms : Nat}
theorem x_fconst0 (C : xCx p m c cc nL s args Ts own ρ sc L xs cA dC dI A meth ret) (hd : decode cc pc = .ok (.fconst 0, 1)) (k : xV p l e R s m args below meth c cells slots Q ρ cA dC dI A Rz nL (pc + 1) lv (.float FP.fconst0 :: st) X) : xV p l e R s m args below meth c cells slots Q ρ cA dC dI A Rz nL pc lv st X := fun ls H locs hl hP hD hS => lv_fconst0 C.1.1 C.1.2.1 hd (k ls H locs hl hP hD hS)
theorem x_dconst0 (C : xCx p m c cc nL s args Ts own ρ sc L xs cA dC dI A meth ret) (hd : decode cc pc = .ok (.dconst 0, 1)) (k : xV p l e R s m args below meth c cells slots Q ρ cA dC dI A Rz nL (pc + 1) lv (.double FP.dconst0 :: st) X) : xV p l e R s m args below meth c cells slots Q ρ cA dC dI A Rz nL pc lv st X := fun ls H locs hl hP hD hS => lv_dconst0 C.1.1 C.1.2.1 hd (k ls H locs hl hP hD hS)
theorem x_i2f (C : xCx p m c cc nL s args Ts own ρ sc L xs cA dC dI A meth ret) {x : Int32} (hd : decode cc pc = .ok (.i2f, 1)) (k : xV p l e R s m args below meth c cells slots Q ρ cA dC dI A Rz nL (pc + 1) lv (.float (FP.i2f x) :: st) X) : xV p l e R s m args below meth c cells slots Q ρ cA dC dI A Rz nL pc lv (.int x :: st) X := fun ls H locs hl hP hD hS => lv_i2f C.1.1 C.1.2.1 hd (k ls H locs hl hP hD hS)
theorem x_i2d (C : xCx p m c cc nL s args Ts own ρ sc L xs cA dC dI A meth ret) {x : Int32} (hd : decode cc pc = .ok (.i2d, 1)) (k : xV p l e R s m args below meth c cells slots Q ρ cA dC dI A Rz nL (pc + 1) lv (.double (FP.i2d x) :: st) X) : xV p l e R s m args below meth c cells slots Q ρ cA dC dI A Rz nL pc lv (.int x :: st) X := fun ls H locs hl hP hD hS => lv_i2d C.1.1 C.1.2.1 hd (k ls H locs hl hP hD hS)
theorem x_fdiv (C : xCx p m c cc nL s args Ts own ρ sc L xs cA dC dI A meth ret) {x y : UInt32} (hd : decode cc pc = .ok (.fdiv, 1)) (hn : vf_n32 (FP.fdiv x y)) (k : xV p l e R s m args below meth c cells slots Q ρ cA dC dI A Rz nL (pc + 1) lv (.float (FP.fdiv x y) :: st) X) : xV p l e R s m args below meth c cells slots Q ρ cA dC dI A Rz nL pc lv (.float y :: .float x :: st) X := fun ls H locs hl hP hD hS => lv_fdiv C.1.1 C.1.2.1 hd hn (k ls H locs hl hP hD hS)
theorem x_ddiv (C : xCx p m c cc nL s args Ts own ρ sc L xs cA dC dI A meth ret) {x y : UInt64} (hd : decode cc pc = .ok (.ddiv, 1)) (hn : vf_n64 (FP.ddiv x y)) (k : xV p l e R s m args below meth c cells slots Q ρ cA dC dI A Rz nL (pc + 1) lv (.double (FP.ddiv x y) :: st) X) : xV p l e R s m args below meth c cells slots Q ρ cA dC dI A Rz nL pc lv (.double y :: .double x :: st) X := fun ls H locs hl hP hD hS => lv_ddiv C.1.1 C.1.2.1 hd hn (k ls H locs hl hP hD hS)
theorem x_fcmp (C : xCx p m c cc nL s args Ts own ρ sc L xs cA dC dI A meth ret) {x y : UInt32} {op : CmpOp} (hd : decode cc pc = .ok (.fcmp op, 1)) (k : xV p l e R s m args below meth c cells slots Q ρ cA dC dI A Rz nL (pc + 1) lv (.int (Op.cmpValue (FP.fcmp x y) op) :: st) X) : xV p l e R s m args below meth c cells slots Q ρ cA dC dI A Rz nL pc lv (.float y :: .float x :: st) X := fun ls H locs hl hP hD hS => lv_fcmp C.1.1 C.1.2.1 hd (k ls H locs hl hP hD hS)
theorem x_dcmp (C : xCx p m c cc nL s args Ts own ρ sc L xs cA dC dI A meth ret) {x y : UInt64} {op : CmpOp} (hd : decode cc pc = .ok (.dcmp op, 1)) (k : xV p l e R s m args below meth c cells slots Q ρ cA dC dI A Rz nL (pc + 1) lv (.int (Op.cmpValue (FP.dcmp x y) op) :: st) X) : xV p l e R s m args below meth c cells slots Q ρ cA dC dI A Rz nL pc lv (.double y :: .double x :: st) X := fun ls H locs hl hP hD hS => lv_dcmp C.1.1 C.1.2.1 hd (k ls H locs hl hP hD hS)
theorem x_dstore_n (C : xCx p m c cc nL s args Ts own ρ sc L xs cA dC dI A meth ret) {k : Fin 4} {i : Nat} {x : UInt64} {lv' : List (Nat × Value)} (hd : decode cc pc = .ok (.dstore_n k, 1)) (hi : (k : Nat) = i) (hn : i + 1 < nL) (hx : (i, Value.double x) :: lv.filter (fun q => !(q.1 == i) && (!(q.1 == i + 1) && !(q.1 + 1 == i && q.2.category == 2))) = lv') (k : xV p l e R s m args below meth c cells slots Q ρ cA dC dI A Rz nL (pc + 1) lv' st X) : xV p l e R s m args below meth c cells slots Q ρ cA dC dI A Rz nL pc lv (Value.double x :: st) X := fun ls H locs hl hP hD hS => lv_dstore_n C.1.1 C.1.2.1 hd hi hl hn hx (fun ls hl => k ls H locs hl hP hD hS)
theorem x_callTf (C : xCx p m c cc nL s args Ts own ρ sc L xs cA dC dI A meth ret) {y : MethodName} {b : ByteArray} {nL' index : Nat} {ret' : Option FieldType} {rm' : Room} {As rest : List Value} {g K j ci N : Nat} {fs : List Value} {T : u_T} {r : Nat × UInt32 × bsX} (hM : bsTf l y b nL' ret' rm' ρ cA dC dI Rz (.ref (ρ g K j) :: As) X r) (h0 : r.1 = 0) (hl0 : Cond.methodLink own index y ∈ bsG) (hw : bsWy y b nL' ret') (hk : (g, K, j) ∈ bsKeys) (hc : bsCell ρ cA g K j (X g K j) = .inr (ci, fs)) (hci : vwCl[ci]? = some (y.cls, T, N)) (hde : (parseMethodDescriptor y.desc).map (fun d => d.parameters.length) = some As.length)
    (hR : rm'.frames + 1 ≤ R.frames ∧ 8 + (nL' + 11) + rm'.locals ≤ R.locals) (hcs : cells + rm'.cells ≤ R.cells ∧ slots + rm'.slots ≤ R.slots) (hst : st = As.reverse ++ .ref (ρ g K j) :: rest) (hW : (rest.map fun v => v.category).sum ≤ 8) (hd : decode cc pc = .ok (.invokevirtual index, 3))
    (kk : xV p l e R s m args below meth c (cells + rm'.cells) (slots + rm'.slots) Q ρ cA dC dI A Rz nL (pc + 3) lv (.float r.2.1 :: rest) r.2.2) : xV p l e R s m args below meth c cells slots Q ρ cA dC dI A Rz nL pc lv st X := by
  intro ls H locs hl hP hD hS
  obtain ⟨q0, -, hq⟩ := bsWs_at hk
  have hpre := x_preB (As := .ref (ρ g K j) :: As) C hP hD hS
  refine vx_callf (vx_runV (As := As) (rest := rest) C.1 (hM H.size) (cwV As.length C.1.2.2.2.2 (bs_goodV C.2.2.1 hl0 hw) rfl rfl rfl ⟨rfl, hw.2.2.2.2.1, hw.2.2.2.2.2, hde⟩ hR) ⟨hpre.1, va_recv C.2.1 hP hci ((hq ρ cA X Rz).trans (by rw [hc])), hpre.2⟩ rfl rfl hl.1 hst (lv_room hW) hd hcs) hS (fun q _ h => xA_sub C hD hS q h) (fun q h => xA_sub C hD hS q h) (fun q _ h => xA_sub C hD hS q h) (fun E ce q9 u t H1 locs1 ht hvm hp hB hz1 hk1 hS1 hc1 hc2 hc3 => ?_) (fun r1 u t H1 locs1 ht hvm hr hB hz1 hk1 hS1 => ?_)
  · obtain ⟨⟨h9, hE⟩, hBw⟩ := hB
    omega
  · obtain ⟨h9, hr1⟩ := hr
    subst hr1
    exact x_backB hl ht hB hD hS1 kk
theorem x_callTd (C : xCx p m c cc nL s args Ts own ρ sc L xs cA dC dI A meth ret) {y : MethodName} {b : ByteArray} {nL' index : Nat} {ret' : Option FieldType} {rm' : Room} {As rest : List Value} {g K j ci N : Nat} {fs : List Value} {T : u_T} {r : Nat × UInt64 × bsX} (hM : bsTd l y b nL' ret' rm' ρ cA dC dI Rz (.ref (ρ g K j) :: As) X r) (h0 : r.1 = 0) (hl0 : Cond.methodLink own index y ∈ bsG) (hw : bsWy y b nL' ret') (hk : (g, K, j) ∈ bsKeys) (hc : bsCell ρ cA g K j (X g K j) = .inr (ci, fs)) (hci : vwCl[ci]? = some (y.cls, T, N)) (hde : (parseMethodDescriptor y.desc).map (fun d => d.parameters.length) = some As.length)
    (hR : rm'.frames + 1 ≤ R.frames ∧ 8 + (nL' + 11) + rm'.locals ≤ R.locals) (hcs : cells + rm'.cells ≤ R.cells ∧ slots + rm'.slots ≤ R.slots) (hst : st = As.reverse ++ .ref (ρ g K j) :: rest) (hW : (rest.map fun v => v.category).sum ≤ 8) (hd : decode cc pc = .ok (.invokevirtual index, 3))
    (kk : xV p l e R s m args below meth c (cells + rm'.cells) (slots + rm'.slots) Q ρ cA dC dI A Rz nL (pc + 3) lv (.double r.2.1 :: rest) r.2.2) : xV p l e R s m args below meth c cells slots Q ρ cA dC dI A Rz nL pc lv st X := by
  intro ls H locs hl hP hD hS
  obtain ⟨q0, -, hq⟩ := bsWs_at hk
  have hpre := x_preB (As := .ref (ρ g K j) :: As) C hP hD hS
  refine vx_calld (vx_runV (As := As) (rest := rest) C.1 (hM H.size) (cwV As.length C.1.2.2.2.2 (bs_goodV C.2.2.1 hl0 hw) rfl rfl rfl ⟨rfl, hw.2.2.2.2.1, hw.2.2.2.2.2, hde⟩ hR) ⟨hpre.1, va_recv C.2.1 hP hci ((hq ρ cA X Rz).trans (by rw [hc])), hpre.2⟩ rfl rfl hl.1 hst (lv_room hW) hd hcs) hS (fun q _ h => xA_sub C hD hS q h) (fun q h => xA_sub C hD hS q h) (fun q _ h => xA_sub C hD hS q h) (fun E ce q9 u t H1 locs1 ht hvm hp hB hz1 hk1 hS1 hc1 hc2 hc3 => ?_) (fun r1 u t H1 locs1 ht hvm hr hB hz1 hk1 hS1 => ?_)
  · obtain ⟨⟨h9, hE⟩, hBw⟩ := hB
    omega
  · obtain ⟨h9, hr1⟩ := hr
    subst hr1
    exact x_backB hl ht hB hD hS1 kk
end XS
def hL_shares (X : bsX) (Z : pY) : Option (Int32 × bsX × pY) := (fX8_successShare X).bind fun r => if r.1 = 0 then (if Op.cmpValue (FP.fcmp r.2.1 (fzF (Z 11 0 17) (Z 11 0 13))) .l = 0 then ((fX8_meanBoot r.2.2).bind fun q => if q.1 = 0 then (if Op.cmpValue (FP.dcmp q.2.1 (fzD (Z 0 0 9) (Z 11 0 12))) .l = 0 then some ((1 : Int32), q.2.2, Z) else some ((0 : Int32), q.2.2, Z)) else none) else some ((0 : Int32), r.2.2, Z)) else none
abbrev rmL_shares : Room := { frames := 8, cells := 2, slots := 12, locals := 140 }
set_option maxHeartbeats 4000000 in
set_option maxRecDepth 100000 in
theorem cL_shares_ok {l : Launch} {ρ : bsR} {sc L : Nat} {xs : Nat → Int32} {cA : Nat → ClassId} {dC : Nat → ClassId} {dI : Nat → Nat → Nat} {σ θ : xA2} {F : va_W} (hst : l.stackTraces = false) {X : bsX} {Z : pY} {z : (Int32 × bsX × pY)} (hf : hL_shares X Z = some z) : xMi l yL_shares cL_shares 5 (some .boolean) rmL_shares ρ sc L xs cA dC dI [.ref (ρ 13 0 0), .ref (σ 0 0)] X (lwWs σ θ cA Z ++ F) (fun r X' R' => r = z.1 ∧ X' = z.2.1 ∧ ∃ θ' : xA2, R' = lwWs σ θ' cA z.2.2 ++ F) := by
  refine xMi_of (by decide +kernel) (Nat.le_of_ble_eq_true rfl) (fun p e s m args below meth c C => ?_)
  have C : xCx p m c cL_shares 5 s args (Cond.code yL_shares cL_shares 5 (some .boolean) :: bsG) RL ρ sc L xs cA dC dI (bsA ρ cA (lwWs σ θ cA Z ++ F) s.heap.size) meth (some .boolean) := C
  rw [hL_shares] at hf
  refine x_sub [0, 1] rfl ?_
  have hF1 : xV p l e rmL_shares s m args below meth c 0 0 (MQ below (xQi ρ cA dC dI (bsA ρ cA (lwWs σ θ cA Z ++ F) s.heap.size) (fun r X' R' => r = z.1 ∧ X' = z.2.1 ∧ ∃ θ' : xA2, R' = lwWs σ θ' cA z.2.2 ++ F)) args s rmL_shares.cells rmL_shares.slots (bsA ρ cA (lwWs σ θ cA Z ++ F) s.heap.size)) ρ cA dC dI (bsA ρ cA (lwWs σ θ cA Z ++ F) s.heap.size) (lwWs σ θ cA Z ++ F) 5 31 [(0, .ref (ρ 13 0 0)), (1, .ref (σ 0 0))] [.float (fzF (Z 11 0 17) (Z 11 0 13))] X := by
    refine x_fstore_n (lv' := [(2, .float (fzF (Z 11 0 17) (Z 11 0 13))), (0, .ref (ρ 13 0 0)), (1, .ref (σ 0 0))]) C dL_shares_31 rfl (by decide) rfl ?_
    have hF2 : xV p l e rmL_shares s m args below meth c 0 0 (MQ below (xQi ρ cA dC dI (bsA ρ cA (lwWs σ θ cA Z ++ F) s.heap.size) (fun r X' R' => r = z.1 ∧ X' = z.2.1 ∧ ∃ θ' : xA2, R' = lwWs σ θ' cA z.2.2 ++ F)) args s rmL_shares.cells rmL_shares.slots (bsA ρ cA (lwWs σ θ cA Z ++ F) s.heap.size)) ρ cA dC dI (bsA ρ cA (lwWs σ θ cA Z ++ F) s.heap.size) (lwWs σ θ cA Z ++ F) 5 60 [(2, .float (fzF (Z 11 0 17) (Z 11 0 13))), (0, .ref (ρ 13 0 0)), (1, .ref (σ 0 0))] [.double (fzD (Z 0 0 9) (Z 11 0 12))] X := by
      refine x_dstore_n (lv' := [(3, .double (fzD (Z 0 0 9) (Z 11 0 12))), (2, .float (fzF (Z 11 0 17) (Z 11 0 13))), (0, .ref (ρ 13 0 0)), (1, .ref (σ 0 0))]) C dL_shares_60 rfl (by decide) rfl ?_
      obtain ⟨r, hc1, hf⟩ := bs_bind hf
      obtain ⟨h1, hf⟩ := bs_if hf
      refine x_aload_n C dL_shares_61 rfl rfl ?_
      refine x_callTf (y := yX8_successShare) (As := []) (rest := []) C (cX8_successShare_ok hst hc1) h1 mlL_331 wyX8_successShare bsm_X8 bsc_X8 rfl dpX8_successShare ⟨Nat.le_of_ble_eq_true rfl, Nat.le_of_ble_eq_true rfl⟩ ⟨Nat.le_of_ble_eq_true rfl, Nat.le_of_ble_eq_true rfl⟩ rfl (Nat.le_of_ble_eq_true rfl) dL_shares_62 ?_
      refine x_fload_n C dL_shares_65 rfl rfl ?_
      refine x_fcmp C dL_shares_66 ?_
      refine x_if_ne (tgt := 83) C dL_shares_67 (by decide) (fun h2 => ?_) (fun h2 => ?_)
      · rw [if_neg h2] at hf
        obtain rfl := Option.some.inj hf
        refine x_iconst (v := 0) C dL_shares_83 (by decide) ?_
        exact x_xret C rfl ⟨rfl, rfl, θ, rfl⟩ (Nat.le_of_ble_eq_true rfl) (Nat.le_of_ble_eq_true rfl) dL_shares_84
      · skip
        rw [if_pos h2] at hf
        obtain ⟨q, hc2, hf⟩ := bs_bind hf
        obtain ⟨h3, hf⟩ := bs_if hf
        refine x_aload_n C dL_shares_70 rfl rfl ?_
        refine x_callTd (y := yX8_meanBoot) (As := []) (rest := []) C (cX8_meanBoot_ok hst hc2) h3 mlL_335 wyX8_meanBoot bsm_X8 bsc_X8 rfl dpX8_meanBoot ⟨Nat.le_of_ble_eq_true rfl, Nat.le_of_ble_eq_true rfl⟩ ⟨Nat.le_of_ble_eq_true rfl, Nat.le_of_ble_eq_true rfl⟩ rfl (Nat.le_of_ble_eq_true rfl) dL_shares_71 ?_
        refine x_dload_n C dL_shares_74 rfl rfl ?_
        refine x_dcmp C dL_shares_75 ?_
        refine x_if_ne (tgt := 83) C dL_shares_76 (by decide) (fun h4 => ?_) (fun h4 => ?_)
        · rw [if_neg h4] at hf
          obtain rfl := Option.some.inj hf
          refine x_iconst (v := 0) C dL_shares_83 (by decide) ?_
          exact x_xret C rfl ⟨rfl, rfl, θ, rfl⟩ (Nat.le_of_ble_eq_true rfl) (Nat.le_of_ble_eq_true rfl) dL_shares_84
        · skip
          rw [if_pos h4] at hf
          obtain rfl := Option.some.inj hf
          refine x_iconst (v := 1) C dL_shares_79 (by decide) ?_
          refine x_goto (tgt := 84) C dL_shares_80 (by decide) ?_
          exact x_xret C rfl ⟨rfl, rfl, θ, rfl⟩ (Nat.le_of_ble_eq_true rfl) (Nat.le_of_ble_eq_true rfl) dL_shares_84
    refine x_aload_n C dL_shares_32 rfl rfl ?_
    refine xg_L_160 C dL_shares_33 ?_
    refine x_bipush (v := 12) C dL_shares_36 (by decide) ?_
    refine xl_cnt C (by decide) dL_shares_38 ?_
    refine x_if_ne (tgt := 46) C dL_shares_39 (by decide) (fun h2 => ?_) (fun h2 => ?_)
    · have h2 : ¬ Z 11 0 12 = 0 := h2
      unfold fzD at hF2
      rw [if_neg h2] at hF2
      refine x_aload_n C dL_shares_46 rfl rfl ?_
      refine xg_L_133 C dL_shares_47 ?_
      refine x_i2d C dL_shares_50 ?_
      refine x_aload_n C dL_shares_51 rfl rfl ?_
      refine xg_L_160 C dL_shares_52 ?_
      refine x_bipush (v := 12) C dL_shares_55 (by decide) ?_
      refine xl_cnt C (by decide) dL_shares_57 ?_
      refine x_i2d C dL_shares_58 ?_
      refine x_ddiv C dL_shares_59 (fz_ddiv h2).1 ?_
      exact hF2
    · have h2 : Z 11 0 12 = 0 := h2
      unfold fzD at hF2
      rw [if_pos h2] at hF2
      refine x_dconst0 C dL_shares_42 ?_
      refine x_goto (tgt := 60) C dL_shares_43 (by decide) ?_
      exact hF2
  refine x_aload_n C dL_shares_0 rfl rfl ?_
  refine xg_L_160 C dL_shares_1 ?_
  refine x_bipush (v := 13) C dL_shares_4 (by decide) ?_
  refine xl_cnt C (by decide) dL_shares_6 ?_
  refine x_if_ne (tgt := 14) C dL_shares_7 (by decide) (fun h2 => ?_) (fun h2 => ?_)
  · have h2 : ¬ Z 11 0 13 = 0 := h2
    unfold fzF at hF1
    rw [if_neg h2] at hF1
    refine x_aload_n C dL_shares_14 rfl rfl ?_
    refine xg_L_160 C dL_shares_15 ?_
    refine x_bipush (v := 17) C dL_shares_18 (by decide) ?_
    refine xl_cnt C (by decide) dL_shares_20 ?_
    refine x_i2f C dL_shares_21 ?_
    refine x_aload_n C dL_shares_22 rfl rfl ?_
    refine xg_L_160 C dL_shares_23 ?_
    refine x_bipush (v := 13) C dL_shares_26 (by decide) ?_
    refine xl_cnt C (by decide) dL_shares_28 ?_
    refine x_i2f C dL_shares_29 ?_
    refine x_fdiv C dL_shares_30 (fz_fdiv h2).1 ?_
    exact hF1
  · have h2 : Z 11 0 13 = 0 := h2
    unfold fzF at hF1
    rw [if_pos h2] at hF1
    refine x_fconst0 C dL_shares_10 ?_
    refine x_goto (tgt := 31) C dL_shares_11 (by decide) ?_
    exact hF1
