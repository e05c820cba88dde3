/-! METHODS THAT ANSWER a float or a double -/
section BSF
variable {p : Program} {l : Launch} {e : Env} {R : Room} {s : State} {m : MethodId} {args : Array Value} {below : List Frame} {meth : Method} {c : Code} {cells slots : Nat} {Q : State → Prop} {ρ : bsR} {cA : Nat → ClassId} {dC : Nat → ClassId} {dI : Nat → Nat → Nat} {Rz : va_W} {nL : Nat} {cc : ByteArray} {Ts : List Cond} {own : String} {ret : Option FieldType} {pc : Nat} {lv : List (Nat × Value)} {st : List Value} {X : bsX} {mc ms : Nat} {lo lo1 : Int64} {od od1 : UInt64}
theorem v_fconst0 (C : bsCx p m c cc nL s args Ts own ρ cA dC dI Rz meth ret) (hd : decode cc pc = .ok (.fconst 0, 1)) (k : bsV p l e R s m args below meth c cells slots Q ρ cA dC dI Rz nL (pc + 1) lv (.float FP.fconst0 :: st) X) : bsV p l e R s m args below meth c cells slots Q ρ cA dC dI Rz nL pc lv st X := fun ls H locs hl hP hD hS => lv_fconst0 C.1.1 C.1.2.1 hd (k ls H locs hl hP hD hS)
theorem v_dconst0 (C : bsCx p m c cc nL s args Ts own ρ cA dC dI Rz meth ret) (hd : decode cc pc = .ok (.dconst 0, 1)) (k : bsV p l e R s m args below meth c cells slots Q ρ cA dC dI Rz nL (pc + 1) lv (.double FP.dconst0 :: st) X) : bsV p l e R s m args below meth c cells slots Q ρ cA dC dI Rz nL pc lv st X := fun ls H locs hl hP hD hS => lv_dconst0 C.1.1 C.1.2.1 hd (k ls H locs hl hP hD hS)
theorem v_i2f (C : bsCx p m c cc nL s args Ts own ρ cA dC dI Rz meth ret) {x : Int32} (hd : decode cc pc = .ok (.i2f, 1)) (k : bsV p l e R s m args below meth c cells slots Q ρ cA dC dI Rz nL (pc + 1) lv (.float (FP.i2f x) :: st) X) : bsV p l e R s m args below meth c cells slots Q ρ cA dC dI Rz nL pc lv (.int x :: st) X := fun ls H locs hl hP hD hS => lv_i2f C.1.1 C.1.2.1 hd (k ls H locs hl hP hD hS)
theorem v_i2d (C : bsCx p m c cc nL s args Ts own ρ cA dC dI Rz meth ret) {x : Int32} (hd : decode cc pc = .ok (.i2d, 1)) (k : bsV p l e R s m args below meth c cells slots Q ρ cA dC dI Rz nL (pc + 1) lv (.double (FP.i2d x) :: st) X) : bsV p l e R s m args below meth c cells slots Q ρ cA dC dI Rz nL pc lv (.int x :: st) X := fun ls H locs hl hP hD hS => lv_i2d C.1.1 C.1.2.1 hd (k ls H locs hl hP hD hS)
theorem v_fdiv (C : bsCx p m c cc nL s args Ts own ρ cA dC dI Rz meth ret) {x y : UInt32} (hd : decode cc pc = .ok (.fdiv, 1)) (hn : vf_n32 (FP.fdiv x y)) (k : bsV p l e R s m args below meth c cells slots Q ρ cA dC dI Rz nL (pc + 1) lv (.float (FP.fdiv x y) :: st) X) : bsV p l e R s m args below meth c cells slots Q ρ cA dC dI Rz nL pc lv (.float y :: .float x :: st) X := fun ls H locs hl hP hD hS => lv_fdiv C.1.1 C.1.2.1 hd hn (k ls H locs hl hP hD hS)
theorem v_ddiv (C : bsCx p m c cc nL s args Ts own ρ cA dC dI Rz meth ret) {x y : UInt64} (hd : decode cc pc = .ok (.ddiv, 1)) (hn : vf_n64 (FP.ddiv x y)) (k : bsV p l e R s m args below meth c cells slots Q ρ cA dC dI Rz nL (pc + 1) lv (.double (FP.ddiv x y) :: st) X) : bsV p l e R s m args below meth c cells slots Q ρ cA dC dI Rz nL pc lv (.double y :: .double x :: st) X := fun ls H locs hl hP hD hS => lv_ddiv C.1.1 C.1.2.1 hd hn (k ls H locs hl hP hD hS)
theorem bs_outXg (C : bsCx p m c cc nL s args Ts own ρ cA dC dI Rz meth ret) (T0 : ∀ x ∈ c.exceptionTable.toList, False) {Qc : Array Value → State → Outcome → State → Prop} {r z : bsXr} {E : String} {ce : Cell} {q9 : Addr} {t0 : State} {H1 : Heap} {locs1 : List Loc} {ls : Array Slot} (ht : t0.heap = H1) (hB : (0 < r.1 ∧ E = bsEn r.1) ∧ bsWp ρ cA dC dI Rz r.2.2 t0) (hS : va_S (bsA ρ cA Rz s.heap.size) s.heap H1 locs1) (hcell : H1[q9]? = some ce) (hv : ce.vm = .none) (hcl : s.vm.findClass E = some ce.cls) (hx : ¬ r.1 = 0 → some (r.1, (0 : Int32), r.2.2) = some z) (h1 : cells ≤ mc) (h2 : slots ≤ ms) :
    vx_W p l e R s m args below meth c H1 locs1 cells slots (vx_MQ below Qc (bsXX ρ cA dC dI Rz z s.heap.size) args s mc ms (bsA ρ cA Rz s.heap.size)) (F0 m pc ls st) q9 := by
  obtain ⟨⟨h0, hE⟩, hP1, -, hD1, -⟩ := hB
  rw [ht] at hP1
  have hz := hx (by omega)
  cases hz
  exact bs_out (fun x hx => (T0 x hx).elim) C.2.2.2.2.1 hcell hv hcl (fun t htH hW => ⟨(), trivial, ⟨⟨h0, hE⟩, bsWp_end C hP1 (bsD_self _ hD1) hS htH hW⟩, hS.F htH⟩) hS.2.2 h1 h2
theorem v_gcallVv (C : bsCx p m c cc nL s args Ts own ρ cA dC dI Rz meth ret) (T0 : ∀ x ∈ c.exceptionTable.toList, False) {y : MethodName} {b : ByteArray} {nL' index : Nat} {ret' : Option FieldType} {rm' : Room} {As rest : List Value} {g K j ci N : Nat} {fs : List Value} {T : u_T} {Qc : Array Value → State → Outcome → State → Prop} {r z : bsXr} (hM : bsTv l y b nL' ret' rm' ρ cA dC dI Rz (.ref (ρ g K j) :: As) X r)
    (hl0 : Cond.methodLink own index y ∈ bsG) (hw : bsWy y b nL' ret') (hk : (g, K, j) ∈ bsKeys) (hc : bsCell ρ cA g K j (X g K j) = .inr (ci, fs)) (hci : vwCl[ci]? = some (y.cls, T, N)) (hde : (parseMethodDescriptor y.desc).map (fun d => d.parameters.length) = some As.length)
    (hR : rm'.frames + 1 ≤ R.frames ∧ 8 + (nL' + 11) + rm'.locals ≤ R.locals) (hcs : cells + rm'.cells ≤ R.cells ∧ slots + rm'.slots ≤ R.slots) (h1 : cells + rm'.cells ≤ mc) (h2 : slots + rm'.slots ≤ ms) (hst : st = As.reverse ++ .ref (ρ g K j) :: rest) (hW : (rest.map fun v => v.category).sum ≤ 8) (hd : decode cc pc = .ok (.invokevirtual index, 3)) (hx : ¬ r.1 = 0 → some (r.1, (0 : Int32), r.2.2) = some z)
    (kk : r.1 = 0 → bsV p l e R s m args below meth c (cells + rm'.cells) (slots + rm'.slots) (vx_MQ below Qc (bsXX ρ cA dC dI Rz z s.heap.size) args s mc ms (bsA ρ cA Rz s.heap.size)) ρ cA dC dI Rz nL (pc + 3) lv rest r.2.2) : bsV p l e R s m args below meth c cells slots (vx_MQ below Qc (bsXX ρ cA dC dI Rz z s.heap.size) args s mc ms (bsA ρ cA Rz s.heap.size)) ρ cA dC dI Rz nL pc lv st X := by
  intro ls H locs hl hP hD hS
  obtain ⟨q0, -, hq⟩ := bsWs_at hk
  have hpre := bs_pre (As := .ref (ρ g K j) :: As) C hP hD hS
  refine vx_callv (vx_runV (As := As) (rest := rest) C.1 (hM H.size) (cwV As.length C.1.2.2.2.2 (bs_goodV C.2.2.1 hl0 hw) rfl rfl rfl ⟨rfl, hw.2.2.2.2.1, hw.2.2.2.2.2, hde⟩ hR) ⟨hpre.1, va_recv C.2.1 hP hci ((hq ρ cA X Rz).trans (by rw [hc])), hpre.2⟩ rfl rfl hl.1 hst (lv_room hW) hd hcs) hS (fun q _ h => bsA_mono hS.1 h) (fun q h => bsA_mono hS.1 h) (fun q _ h => bsA_mono hS.1 h) (fun E ce q9 u t H1 locs1 ht hvm hp hB hz1 hk1 hS1 hc1 hc2 hc3 => ?_) (fun u t H1 locs1 ht hvm hr hB hz1 hk1 hS1 => ?_)
  · exact bs_outXg C T0 ht hB hS1 hc1 hc2 hc3 hx h1 h2
  · skip
    exact bs_back hl ht hB hS1 (kk hr)
end BSF
def bsXQf (ρ : bsR) (cA : Nat → ClassId) (dC : Nat → ClassId) (dI : Nat → Nat → Nat) (Rz : va_W) (z : Nat × UInt32 × bsX) (sz : Nat) : Array Value → State → Outcome → State → Prop := va_Qf (fun (r : UInt32) (_ : Unit) => z.1 = 0 ∧ r = z.2.1) (fun _ t => bsWp ρ cA dC dI Rz z.2.2 t) (bsA ρ cA Rz sz)
def bsTf (l : Launch) (y : MethodName) (b : ByteArray) (nL : Nat) (ret : Option FieldType) (rm : Room) (ρ : bsR) (cA : Nat → ClassId) (dC : Nat → ClassId) (dI : Nat → Nat → Nat) (Rz : va_W) (As : List Value) (X : bsX) (z : Nat × UInt32 × bsX) : Prop :=
  ∀ sz : Nat, vx_Met l y (Cond.code y b nL ret :: bsG) rm (va_Pc As (fun U => U.heap.size = sz ∧ bsWp ρ cA dC dI Rz X U)) (bsXQf ρ cA dC dI Rz z sz) (bsXX ρ cA dC dI Rz (z.1, (0 : Int32), z.2.2) sz) rm.cells rm.slots (bsA ρ cA Rz sz)
theorem bsTf_of {l : Launch} {y : MethodName} {b : ByteArray} {nL : Nat} {ret : Option FieldType} {rm : Room} {ρ : bsR} {cA : Nat → ClassId} {dC : Nat → ClassId} {dI : Nat → Nat → Nat} {Rz : va_W} {As : List Value} {X : bsX} {z : Nat × UInt32 × bsX} (hy : plainName y.cls = true) (hlen : (lg_sl As).length ≤ nL)
    (body : ∀ (p : Program) (e : Env) (s : State) (m : MethodId) (args : Array Value) (below : List Frame) (meth : Method) (c : Code), bsCx p m c b nL s args (Cond.code y b nL ret :: bsG) y.cls ρ cA dC dI Rz meth ret → (∀ x ∈ c.exceptionTable.toList, False) →
      bsV p l e rm s m args below meth c 0 0 (vx_MQ below (bsXQf ρ cA dC dI Rz z s.heap.size) (bsXX ρ cA dC dI Rz (z.1, (0 : Int32), z.2.2) s.heap.size) args s rm.cells rm.slots (bsA ρ cA Rz s.heap.size)) ρ cA dC dI Rz nL 0 (lv_args 0 As) [] X) : bsTf l y b nL ret rm ρ cA dC dI Rz As X z := by
  intro sz
  refine vx_ofW (cc := b) (maxL := nL) (ret := ret) hy rfl ?_
  intro p e s m args below meth c s₁ B hml ht hv
  obtain ⟨rfl, hsz, hP, hK, hD0, hN, hE⟩ := hv
  subst hsz
  have hts := atoms_spec (ws := Cond.code y b nL ret :: bsG) B.pre
  have hown : s.vm.findClass y.cls = some m.cls := findClass_of_methodNamed B.named
  have hl := lv_entry As hlen
  rw [lg_entry_eq]
  exact body p e s m _ below meth c ⟨⟨B.exec, B.bytes, hml, hown, hts⟩, hK, fun w h => List.mem_cons_of_mem _ h, ⟨hN, hE⟩, B.notSynchronized, B.returns⟩ ht _ _ _ hl hP (bsD_self _ hD0) va_S.rf
section BSF2
variable {p : Program} {l : Launch} {e : Env} {R : Room} {s : State} {m : MethodId} {args : Array Value} {below : List Frame} {meth : Method} {c : Code} {cells slots : Nat} {Q : State → Prop} {ρ : bsR} {cA : Nat → ClassId} {dC : Nat → ClassId} {dI : Nat → Nat → Nat} {Rz : va_W} {nL : Nat} {cc : ByteArray} {Ts : List Cond} {own : String} {ret : Option FieldType} {pc : Nat} {lv : List (Nat × Value)} {st : List Value} {X : bsX} {mc ms : Nat} {lo lo1 : Int64} {od od1 : UInt64}
theorem v_tfret (C : bsCx p m c cc nL s args Ts own ρ cA dC dI Rz meth (some .float)) {v : UInt32} {z : Nat × UInt32 × bsX} (hz : some (0, v, X) = some z) (h1 : cells ≤ mc) (h2 : slots ≤ ms) (hd : decode cc pc = .ok (.freturn, 1)) : bsV p l e R s m args below meth c cells slots (vx_MQ below (bsXQf ρ cA dC dI Rz z s.heap.size) (bsXX ρ cA dC dI Rz (z.1, (0 : Int32), z.2.2) s.heap.size) args s mc ms (bsA ρ cA Rz s.heap.size)) ρ cA dC dI Rz nL pc lv [.float v] X := by
  intro ls H locs hl hP hD hS
  cases hz
  refine W.widen h1 h2 (vx_ret ?_)
  exact W.fret (v := v) C.1.1 C.1.2.1 C.2.2.2.2.2 (fun t ht hW => ⟨⟨v, (), rfl, ⟨rfl, rfl⟩, bsWp_end (locs := locs) C hP hD hS ht hW⟩, hS.F ht⟩) hS.2.2 hd C.2.2.2.2.1
end BSF2
def fX8_successShare (X : bsX) : Option (Nat × UInt32 × bsX) := if X 13 0 0 7 = 0 then some (1, FP.fconst0, X) else some (0, fzF (X 0 4 0 4) (X 0 4 0 0), X)
abbrev rmX8_successShare : Room := { frames := 7, cells := 1, slots := 6, locals := 110 }
theorem mlL_331 : Cond.methodLink RL 331 yX8_successShare ∈ bsG := bsG_in 1617 (by decide +kernel) rfl
theorem wyX8_successShare : bsWy yX8_successShare cX8_successShare 1 (some .float) := ⟨bsG_in 1618 (by decide +kernel) rfl, bsG_in 1619 (by decide +kernel) rfl, bsG_in 52 (by decide +kernel) rfl, bsG_in 1620 (by decide +kernel) rfl, by decide +kernel, by decide +kernel⟩
theorem dpX8_successShare : (parseMethodDescriptor yX8_successShare.desc).map (fun d => d.parameters.length) = some 0 := by decide +kernel
set_option maxHeartbeats 4000000 in
set_option maxRecDepth 100000 in
theorem cX8_successShare_ok {l : Launch} {ρ : bsR} {cA : Nat → ClassId} {dC : Nat → ClassId} {dI : Nat → Nat → Nat} {Rz : va_W} (hst : l.stackTraces = false) {X : bsX} {z : Nat × UInt32 × bsX} (hf : fX8_successShare X = some z) : bsTf l yX8_successShare cX8_successShare 1 (some .float) rmX8_successShare ρ cA dC dI Rz [.ref (ρ 13 0 0)] X z := by
  refine bsTf_of (by decide) (Nat.le_of_ble_eq_true rfl) (fun p e s m args below meth c C T0 => ?_)
  have C : bsCx p m c cX8_successShare 1 s args (Cond.code yX8_successShare cX8_successShare 1 (some .float) :: bsG) RX8 ρ cA dC dI Rz meth (some .float) := C
  refine v_sub [0] rfl ?_
  refine v_aload_n C dX8_successShare_0 rfl rfl ?_
  have hc1 : fX8_requireLoaded X = some ((if X 13 0 0 7 = 0 then 1 else 0), (0 : Int32), X) := by
    unfold fX8_requireLoaded
    by_cases h : X 13 0 0 7 = 0
    · rw [if_pos h, if_pos h]
    · rw [if_neg h, if_neg h]
  have n10 : ¬ (1 : Nat) = 0 := by decide
  refine v_gcallVv (y := yX8_requireLoaded) (As := []) (rest := []) (z := (z.1, (0 : Int32), z.2.2)) C T0 (cX8_requireLoaded_ok hst hc1) ml_X8_82 wyX8_requireLoaded (bsm_X8) (bsc_X8) rfl dpX8_requireLoaded ⟨Nat.le_of_ble_eq_true rfl, Nat.le_of_ble_eq_true rfl⟩ ⟨Nat.le_of_ble_eq_true rfl, Nat.le_of_ble_eq_true rfl⟩ (Nat.le_of_ble_eq_true rfl) (Nat.le_of_ble_eq_true rfl) rfl (Nat.le_of_ble_eq_true rfl) dX8_successShare_1 (fun h => ?_) (fun h3 => ?_)
  · by_cases h0 : X 13 0 0 7 = 0
    · unfold fX8_successShare at hf
      rw [if_pos h0] at hf
      cases hf
      show some ((if X 13 0 0 7 = 0 then 1 else 0), (0 : Int32), X) = _
      rw [if_pos h0]
    · refine absurd ?_ h
      show (if X 13 0 0 7 = 0 then 1 else 0) = 0
      rw [if_neg h0]
  · have h0 : ¬ X 13 0 0 7 = 0 := by
      intro h0
      have h3 : (if X 13 0 0 7 = 0 then 1 else 0) = 0 := h3
      rw [if_pos h0] at h3
      exact n10 h3
    unfold fX8_successShare at hf
    replace hf := bs_neg h0 hf
    refine v_aload_n C dX8_successShare_4 rfl rfl ?_
    refine gf_X8_19 C dX8_successShare_5 ?_
    refine gf_X8_128 C (by decide) dX8_successShare_8 ?_
    refine gf_X8_132 C (by decide) dX8_successShare_11 ?_
    refine v_if_ne (tgt := 19) C dX8_successShare_14 (by decide) (fun h5 => ?_) (fun h5 => ?_)
    · have h5 : ¬ (X 0 4 0 0) = 0 := h5
      unfold fzF at hf
      rw [if_neg h5] at hf
      refine v_aload_n C dX8_successShare_19 rfl rfl ?_
      refine gf_X8_19 C dX8_successShare_20 ?_
      refine gf_X8_128 C (by decide) dX8_successShare_23 ?_
      refine gf_X8_146 C (by decide) dX8_successShare_26 ?_
      refine v_i2f C dX8_successShare_29 ?_
      refine v_aload_n C dX8_successShare_30 rfl rfl ?_
      refine gf_X8_19 C dX8_successShare_31 ?_
      refine gf_X8_128 C (by decide) dX8_successShare_34 ?_
      refine gf_X8_132 C (by decide) dX8_successShare_37 ?_
      refine v_i2f C dX8_successShare_40 ?_
      refine v_fdiv C dX8_successShare_41 (fz_fdiv h5).1 ?_
      exact v_tfret C hf (Nat.le_of_ble_eq_true rfl) (Nat.le_of_ble_eq_true rfl) dX8_successShare_42
    · have h5 : (X 0 4 0 0) = 0 := h5
      unfold fzF at hf
      rw [if_pos h5] at hf
      refine v_fconst0 C dX8_successShare_17 ?_
      exact v_tfret C hf (Nat.le_of_ble_eq_true rfl) (Nat.le_of_ble_eq_true rfl) dX8_successShare_18
def bsXQd (ρ : bsR) (cA : Nat → ClassId) (dC : Nat → ClassId) (dI : Nat → Nat → Nat) (Rz : va_W) (z : Nat × UInt64 × bsX) (sz : Nat) : Array Value → State → Outcome → State → Prop := va_Qd (fun (r : UInt64) (_ : Unit) => z.1 = 0 ∧ r = z.2.1) (fun _ t => bsWp ρ cA dC dI Rz z.2.2 t) (bsA ρ cA Rz sz)
def bsTd (l : Launch) (y : MethodName) (b : ByteArray) (nL : Nat) (ret : Option FieldType) (rm : Room) (ρ : bsR) (cA : Nat → ClassId) (dC : Nat → ClassId) (dI : Nat → Nat → Nat) (Rz : va_W) (As : List Value) (X : bsX) (z : Nat × UInt64 × bsX) : Prop :=
  ∀ sz : Nat, vx_Met l y (Cond.code y b nL ret :: bsG) rm (va_Pc As (fun U => U.heap.size = sz ∧ bsWp ρ cA dC dI Rz X U)) (bsXQd ρ cA dC dI Rz z sz) (bsXX ρ cA dC dI Rz (z.1, (0 : Int32), z.2.2) sz) rm.cells rm.slots (bsA ρ cA Rz sz)
theorem bsTd_of {l : Launch} {y : MethodName} {b : ByteArray} {nL : Nat} {ret : Option FieldType} {rm : Room} {ρ : bsR} {cA : Nat → ClassId} {dC : Nat → ClassId} {dI : Nat → Nat → Nat} {Rz : va_W} {As : List Value} {X : bsX} {z : Nat × UInt64 × bsX} (hy : plainName y.cls = true) (hlen : (lg_sl As).length ≤ nL)
    (body : ∀ (p : Program) (e : Env) (s : State) (m : MethodId) (args : Array Value) (below : List Frame) (meth : Method) (c : Code), bsCx p m c b nL s args (Cond.code y b nL ret :: bsG) y.cls ρ cA dC dI Rz meth ret → (∀ x ∈ c.exceptionTable.toList, False) →
      bsV p l e rm s m args below meth c 0 0 (vx_MQ below (bsXQd ρ cA dC dI Rz z s.heap.size) (bsXX ρ cA dC dI Rz (z.1, (0 : Int32), z.2.2) s.heap.size) args s rm.cells rm.slots (bsA ρ cA Rz s.heap.size)) ρ cA dC dI Rz nL 0 (lv_args 0 As) [] X) : bsTd l y b nL ret rm ρ cA dC dI Rz As X z := by
  intro sz
  refine vx_ofW (cc := b) (maxL := nL) (ret := ret) hy rfl ?_
  intro p e s m args below meth c s₁ B hml ht hv
  obtain ⟨rfl, hsz, hP, hK, hD0, hN, hE⟩ := hv
  subst hsz
  have hts := atoms_spec (ws := Cond.code y b nL ret :: bsG) B.pre
  have hown : s.vm.findClass y.cls = some m.cls := findClass_of_methodNamed B.named
  have hl := lv_entry As hlen
  rw [lg_entry_eq]
  exact body p e s m _ below meth c ⟨⟨B.exec, B.bytes, hml, hown, hts⟩, hK, fun w h => List.mem_cons_of_mem _ h, ⟨hN, hE⟩, B.notSynchronized, B.returns⟩ ht _ _ _ hl hP (bsD_self _ hD0) va_S.rf
section BSF2
variable {p : Program} {l : Launch} {e : Env} {R : Room} {s : State} {m : MethodId} {args : Array Value} {below : List Frame} {meth : Method} {c : Code} {cells slots : Nat} {Q : State → Prop} {ρ : bsR} {cA : Nat → ClassId} {dC : Nat → ClassId} {dI : Nat → Nat → Nat} {Rz : va_W} {nL : Nat} {cc : ByteArray} {Ts : List Cond} {own : String} {ret : Option FieldType} {pc : Nat} {lv : List (Nat × Value)} {st : List Value} {X : bsX} {mc ms : Nat} {lo lo1 : Int64} {od od1 : UInt64}
theorem v_tdret (C : bsCx p m c cc nL s args Ts own ρ cA dC dI Rz meth (some .double)) {v : UInt64} {z : Nat × UInt64 × bsX} (hz : some (0, v, X) = some z) (h1 : cells ≤ mc) (h2 : slots ≤ ms) (hd : decode cc pc = .ok (.dreturn, 1)) : bsV p l e R s m args below meth c cells slots (vx_MQ below (bsXQd ρ cA dC dI Rz z s.heap.size) (bsXX ρ cA dC dI Rz (z.1, (0 : Int32), z.2.2) s.heap.size) args s mc ms (bsA ρ cA Rz s.heap.size)) ρ cA dC dI Rz nL pc lv [.double v] X := by
  intro ls H locs hl hP hD hS
  cases hz
  refine W.widen h1 h2 (vx_ret ?_)
  exact W.dret (v := v) C.1.1 C.1.2.1 C.2.2.2.2.2 (fun t ht hW => ⟨⟨v, (), rfl, ⟨rfl, rfl⟩, bsWp_end (locs := locs) C hP hD hS ht hW⟩, hS.F ht⟩) hS.2.2 hd C.2.2.2.2.1
end BSF2
def fX8_meanBoot (X : bsX) : Option (Nat × UInt64 × bsX) := if X 13 0 0 7 = 0 then some (1, FP.dconst0, X) else some (0, fzD (X 0 0 0 9) (X 0 3 0 4), X)
abbrev rmX8_meanBoot : Room := { frames := 7, cells := 1, slots := 6, locals := 110 }
theorem mlL_335 : Cond.methodLink RL 335 yX8_meanBoot ∈ bsG := bsG_in 1621 (by decide +kernel) rfl
theorem wyX8_meanBoot : bsWy yX8_meanBoot cX8_meanBoot 1 (some .double) := ⟨bsG_in 1622 (by decide +kernel) rfl, bsG_in 1623 (by decide +kernel) rfl, bsG_in 52 (by decide +kernel) rfl, bsG_in 1624 (by decide +kernel) rfl, by decide +kernel, by decide +kernel⟩
theorem dpX8_meanBoot : (parseMethodDescriptor yX8_meanBoot.desc).map (fun d => d.parameters.length) = some 0 := by decide +kernel
set_option maxHeartbeats 4000000 in
set_option maxRecDepth 100000 in
theorem cX8_meanBoot_ok {l : Launch} {ρ : bsR} {cA : Nat → ClassId} {dC : Nat → ClassId} {dI : Nat → Nat → Nat} {Rz : va_W} (hst : l.stackTraces = false) {X : bsX} {z : Nat × UInt64 × bsX} (hf : fX8_meanBoot X = some z) : bsTd l yX8_meanBoot cX8_meanBoot 1 (some .double) rmX8_meanBoot ρ cA dC dI Rz [.ref (ρ 13 0 0)] X z := by
  refine bsTd_of (by decide) (Nat.le_of_ble_eq_true rfl) (fun p e s m args below meth c C T0 => ?_)
  have C : bsCx p m c cX8_meanBoot 1 s args (Cond.code yX8_meanBoot cX8_meanBoot 1 (some .double) :: bsG) RX8 ρ cA dC dI Rz meth (some .double) := C
  refine v_sub [0] rfl ?_
  refine v_aload_n C dX8_meanBoot_0 rfl rfl ?_
  have hc1 : fX8_requireLoaded X = some ((if X 13 0 0 7 = 0 then 1 else 0), (0 : Int32), X) := by
    unfold fX8_requireLoaded
    by_cases h : X 13 0 0 7 = 0
    · rw [if_pos h, if_pos h]
    · rw [if_neg h, if_neg h]
  have n10 : ¬ (1 : Nat) = 0 := by decide
  refine v_gcallVv (y := yX8_requireLoaded) (As := []) (rest := []) (z := (z.1, (0 : Int32), z.2.2)) C T0 (cX8_requireLoaded_ok hst hc1) ml_X8_82 wyX8_requireLoaded (bsm_X8) (bsc_X8) rfl dpX8_requireLoaded ⟨Nat.le_of_ble_eq_true rfl, Nat.le_of_ble_eq_true rfl⟩ ⟨Nat.le_of_ble_eq_true rfl, Nat.le_of_ble_eq_true rfl⟩ (Nat.le_of_ble_eq_true rfl) (Nat.le_of_ble_eq_true rfl) rfl (Nat.le_of_ble_eq_true rfl) dX8_meanBoot_1 (fun h => ?_) (fun h3 => ?_)
  · by_cases h0 : X 13 0 0 7 = 0
    · unfold fX8_meanBoot at hf
      rw [if_pos h0] at hf
      cases hf
      show some ((if X 13 0 0 7 = 0 then 1 else 0), (0 : Int32), X) = _
      rw [if_pos h0]
    · refine absurd ?_ h
      show (if X 13 0 0 7 = 0 then 1 else 0) = 0
      rw [if_neg h0]
  · have h0 : ¬ X 13 0 0 7 = 0 := by
      intro h0
      have h3 : (if X 13 0 0 7 = 0 then 1 else 0) = 0 := h3
      rw [if_pos h0] at h3
      exact n10 h3
    unfold fX8_meanBoot at hf
    replace hf := bs_neg h0 hf
    refine v_aload_n C dX8_meanBoot_4 rfl rfl ?_
    refine gf_X8_19 C dX8_meanBoot_5 ?_
    refine gf_X8_119 C (by decide) dX8_meanBoot_8 ?_
    refine gf_X8_123 C (by decide) dX8_meanBoot_11 ?_
    refine v_if_ne (tgt := 19) C dX8_meanBoot_14 (by decide) (fun h5 => ?_) (fun h5 => ?_)
    · have h5 : ¬ (X 0 3 0 4) = 0 := h5
      unfold fzD at hf
      rw [if_neg h5] at hf
      refine v_aload_n C dX8_meanBoot_19 rfl rfl ?_
      refine gf_X8_19 C dX8_meanBoot_20 ?_
      refine gf_X8_85 C (by decide) dX8_meanBoot_23 ?_
      refine v_i2d C dX8_meanBoot_26 ?_
      refine v_aload_n C dX8_meanBoot_27 rfl rfl ?_
      refine gf_X8_19 C dX8_meanBoot_28 ?_
      refine gf_X8_119 C (by decide) dX8_meanBoot_31 ?_
      refine gf_X8_123 C (by decide) dX8_meanBoot_34 ?_
      refine v_i2d C dX8_meanBoot_37 ?_
      refine v_ddiv C dX8_meanBoot_38 (fz_ddiv h5).1 ?_
      exact v_tdret C hf (Nat.le_of_ble_eq_true rfl) (Nat.le_of_ble_eq_true rfl) dX8_meanBoot_39
    · have h5 : (X 0 3 0 4) = 0 := h5
      unfold fzD at hf
      rw [if_pos h5] at hf
      refine v_dconst0 C dX8_meanBoot_17 ?_
      exact v_tdret C hf (Nat.le_of_ble_eq_true rfl) (Nat.le_of_ble_eq_true rfl) dX8_meanBoot_18
