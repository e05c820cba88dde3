/-! METHODS THAT ANSWER a float or a double -/
section BSF
variable {p : Program} {l : Launch} {e : Env} {R : Room} {s : State} {m : MethodId} {args : Array Value} {below : List Frame} {meth : Method} {c : Code} {cells slots : Nat} {Q : State → Prop} {ρ : bsR} {cA : Nat → ClassId} {dC : Nat → ClassId} {dI : Nat → Nat → Nat} {Rz : va_W} {nL : Nat} {cc : ByteArray} {Ts : List Cond} {own : String} {ret : Option FieldType} {pc : Nat} {lv : List (Nat × Value)} {st : List Value} {X : bsX} {mc ms : Nat} {lo lo1 : Int64} {od od1 : UInt64}
theorem v_fconst0 (C : bsCx p m c cc nL s args Ts own ρ cA dC dI Rz meth ret) (hd : decode cc pc = .ok (.fconst 0, 1)) (k : bsV p l e R s m args below meth c cells slots Q ρ cA dC dI Rz nL (pc + 1) lv (.float FP.fconst0 :: st) X) : bsV p l e R s m args below meth c cells slots Q ρ cA dC dI Rz nL pc lv st X := fun ls H locs hl hP hD hS => lv_fconst0 C.1.1 C.1.2.1 hd (k ls H locs hl hP hD hS)
theorem v_dconst0 (C : bsCx p m c cc nL s args Ts own ρ cA dC dI Rz meth ret) (hd : decode cc pc = .ok (.dconst 0, 1)) (k : bsV p l e R s m args below meth c cells slots Q ρ cA dC dI Rz nL (pc + 1) lv (.double FP.dconst0 :: st) X) : bsV p l e R s m args below meth c cells slots Q ρ cA dC dI Rz nL pc lv st X := fun ls H locs hl hP hD hS => lv_dconst0 C.1.1 C.1.2.1 hd (k ls H locs hl hP hD hS)
theorem v_i2f (C : bsCx p m c cc nL s args Ts own ρ cA dC dI Rz meth ret) {x : Int32} (hd : decode cc pc = .ok (.i2f, 1)) (k : bsV p l e R s m args below meth c cells slots Q ρ cA dC dI Rz nL (pc + 1) lv (.float (FP.i2f x) :: st) X) : bsV p l e R s m args below meth c cells slots Q ρ cA dC dI Rz nL pc lv (.int x :: st) X := fun ls H locs hl hP hD hS => lv_i2f C.1.1 C.1.2.1 hd (k ls H locs hl hP hD hS)
theorem v_i2d (C : bsCx p m c cc nL s args Ts own ρ cA dC dI Rz meth ret) {x : Int32} (hd : decode cc pc = .ok (.i2d, 1)) (k : bsV p l e R s m args below meth c cells slots Q ρ cA dC dI Rz nL (pc + 1) lv (.double (FP.i2d x) :: st) X) : bsV p l e R s m args below meth c cells slots Q ρ cA dC dI Rz nL pc lv (.int x :: st) X := fun ls H locs hl hP hD hS => lv_i2d C.1.1 C.1.2.1 hd (k ls H locs hl hP hD hS)
theorem v_fdiv (C : bsCx p m c cc nL s args Ts own ρ cA dC dI Rz meth ret) {x y : UInt32} (hd : decode cc pc = .ok (.fdiv, 1)) (hn : vf_n32 (FP.fdiv x y)) (k : bsV p l e R s m args below meth c cells slots Q ρ cA dC dI Rz nL (pc + 1) lv (.float (FP.fdiv x y) :: st) X) : bsV p l e R s m args below meth c cells slots Q ρ cA dC dI Rz nL pc lv (.float y :: .float x :: st) X := fun ls H locs hl hP hD hS => lv_fdiv C.1.1 C.1.2.1 hd hn (k ls H locs hl hP hD hS)
theorem v_ddiv (C : bsCx p m c cc nL s args Ts own ρ cA dC dI Rz meth ret) {x y : UInt64} (hd : decode cc pc = .ok (.ddiv, 1)) (hn : vf_n64 (FP.ddiv x y)) (k : bsV p l e R s m args below meth c cells slots Q ρ cA dC dI Rz nL (pc + 1) lv (.double (FP.ddiv x y) :: st) X) : bsV p l e R s m args below meth c cells slots Q ρ cA dC dI Rz nL pc lv (.double y :: .double x :: st) X := fun ls H locs hl hP hD hS => lv_ddiv C.1.1 C.1.2.1 hd hn (k ls H locs hl hP hD hS)
theorem v_f2d (C : bsCx p m c cc nL s args Ts own ρ cA dC dI Rz meth ret) {x : UInt32} (hd : decode cc pc = .ok (.f2d, 1)) (hn : vf_n64 (FP.f2d x)) (k : bsV p l e R s m args below meth c cells slots Q ρ cA dC dI Rz nL (pc + 1) lv (.double (FP.f2d x) :: st) X) : bsV p l e R s m args below meth c cells slots Q ρ cA dC dI Rz nL pc lv (.float x :: st) X := fun ls H locs hl hP hD hS => lv_f2d C.1.1 C.1.2.1 hd hn (k ls H locs hl hP hD hS)
theorem v_dcmp (C : bsCx p m c cc nL s args Ts own ρ cA dC dI Rz meth ret) {x y : UInt64} {op : CmpOp} (hd : decode cc pc = .ok (.dcmp op, 1)) (k : bsV p l e R s m args below meth c cells slots Q ρ cA dC dI Rz nL (pc + 1) lv (.int (Op.cmpValue (FP.dcmp x y) op) :: st) X) : bsV p l e R s m args below meth c cells slots Q ρ cA dC dI Rz nL pc lv (.double y :: .double x :: st) X := fun ls H locs hl hP hD hS => lv_dcmp C.1.1 C.1.2.1 hd (k ls H locs hl hP hD hS)
theorem bs_outXg (C : bsCx p m c cc nL s args Ts own ρ cA dC dI Rz meth ret) (T0 : ∀ x ∈ c.exceptionTable.toList, False) {Qc : Array Value → State → Outcome → State → Prop} {r z : bsXr} {E : String} {ce : Cell} {q9 : Addr} {t0 : State} {H1 : Heap} {locs1 : List Loc} {ls : Array Slot} (ht : t0.heap = H1) (hB : (0 < r.1 ∧ E = bsEn r.1) ∧ bsWp ρ cA dC dI Rz r.2.2 t0) (hS : va_S (bsA ρ cA Rz s.heap.size) s.heap H1 locs1) (hcell : H1[q9]? = some ce) (hv : ce.vm = .none) (hcl : s.vm.findClass E = some ce.cls) (hx : ¬ r.1 = 0 → some (r.1, (0 : Int32), r.2.2) = some z) (h1 : cells ≤ mc) (h2 : slots ≤ ms) :
    vx_W p l e R s m args below meth c H1 locs1 cells slots (vx_MQ below Qc (bsXX ρ cA dC dI Rz z s.heap.size) args s mc ms (bsA ρ cA Rz s.heap.size)) (F0 m pc ls st) q9 := by
  obtain ⟨⟨h0, hE⟩, hP1, -, hD1, -⟩ := hB
  rw [ht] at hP1
  have hz := hx (by omega)
  cases hz
  exact bs_out (fun x hx => (T0 x hx).elim) C.2.2.2.2.1 hcell hv hcl (fun t htH hW => ⟨(), trivial, ⟨⟨h0, hE⟩, bsWp_end C hP1 (bsD_self _ hD1) hS htH hW⟩, hS.F htH⟩) hS.2.2 h1 h2
theorem v_gcallVv (C : bsCx p m c cc nL s args Ts own ρ cA dC dI Rz meth ret) (T0 : ∀ x ∈ c.exceptionTable.toList, False) {y : MethodName} {b : ByteArray} {nL' index : Nat} {ret' : Option FieldType} {rm' : Room} {As rest : List Value} {g K j ci N : Nat} {fs : List Value} {T : u_T} {Qc : Array Value → State → Outcome → State → Prop} {r z : bsXr} (hM : bsTv l y b nL' ret' rm' ρ cA dC dI Rz (.ref (ρ g K j) :: As) X r)
    (hl0 : Cond.methodLink own index y ∈ bsG) (hw : bsWy y b nL' ret') (hk : (g, K, j) ∈ bsKeys) (hc : bsCell ρ cA g K j (X g K j) = .inr (ci, fs)) (hci : vwCl[ci]? = some (y.cls, T, N)) (hde : (parseMethodDescriptor y.desc).map (fun d => d.parameters.length) = some As.length)
    (hR : rm'.frames + 1 ≤ R.frames ∧ 8 + (nL' + 11) + rm'.locals ≤ R.locals) (hcs : cells + rm'.cells ≤ R.cells ∧ slots + rm'.slots ≤ R.slots) (h1 : cells + rm'.cells ≤ mc) (h2 : slots + rm'.slots ≤ ms) (hst : st = As.reverse ++ .ref (ρ g K j) :: rest) (hW : (rest.map fun v => v.category).sum ≤ 8) (hd : decode cc pc = .ok (.invokevirtual index, 3)) (hx : ¬ r.1 = 0 → some (r.1, (0 : Int32), r.2.2) = some z)
    (kk : r.1 = 0 → bsV p l e R s m args below meth c (cells + rm'.cells) (slots + rm'.slots) (vx_MQ below Qc (bsXX ρ cA dC dI Rz z s.heap.size) args s mc ms (bsA ρ cA Rz s.heap.size)) ρ cA dC dI Rz nL (pc + 3) lv rest r.2.2) : bsV p l e R s m args below meth c cells slots (vx_MQ below Qc (bsXX ρ cA dC dI Rz z s.heap.size) args s mc ms (bsA ρ cA Rz s.heap.size)) ρ cA dC dI Rz nL pc lv st X := by
  intro ls H locs hl hP hD hS
  obtain ⟨q0, -, hq⟩ := bsWs_at hk
  have hpre := bs_pre (As := .ref (ρ g K j) :: As) C hP hD hS
  refine vx_callv (vx_runV (As := As) (rest := rest) C.1 (hM H.size) (cwV As.length C.1.2.2.2.2 (bs_goodV C.2.2.1 hl0 hw) rfl rfl rfl ⟨rfl, hw.2.2.2.2.1, hw.2.2.2.2.2, hde⟩ hR) ⟨hpre.1, va_recv C.2.1 hP hci ((hq ρ cA X Rz).trans (by rw [hc])), hpre.2⟩ rfl rfl hl.1 hst (lv_room hW) hd hcs) hS (fun q _ h => bsA_mono hS.1 h) (fun q h => bsA_mono hS.1 h) (fun q _ h => bsA_mono hS.1 h) (fun E ce q9 u t H1 locs1 ht hvm hp hB hz1 hk1 hS1 hc1 hc2 hc3 => ?_) (fun u t H1 locs1 ht hvm hr hB hz1 hk1 hS1 => ?_)
  · exact bs_outXg C T0 ht hB hS1 hc1 hc2 hc3 hx h1 h2
  · skip
    exact bs_back hl ht hB hS1 (kk hr)
end BSF
def bsXQf (ρ : bsR) (cA : Nat → ClassId) (dC : Nat → ClassId) (dI : Nat → Nat → Nat) (Rz : va_W) (z : Nat × UInt32 × bsX) (sz : Nat) : Array Value → State → Outcome → State → Prop := va_Qf (fun (r : UInt32) (_ : Unit) => z.1 = 0 ∧ r = z.2.1) (fun _ t => bsWp ρ cA dC dI Rz z.2.2 t) (bsA ρ cA Rz sz)
def bsQf (ρ : bsR) (cA : Nat → ClassId) (dC : Nat → ClassId) (dI : Nat → Nat → Nat) (Rz : va_W) (z : UInt32 × bsX) (sz : Nat) : Array Value → State → Outcome → State → Prop := va_Qf (fun (r : UInt32) (_ : Unit) => r = z.1) (fun _ t => bsWp ρ cA dC dI Rz z.2 t) (bsA ρ cA Rz sz)
def bsTf (l : Launch) (y : MethodName) (b : ByteArray) (nL : Nat) (ret : Option FieldType) (rm : Room) (ρ : bsR) (cA : Nat → ClassId) (dC : Nat → ClassId) (dI : Nat → Nat → Nat) (Rz : va_W) (As : List Value) (X : bsX) (z : Nat × UInt32 × bsX) : Prop :=
  ∀ sz : Nat, vx_Met l y (Cond.code y b nL ret :: bsG) rm (va_Pc As (fun U => U.heap.size = sz ∧ bsWp ρ cA dC dI Rz X U)) (bsXQf ρ cA dC dI Rz z sz) (bsXX ρ cA dC dI Rz (z.1, (0 : Int32), z.2.2) sz) rm.cells rm.slots (bsA ρ cA Rz sz)
def bsMf (l : Launch) (y : MethodName) (b : ByteArray) (nL : Nat) (ret : Option FieldType) (rm : Room) (ρ : bsR) (cA : Nat → ClassId) (dC : Nat → ClassId) (dI : Nat → Nat → Nat) (Rz : va_W) (As : List Value) (X : bsX) (z : UInt32 × bsX) : Prop :=
  ∀ sz : Nat, Met l y (Cond.code y b nL ret :: bsG) rm (va_Pc As (fun U => U.heap.size = sz ∧ bsWp ρ cA dC dI Rz X U)) (bsQf ρ cA dC dI Rz z sz) 0 0 (bsA ρ cA Rz sz)
theorem bsTf_of {l : Launch} {y : MethodName} {b : ByteArray} {nL : Nat} {ret : Option FieldType} {rm : Room} {ρ : bsR} {cA : Nat → ClassId} {dC : Nat → ClassId} {dI : Nat → Nat → Nat} {Rz : va_W} {As : List Value} {X : bsX} {z : Nat × UInt32 × bsX} (hy : plainName y.cls = true) (hlen : (lg_sl As).length ≤ nL)
    (body : ∀ (p : Program) (e : Env) (s : State) (m : MethodId) (args : Array Value) (below : List Frame) (meth : Method) (c : Code), bsCx p m c b nL s args (Cond.code y b nL ret :: bsG) y.cls ρ cA dC dI Rz meth ret → (∀ x ∈ c.exceptionTable.toList, False) →
      bsV p l e rm s m args below meth c 0 0 (vx_MQ below (bsXQf ρ cA dC dI Rz z s.heap.size) (bsXX ρ cA dC dI Rz (z.1, (0 : Int32), z.2.2) s.heap.size) args s rm.cells rm.slots (bsA ρ cA Rz s.heap.size)) ρ cA dC dI Rz nL 0 (lv_args 0 As) [] X) : bsTf l y b nL ret rm ρ cA dC dI Rz As X z := by
  intro sz
  refine vx_ofW (cc := b) (maxL := nL) (ret := ret) hy rfl ?_
  intro p e s m args below meth c s₁ B hml ht hv
  obtain ⟨rfl, hsz, hP, hK, hD0, hN, hE⟩ := hv
  subst hsz
  have hts := atoms_spec (ws := Cond.code y b nL ret :: bsG) B.pre
  have hown : s.vm.findClass y.cls = some m.cls := findClass_of_methodNamed B.named
  have hl := lv_entry As hlen
  rw [lg_entry_eq]
  exact body p e s m _ below meth c ⟨⟨B.exec, B.bytes, hml, hown, hts⟩, hK, fun w h => List.mem_cons_of_mem _ h, ⟨hN, hE⟩, B.notSynchronized, B.returns⟩ ht _ _ _ hl hP (bsD_self _ hD0) va_S.rf
theorem bsMf_of {l : Launch} {y : MethodName} {b : ByteArray} {nL : Nat} {ret : Option FieldType} {rm : Room} {ρ : bsR} {cA : Nat → ClassId} {dC : Nat → ClassId} {dI : Nat → Nat → Nat} {Rz : va_W} {As : List Value} {X : bsX} {z : UInt32 × bsX} (hy : plainName y.cls = true) (hlen : (lg_sl As).length ≤ nL)
    (body : ∀ (p : Program) (e : Env) (s : State) (m : MethodId) (args : Array Value) (below : List Frame) (meth : Method) (c : Code), bsCx p m c b nL s args (Cond.code y b nL ret :: bsG) y.cls ρ cA dC dI Rz meth ret →
      bsV p l e rm s m args below meth c 0 0 (MQ below (bsQf ρ cA dC dI Rz z s.heap.size) args s 0 0 (bsA ρ cA Rz s.heap.size)) ρ cA dC dI Rz nL 0 (lv_args 0 As) [] X) : bsMf l y b nL ret rm ρ cA dC dI Rz As X z := by
  intro sz
  refine Met.ofW (cc := b) (maxL := nL) (ret := ret) hy rfl ?_
  intro p e s m args below meth c s₁ B hml hv
  obtain ⟨rfl, hsz, hP, hK, hD0, hN, hE⟩ := hv
  subst hsz
  have hts := atoms_spec (ws := Cond.code y b nL ret :: bsG) B.pre
  have hown : s.vm.findClass y.cls = some m.cls := findClass_of_methodNamed B.named
  have hl := lv_entry As hlen
  rw [lg_entry_eq]
  exact body p e s m _ below meth c ⟨⟨B.exec, B.bytes, hml, hown, hts⟩, hK, fun w h => List.mem_cons_of_mem _ h, ⟨hN, hE⟩, B.notSynchronized, B.returns⟩ _ _ _ hl hP (bsD_self _ hD0) va_S.rf
section BSF2
variable {p : Program} {l : Launch} {e : Env} {R : Room} {s : State} {m : MethodId} {args : Array Value} {below : List Frame} {meth : Method} {c : Code} {cells slots : Nat} {Q : State → Prop} {ρ : bsR} {cA : Nat → ClassId} {dC : Nat → ClassId} {dI : Nat → Nat → Nat} {Rz : va_W} {nL : Nat} {cc : ByteArray} {Ts : List Cond} {own : String} {ret : Option FieldType} {pc : Nat} {lv : List (Nat × Value)} {st : List Value} {X : bsX} {mc ms : Nat} {lo lo1 : Int64} {od od1 : UInt64}
theorem v_tfret (C : bsCx p m c cc nL s args Ts own ρ cA dC dI Rz meth (some .float)) {v : UInt32} {z : Nat × UInt32 × bsX} (hz : some (0, v, X) = some z) (h1 : cells ≤ mc) (h2 : slots ≤ ms) (hd : decode cc pc = .ok (.freturn, 1)) : bsV p l e R s m args below meth c cells slots (vx_MQ below (bsXQf ρ cA dC dI Rz z s.heap.size) (bsXX ρ cA dC dI Rz (z.1, (0 : Int32), z.2.2) s.heap.size) args s mc ms (bsA ρ cA Rz s.heap.size)) ρ cA dC dI Rz nL pc lv [.float v] X := by
  intro ls H locs hl hP hD hS
  cases hz
  refine W.widen h1 h2 (vx_ret ?_)
  exact W.fret (v := v) C.1.1 C.1.2.1 C.2.2.2.2.2 (fun t ht hW => ⟨⟨v, (), rfl, ⟨rfl, rfl⟩, bsWp_end (locs := locs) C hP hD hS ht hW⟩, hS.F ht⟩) hS.2.2 hd C.2.2.2.2.1
theorem v_fret (C : bsCx p m c cc nL s args Ts own ρ cA dC dI Rz meth (some .float)) {v : UInt32} {z : UInt32 × bsX} (hz : some (v, X) = some z) (hd : decode cc pc = .ok (.freturn, 1)) : bsV p l e R s m args below meth c 0 0 (MQ below (bsQf ρ cA dC dI Rz z s.heap.size) args s 0 0 (bsA ρ cA Rz s.heap.size)) ρ cA dC dI Rz nL pc lv [.float v] X := by
  intro ls H locs hl hP hD hS
  cases hz
  exact W.fret (v := v) C.1.1 C.1.2.1 C.2.2.2.2.2 (fun t ht hW => ⟨⟨v, (), rfl, rfl, bsWp_end (locs := locs) C hP hD hS ht hW⟩, hS.F ht⟩) hS.2.2 hd C.2.2.2.2.1
theorem v_callVf (C : bsCx p m c cc nL s args Ts own ρ cA dC dI Rz meth ret) {y : MethodName} {b : ByteArray} {nL' index g K j ci N : Nat} {ret' : Option FieldType} {rm' : Room} {As rest fs : List Value} {T : u_T} {z : UInt32 × bsX} (hM : bsMf l y b nL' ret' rm' ρ cA dC dI Rz (.ref (ρ g K j) :: As) X z)
    (hl0 : Cond.methodLink own index y ∈ bsG) (hw : bsWy y b nL' ret') (hk : (g, K, j) ∈ bsKeys) (hc : bsCell ρ cA g K j (X g K j) = .inr (ci, fs)) (hci : vwCl[ci]? = some (y.cls, T, N)) (hde : (parseMethodDescriptor y.desc).map (fun d => d.parameters.length) = some As.length)
    (hR : rm'.frames + 1 ≤ R.frames ∧ 8 + (nL' + 11) + rm'.locals ≤ R.locals) (hz0 : rm'.cells = 0 ∧ rm'.slots = 0) (hcs : cells ≤ R.cells ∧ slots ≤ R.slots) (hst : st = As.reverse ++ .ref (ρ g K j) :: rest) (hW : (rest.map fun v => v.category).sum ≤ 8) (hd : decode cc pc = .ok (.invokevirtual index, 3))
    (kk : bsV p l e R s m args below meth c cells slots Q ρ cA dC dI Rz nL (pc + 3) lv (.float z.1 :: rest) z.2) : bsV p l e R s m args below meth c cells slots Q ρ cA dC dI Rz nL pc lv st X := by
  intro ls H locs hl hP hD hS
  obtain ⟨q0, -, hq⟩ := bsWs_at hk
  have hpre := bs_pre (As := .ref (ρ g K j) :: As) C hP hD hS
  refine va_callf (va_runV (As := As) (rest := rest) C.1 (hM H.size) (cwV As.length C.1.2.2.2.2 (bs_goodV C.2.2.1 hl0 hw) rfl hz0.1 hz0.2 ⟨rfl, hw.2.2.2.2.1, hw.2.2.2.2.2, hde⟩ hR) ⟨hpre.1, va_recv C.2.1 hP hci ((hq ρ cA X Rz).trans (by rw [hc])), hpre.2⟩ rfl rfl hl.1 hst (lv_room hW) hd ⟨hcs.1, hcs.2⟩) hS (fun q _ h => bsA_mono hS.1 h) (fun q h => bsA_mono hS.1 h) (fun r u t H1 locs1 ht hvm hr hB hz1 hk1 hS1 => ?_)
  have hr1 : r = z.1 := hr
  subst hr1
  exact bs_back hl ht hB hS1 kk
theorem v_wcallf (C : bsCx p m c cc nL s args Ts own ρ cA dC dI Rz meth ret) {tb : List ExceptionTableEntry} (T9 : c.exceptionTable.toList = tb) {y : MethodName} {b : ByteArray} {nL' index : Nat} {ret' : Option FieldType} {rm' : Room} {As rest : List Value} {g K j ci N : Nat} {fs : List Value} {T : u_T} {r : Nat × UInt32 × bsX} (hM : bsTf l y b nL' ret' rm' ρ cA dC dI Rz (.ref (ρ g K j) :: As) X r)
    (hl0 : Cond.methodLink own index y ∈ bsG) (hw : bsWy y b nL' ret') (hk : (g, K, j) ∈ bsKeys) (hc : bsCell ρ cA g K j (X g K j) = .inr (ci, fs)) (hci : vwCl[ci]? = some (y.cls, T, N)) (hde : (parseMethodDescriptor y.desc).map (fun d => d.parameters.length) = some As.length)
    (hR : rm'.frames + 1 ≤ R.frames ∧ 8 + (nL' + 11) + rm'.locals ≤ R.locals) (hcs : cells + rm'.cells ≤ R.cells ∧ slots + rm'.slots ≤ R.slots) (hst : st = As.reverse ++ .ref (ρ g K j) :: rest) (hW : (rest.map fun v => v.category).sum ≤ 8) (hd : decode cc pc = .ok (.invokevirtual index, 3))
    (kx : 0 < r.1 → ∃ hp, bsHd own pc r.1 tb hp ∧ ∀ q9 : Nat, bsV p l e R s m args below meth c (cells + rm'.cells) (slots + rm'.slots) Q ρ cA dC dI Rz nL hp lv [.ref q9] r.2.2)
    (kk : r.1 = 0 → bsV p l e R s m args below meth c (cells + rm'.cells) (slots + rm'.slots) Q ρ cA dC dI Rz nL (pc + 3) lv (.float r.2.1 :: rest) r.2.2) : bsV p l e R s m args below meth c cells slots Q ρ cA dC dI Rz nL pc lv st X := by
  intro ls H locs hl hP hD hS
  obtain ⟨q0, -, hq⟩ := bsWs_at hk
  have hpre := bs_pre (As := .ref (ρ g K j) :: As) C hP hD hS
  refine vx_callf (vx_runV (As := As) (rest := rest) C.1 (hM H.size) (cwV As.length C.1.2.2.2.2 (bs_goodV C.2.2.1 hl0 hw) rfl rfl rfl ⟨rfl, hw.2.2.2.2.1, hw.2.2.2.2.2, hde⟩ hR) ⟨hpre.1, va_recv C.2.1 hP hci ((hq ρ cA X Rz).trans (by rw [hc])), hpre.2⟩ rfl rfl hl.1 hst (lv_room hW) hd hcs) hS (fun q _ h => bsA_mono hS.1 h) (fun q h => bsA_mono hS.1 h) (fun q _ h => bsA_mono hS.1 h) (fun E ce q9 u t H1 locs1 ht hvm hp hB hz1 hk1 hS1 hc1 hc2 hc3 => ?_) (fun r1 u t H1 locs1 ht hvm hr hB hz1 hk1 hS1 => ?_)
  · obtain ⟨⟨h0, hE⟩, hBw⟩ := hB
    obtain ⟨hp9, ⟨pre, x, suf, e1, e2, e3, e4, e5, e6, e7⟩, k9⟩ := kx h0
    subst hE
    have W9 := fun w (h : w ∈ bsG) => C.1.2.2.2.2 w (C.2.2.1 w h)
    refine vx_catch C.1.2.2.2.1 pre x suf (T9.trans e1) (fun z hz => Or.inr ?_) e3 e4 (W9 _ e5) (va_Nw.use rfl (C.2.2.2.1.2.2.2.2.2.2.1.1 _ e7)) hc1 hc2 hc3 ?_
    · obtain ⟨z1, F, hF, hne, hlk⟩ := e2 z hz
      exact ⟨z1, F, W9 _ hlk, C.2.2.2.1.2.2.2.2.2.2.2 _ e7 F hF hne⟩
    · rw [e6]
      exact bs_back hl ht hBw hS1 (k9 q9)
  · obtain ⟨h0, hr1⟩ := hr
    subst hr1
    exact bs_back hl ht hB hS1 (kk h0)
end BSF2
def fX8_successShare (X : bsX) : Option (Nat × UInt32 × bsX) := if X 13 0 0 7 = 0 then some (1, FP.fconst0, X) else some (0, fzF (X 0 4 0 4) (X 0 4 0 0), X)
def fX9_successShare (X : bsX) : Option (UInt32 × bsX) := (fX9_notLoaded X).bind fun r => if r.1 = 0 then some (fzF (r.2 14 1 0 17) (r.2 14 1 0 13), r.2) else some (FP.fconst0, r.2)
abbrev rmX8_successShare : Room := { frames := 7, cells := 1, slots := 6, locals := 110 }
abbrev rmX9_successShare : Room := { frames := 2, cells := 0, slots := 0, locals := 60 }
abbrev rmL_successShare : Room := { frames := 8, cells := 1, slots := 6, locals := 140 }
theorem mlL_137 : Cond.methodLink RL 137 yX8_successShare ∈ bsG := bsG_in 1230 (by decide +kernel) rfl
theorem wyX8_successShare : bsWy yX8_successShare cX8_successShare 1 (some .float) := ⟨bsG_in 1231 (by decide +kernel) rfl, bsG_in 1232 (by decide +kernel) rfl, bsG_in 102 (by decide +kernel) rfl, bsG_in 1233 (by decide +kernel) rfl, by decide +kernel, by decide +kernel⟩
theorem dpX8_successShare : (parseMethodDescriptor yX8_successShare.desc).map (fun d => d.parameters.length) = some 0 := by decide +kernel
theorem mlw_340 : Cond.methodLink RL 340 yX9_successShare ∈ bsG := bsG_in 1936 (by decide +kernel) rfl
theorem wyX9_successShare : bsWy yX9_successShare cX9_successShare 1 (some .float) := ⟨bsG_in 1937 (by decide +kernel) rfl, bsG_in 1938 (by decide +kernel) rfl, bsG_in 111 (by decide +kernel) rfl, bsG_in 1939 (by decide +kernel) rfl, by decide +kernel, by decide +kernel⟩
theorem dpX9_successShare : (parseMethodDescriptor yX9_successShare.desc).map (fun d => d.parameters.length) = some 0 := by decide +kernel
theorem mlw_337 : Cond.methodLink RL 337 yL_successShare ∈ bsG := bsG_in 1227 (by decide +kernel) rfl
theorem dpL_successShare : (parseMethodDescriptor yL_successShare.desc).map (fun d => d.parameters.length) = some 2 := by decide +kernel
theorem wwL_successShare : Cond.static yL_successShare ∈ bsG ∧ Cond.initialized yL_successShare.cls ∈ bsG ∧ Cond.codeWith yL_successShare cL_successShare 3 (some .int) [(0, 8, 11, 20)] ∈ bsG ∧ (yL_successShare.cls ≠ "java/lang/invoke/MethodHandle" ∧ yL_successShare.cls ≠ "java/lang/invoke/VarHandle") := ⟨bsG_in 1228 (by decide +kernel) rfl, bsG_in 101 (by decide +kernel) rfl, bsG_in 1229 (by decide +kernel) rfl, by decide +kernel, by decide +kernel⟩
set_option maxHeartbeats 4000000 in
set_option maxRecDepth 100000 in
theorem cX8_successShare_ok {l : Launch} {ρ : bsR} {cA : Nat → ClassId} {dC : Nat → ClassId} {dI : Nat → Nat → Nat} {Rz : va_W} (hst : l.stackTraces = false) {X : bsX} {z : Nat × UInt32 × bsX} (hf : fX8_successShare X = some z) : bsTf l yX8_successShare cX8_successShare 1 (some .float) rmX8_successShare ρ cA dC dI Rz [.ref (ρ 13 0 0)] X z := by
  refine bsTf_of (by decide) (Nat.le_of_ble_eq_true rfl) (fun p e s m args below meth c C T0 => ?_)
  have C : bsCx p m c cX8_successShare 1 s args (Cond.code yX8_successShare cX8_successShare 1 (some .float) :: bsG) RX8 ρ cA dC dI Rz meth (some .float) := C
  refine v_sub [0] rfl ?_
  refine v_aload_n C dX8_successShare_0 rfl rfl ?_
  have hc1 : fX8_requireLoaded X = some ((if X 13 0 0 7 = 0 then 1 else 0), (0 : Int32), X) := by
    unfold fX8_requireLoaded
    by_cases h : X 13 0 0 7 = 0
    · rw [if_pos h, if_pos h]
    · rw [if_neg h, if_neg h]
  have n10 : ¬ (1 : Nat) = 0 := by decide
  refine v_gcallVv (y := yX8_requireLoaded) (As := []) (rest := []) (z := (z.1, (0 : Int32), z.2.2)) C T0 (cX8_requireLoaded_ok hst hc1) ml_X8_82 wyX8_requireLoaded (bsm_X8) (bsc_X8) rfl dpX8_requireLoaded ⟨Nat.le_of_ble_eq_true rfl, Nat.le_of_ble_eq_true rfl⟩ ⟨Nat.le_of_ble_eq_true rfl, Nat.le_of_ble_eq_true rfl⟩ (Nat.le_of_ble_eq_true rfl) (Nat.le_of_ble_eq_true rfl) rfl (Nat.le_of_ble_eq_true rfl) dX8_successShare_1 (fun h => ?_) (fun h3 => ?_)
  · by_cases h0 : X 13 0 0 7 = 0
    · unfold fX8_successShare at hf
      rw [if_pos h0] at hf
      cases hf
      show some ((if X 13 0 0 7 = 0 then 1 else 0), (0 : Int32), X) = _
      rw [if_pos h0]
    · refine absurd ?_ h
      show (if X 13 0 0 7 = 0 then 1 else 0) = 0
      rw [if_neg h0]
  · have h0 : ¬ X 13 0 0 7 = 0 := by
      intro h0
      have h3 : (if X 13 0 0 7 = 0 then 1 else 0) = 0 := h3
      rw [if_pos h0] at h3
      exact n10 h3
    unfold fX8_successShare at hf
    replace hf := bs_neg h0 hf
    refine v_aload_n C dX8_successShare_4 rfl rfl ?_
    refine gf_X8_19 C dX8_successShare_5 ?_
    refine gf_X8_128 C (by decide) dX8_successShare_8 ?_
    refine gf_X8_132 C (by decide) dX8_successShare_11 ?_
    refine v_if_ne (tgt := 19) C dX8_successShare_14 (by decide) (fun h5 => ?_) (fun h5 => ?_)
    · have h5 : ¬ (X 0 4 0 0) = 0 := h5
      unfold fzF at hf
      rw [if_neg h5] at hf
      refine v_aload_n C dX8_successShare_19 rfl rfl ?_
      refine gf_X8_19 C dX8_successShare_20 ?_
      refine gf_X8_128 C (by decide) dX8_successShare_23 ?_
      refine gf_X8_146 C (by decide) dX8_successShare_26 ?_
      refine v_i2f C dX8_successShare_29 ?_
      refine v_aload_n C dX8_successShare_30 rfl rfl ?_
      refine gf_X8_19 C dX8_successShare_31 ?_
      refine gf_X8_128 C (by decide) dX8_successShare_34 ?_
      refine gf_X8_132 C (by decide) dX8_successShare_37 ?_
      refine v_i2f C dX8_successShare_40 ?_
      refine v_fdiv C dX8_successShare_41 (fz_fdiv h5).1 ?_
      exact v_tfret C hf (Nat.le_of_ble_eq_true rfl) (Nat.le_of_ble_eq_true rfl) dX8_successShare_42
    · have h5 : (X 0 4 0 0) = 0 := h5
      unfold fzF at hf
      rw [if_pos h5] at hf
      refine v_fconst0 C dX8_successShare_17 ?_
      exact v_tfret C hf (Nat.le_of_ble_eq_true rfl) (Nat.le_of_ble_eq_true rfl) dX8_successShare_18
set_option maxHeartbeats 4000000 in
set_option maxRecDepth 100000 in
theorem cX9_successShare_ok {l : Launch} {ρ : bsR} {cA : Nat → ClassId} {dC : Nat → ClassId} {dI : Nat → Nat → Nat} {Rz : va_W} {X : bsX} {z : UInt32 × bsX} (hf : fX9_successShare X = some z) : bsMf l yX9_successShare cX9_successShare 1 (some .float) rmX9_successShare ρ cA dC dI Rz [.ref (ρ 14 0 0)] X z := by
  refine bsMf_of (by decide) (Nat.le_of_ble_eq_true rfl) (fun p e s m args below meth c C => ?_)
  have C : bsCx p m c cX9_successShare 1 s args (Cond.code yX9_successShare cX9_successShare 1 (some .float) :: bsG) RX9 ρ cA dC dI Rz meth (some .float) := C
  refine v_sub [0] rfl ?_
  refine v_aload_n C dX9_successShare_0 rfl rfl ?_
  rw [fX9_successShare] at hf
  obtain ⟨r11, hc12, hf⟩ := bs_bind hf
  refine v_callVi (y := yX9_notLoaded) (As := []) (rest := []) C (cX9_notLoaded_ok hc12) ml_X9_48 wyX9_notLoaded (bsm_X9) (bsc_X9) rfl dpX9_notLoaded ⟨Nat.le_of_ble_eq_true rfl, Nat.le_of_ble_eq_true rfl⟩ ⟨rfl, rfl⟩ ⟨Nat.le_of_ble_eq_true rfl, Nat.le_of_ble_eq_true rfl⟩ rfl (Nat.le_of_ble_eq_true rfl) dX9_successShare_1 ?_
  refine v_if_eq (tgt := 9) C dX9_successShare_4 (by decide) (fun h13 => ?_) (fun h13 => ?_)
  · replace hf := bs_pos h13 hf
    refine v_aload_n C dX9_successShare_9 rfl rfl ?_
    refine gf_X9_7 C dX9_successShare_10 ?_
    refine v_bipush (v := 13) C dX9_successShare_13 (by decide) ?_
    refine v_iald (n := 160) C bsm_14_1 bsc_14_1 (by decide) dX9_successShare_15 ?_
    refine v_if_ne (tgt := 23) C dX9_successShare_16 (by decide) (fun h5 => ?_) (fun h5 => ?_)
    · have h5 : ¬ (r11.2 14 1 0 13) = 0 := h5
      unfold fzF at hf
      rw [if_neg h5] at hf
      refine v_aload_n C dX9_successShare_23 rfl rfl ?_
      refine gf_X9_7 C dX9_successShare_24 ?_
      refine v_bipush (v := 17) C dX9_successShare_27 (by decide) ?_
      refine v_iald (n := 160) C bsm_14_1 bsc_14_1 (by decide) dX9_successShare_29 ?_
      refine v_i2f C dX9_successShare_30 ?_
      refine v_aload_n C dX9_successShare_31 rfl rfl ?_
      refine gf_X9_7 C dX9_successShare_32 ?_
      refine v_bipush (v := 13) C dX9_successShare_35 (by decide) ?_
      refine v_iald (n := 160) C bsm_14_1 bsc_14_1 (by decide) dX9_successShare_37 ?_
      refine v_i2f C dX9_successShare_38 ?_
      refine v_fdiv C dX9_successShare_39 (fz_fdiv h5).1 ?_
      exact v_fret C hf dX9_successShare_40
    · have h5 : (r11.2 14 1 0 13) = 0 := h5
      unfold fzF at hf
      rw [if_pos h5] at hf
      refine v_fconst0 C dX9_successShare_19 ?_
      refine v_goto (tgt := 40) C dX9_successShare_20 (by decide) ?_
      exact v_fret C hf dX9_successShare_40
  · replace hf := bs_neg h13 hf
    refine v_fconst0 C dX9_successShare_7 ?_
    exact v_fret C hf dX9_successShare_8
set_option maxHeartbeats 4000000 in
set_option maxRecDepth 100000 in
theorem cL_successShare_ok {l : Launch} {ρ : bsR} {cA : Nat → ClassId} {dC : Nat → ClassId} {dI : Nat → Nat → Nat} (hst : l.stackTraces = false) {X : bsX} {r : Nat × UInt32 × bsX} {lo : Int64} {od : UInt64} (hf : fX8_successShare X = some r) (hr : r.1 = 0 ∨ r.1 = 1) (hn : vf_n64 (FP.f2d r.2.1)) : bsWi l yL_successShare cL_successShare 3 (some .int) [(0, 8, 11, 20)] rmL_successShare ρ cA dC dI [.ref (ρ 13 0 0), .ref (ρ 15 1 0)] X lo od ((if r.1 = 1 then (1 : Int32) else (0 : Int32)), r.2.2) lo (if r.1 = 0 then (FP.f2d r.2.1) else od) := by
  refine bsWi_of (by decide +kernel) (Nat.le_of_ble_eq_true rfl) (fun p e s m args below meth c C T9 => ?_)
  have C : bsCx p m c cL_successShare 3 s args (Cond.codeWith yL_successShare cL_successShare 3 (some .int) [(0, 8, 11, 20)] :: bsG) RL ρ cA dC dI (bsRz ρ cA lo od) meth (some .int) := C
  refine v_sub [0, 1] rfl ?_
  refine v_aload_n C dL_successShare_0 rfl rfl ?_
  refine v_iconst (v := 0) C dL_successShare_1 (by decide) ?_
  refine v_aload_n C dL_successShare_2 rfl rfl ?_
  refine v_wcallf (y := yX8_successShare) (As := []) (rest := [.int 0, .ref (ρ 15 1 0)]) C T9 (cX8_successShare_ok hst hf) mlL_137 wyX8_successShare bsm_X8 bsc_X8 rfl dpX8_successShare ⟨Nat.le_of_ble_eq_true rfl, Nat.le_of_ble_eq_true rfl⟩ ⟨Nat.le_of_ble_eq_true rfl, Nat.le_of_ble_eq_true rfl⟩ rfl (Nat.le_of_ble_eq_true rfl) dL_successShare_3 (fun h0 => ?_) (fun h0 => ?_)
  · rcases hr with h1 | h1
    · omega
    · rw [h1]
      refine ⟨11, ⟨[], ⟨0, 8, 11, 20⟩, [], rfl, (fun z hz => nomatch hz), by decide, by decide, cl_20, rfl, by decide⟩, fun q9 => ?_⟩
      refine v_astore_n (lv' := [(2, .ref q9), (0, .ref (ρ 13 0 0)), (1, .ref (ρ 15 1 0))]) C dL_successShare_11 rfl (by decide) rfl ?_
      refine v_iconst (v := 1) C dL_successShare_12 (by decide) ?_
      exact v_wret C rfl (Nat.le_of_ble_eq_true rfl) (Nat.le_of_ble_eq_true rfl) dL_successShare_13
  · rw [h0]
    rw [if_pos (rfl : (0 : Nat) = 0)]
    refine v_f2d C dL_successShare_6 hn ?_
    refine v_dast C dL_successShare_7 ?_
    have C := bsCx_Rz C lo (FP.f2d r.2.1)
    refine v_goto (tgt := 14) C dL_successShare_8 (by decide) ?_
    refine v_iconst (v := 0) C dL_successShare_14 (by decide) ?_
    exact v_wret C rfl (Nat.le_of_ble_eq_true rfl) (Nat.le_of_ble_eq_true rfl) dL_successShare_15
def bsXQd (ρ : bsR) (cA : Nat → ClassId) (dC : Nat → ClassId) (dI : Nat → Nat → Nat) (Rz : va_W) (z : Nat × UInt64 × bsX) (sz : Nat) : Array Value → State → Outcome → State → Prop := va_Qd (fun (r : UInt64) (_ : Unit) => z.1 = 0 ∧ r = z.2.1) (fun _ t => bsWp ρ cA dC dI Rz z.2.2 t) (bsA ρ cA Rz sz)
def bsQd (ρ : bsR) (cA : Nat → ClassId) (dC : Nat → ClassId) (dI : Nat → Nat → Nat) (Rz : va_W) (z : UInt64 × bsX) (sz : Nat) : Array Value → State → Outcome → State → Prop := va_Qd (fun (r : UInt64) (_ : Unit) => r = z.1) (fun _ t => bsWp ρ cA dC dI Rz z.2 t) (bsA ρ cA Rz sz)
def bsTd (l : Launch) (y : MethodName) (b : ByteArray) (nL : Nat) (ret : Option FieldType) (rm : Room) (ρ : bsR) (cA : Nat → ClassId) (dC : Nat → ClassId) (dI : Nat → Nat → Nat) (Rz : va_W) (As : List Value) (X : bsX) (z : Nat × UInt64 × bsX) : Prop :=
  ∀ sz : Nat, vx_Met l y (Cond.code y b nL ret :: bsG) rm (va_Pc As (fun U => U.heap.size = sz ∧ bsWp ρ cA dC dI Rz X U)) (bsXQd ρ cA dC dI Rz z sz) (bsXX ρ cA dC dI Rz (z.1, (0 : Int32), z.2.2) sz) rm.cells rm.slots (bsA ρ cA Rz sz)
def bsMd (l : Launch) (y : MethodName) (b : ByteArray) (nL : Nat) (ret : Option FieldType) (rm : Room) (ρ : bsR) (cA : Nat → ClassId) (dC : Nat → ClassId) (dI : Nat → Nat → Nat) (Rz : va_W) (As : List Value) (X : bsX) (z : UInt64 × bsX) : Prop :=
  ∀ sz : Nat, Met l y (Cond.code y b nL ret :: bsG) rm (va_Pc As (fun U => U.heap.size = sz ∧ bsWp ρ cA dC dI Rz X U)) (bsQd ρ cA dC dI Rz z sz) 0 0 (bsA ρ cA Rz sz)
theorem bsTd_of {l : Launch} {y : MethodName} {b : ByteArray} {nL : Nat} {ret : Option FieldType} {rm : Room} {ρ : bsR} {cA : Nat → ClassId} {dC : Nat → ClassId} {dI : Nat → Nat → Nat} {Rz : va_W} {As : List Value} {X : bsX} {z : Nat × UInt64 × bsX} (hy : plainName y.cls = true) (hlen : (lg_sl As).length ≤ nL)
    (body : ∀ (p : Program) (e : Env) (s : State) (m : MethodId) (args : Array Value) (below : List Frame) (meth : Method) (c : Code), bsCx p m c b nL s args (Cond.code y b nL ret :: bsG) y.cls ρ cA dC dI Rz meth ret → (∀ x ∈ c.exceptionTable.toList, False) →
      bsV p l e rm s m args below meth c 0 0 (vx_MQ below (bsXQd ρ cA dC dI Rz z s.heap.size) (bsXX ρ cA dC dI Rz (z.1, (0 : Int32), z.2.2) s.heap.size) args s rm.cells rm.slots (bsA ρ cA Rz s.heap.size)) ρ cA dC dI Rz nL 0 (lv_args 0 As) [] X) : bsTd l y b nL ret rm ρ cA dC dI Rz As X z := by
  intro sz
  refine vx_ofW (cc := b) (maxL := nL) (ret := ret) hy rfl ?_
  intro p e s m args below meth c s₁ B hml ht hv
  obtain ⟨rfl, hsz, hP, hK, hD0, hN, hE⟩ := hv
  subst hsz
  have hts := atoms_spec (ws := Cond.code y b nL ret :: bsG) B.pre
  have hown : s.vm.findClass y.cls = some m.cls := findClass_of_methodNamed B.named
  have hl := lv_entry As hlen
  rw [lg_entry_eq]
  exact body p e s m _ below meth c ⟨⟨B.exec, B.bytes, hml, hown, hts⟩, hK, fun w h => List.mem_cons_of_mem _ h, ⟨hN, hE⟩, B.notSynchronized, B.returns⟩ ht _ _ _ hl hP (bsD_self _ hD0) va_S.rf
theorem bsMd_of {l : Launch} {y : MethodName} {b : ByteArray} {nL : Nat} {ret : Option FieldType} {rm : Room} {ρ : bsR} {cA : Nat → ClassId} {dC : Nat → ClassId} {dI : Nat → Nat → Nat} {Rz : va_W} {As : List Value} {X : bsX} {z : UInt64 × bsX} (hy : plainName y.cls = true) (hlen : (lg_sl As).length ≤ nL)
    (body : ∀ (p : Program) (e : Env) (s : State) (m : MethodId) (args : Array Value) (below : List Frame) (meth : Method) (c : Code), bsCx p m c b nL s args (Cond.code y b nL ret :: bsG) y.cls ρ cA dC dI Rz meth ret →
      bsV p l e rm s m args below meth c 0 0 (MQ below (bsQd ρ cA dC dI Rz z s.heap.size) args s 0 0 (bsA ρ cA Rz s.heap.size)) ρ cA dC dI Rz nL 0 (lv_args 0 As) [] X) : bsMd l y b nL ret rm ρ cA dC dI Rz As X z := by
  intro sz
  refine Met.ofW (cc := b) (maxL := nL) (ret := ret) hy rfl ?_
  intro p e s m args below meth c s₁ B hml hv
  obtain ⟨rfl, hsz, hP, hK, hD0, hN, hE⟩ := hv
  subst hsz
  have hts := atoms_spec (ws := Cond.code y b nL ret :: bsG) B.pre
  have hown : s.vm.findClass y.cls = some m.cls := findClass_of_methodNamed B.named
  have hl := lv_entry As hlen
  rw [lg_entry_eq]
  exact body p e s m _ below meth c ⟨⟨B.exec, B.bytes, hml, hown, hts⟩, hK, fun w h => List.mem_cons_of_mem _ h, ⟨hN, hE⟩, B.notSynchronized, B.returns⟩ _ _ _ hl hP (bsD_self _ hD0) va_S.rf
section BSF2
variable {p : Program} {l : Launch} {e : Env} {R : Room} {s : State} {m : MethodId} {args : Array Value} {below : List Frame} {meth : Method} {c : Code} {cells slots : Nat} {Q : State → Prop} {ρ : bsR} {cA : Nat → ClassId} {dC : Nat → ClassId} {dI : Nat → Nat → Nat} {Rz : va_W} {nL : Nat} {cc : ByteArray} {Ts : List Cond} {own : String} {ret : Option FieldType} {pc : Nat} {lv : List (Nat × Value)} {st : List Value} {X : bsX} {mc ms : Nat} {lo lo1 : Int64} {od od1 : UInt64}
theorem v_tdret (C : bsCx p m c cc nL s args Ts own ρ cA dC dI Rz meth (some .double)) {v : UInt64} {z : Nat × UInt64 × bsX} (hz : some (0, v, X) = some z) (h1 : cells ≤ mc) (h2 : slots ≤ ms) (hd : decode cc pc = .ok (.dreturn, 1)) : bsV p l e R s m args below meth c cells slots (vx_MQ below (bsXQd ρ cA dC dI Rz z s.heap.size) (bsXX ρ cA dC dI Rz (z.1, (0 : Int32), z.2.2) s.heap.size) args s mc ms (bsA ρ cA Rz s.heap.size)) ρ cA dC dI Rz nL pc lv [.double v] X := by
  intro ls H locs hl hP hD hS
  cases hz
  refine W.widen h1 h2 (vx_ret ?_)
  exact W.dret (v := v) C.1.1 C.1.2.1 C.2.2.2.2.2 (fun t ht hW => ⟨⟨v, (), rfl, ⟨rfl, rfl⟩, bsWp_end (locs := locs) C hP hD hS ht hW⟩, hS.F ht⟩) hS.2.2 hd C.2.2.2.2.1
theorem v_dret (C : bsCx p m c cc nL s args Ts own ρ cA dC dI Rz meth (some .double)) {v : UInt64} {z : UInt64 × bsX} (hz : some (v, X) = some z) (hd : decode cc pc = .ok (.dreturn, 1)) : bsV p l e R s m args below meth c 0 0 (MQ below (bsQd ρ cA dC dI Rz z s.heap.size) args s 0 0 (bsA ρ cA Rz s.heap.size)) ρ cA dC dI Rz nL pc lv [.double v] X := by
  intro ls H locs hl hP hD hS
  cases hz
  exact W.dret (v := v) C.1.1 C.1.2.1 C.2.2.2.2.2 (fun t ht hW => ⟨⟨v, (), rfl, rfl, bsWp_end (locs := locs) C hP hD hS ht hW⟩, hS.F ht⟩) hS.2.2 hd C.2.2.2.2.1
theorem v_callVd (C : bsCx p m c cc nL s args Ts own ρ cA dC dI Rz meth ret) {y : MethodName} {b : ByteArray} {nL' index g K j ci N : Nat} {ret' : Option FieldType} {rm' : Room} {As rest fs : List Value} {T : u_T} {z : UInt64 × bsX} (hM : bsMd l y b nL' ret' rm' ρ cA dC dI Rz (.ref (ρ g K j) :: As) X z)
    (hl0 : Cond.methodLink own index y ∈ bsG) (hw : bsWy y b nL' ret') (hk : (g, K, j) ∈ bsKeys) (hc : bsCell ρ cA g K j (X g K j) = .inr (ci, fs)) (hci : vwCl[ci]? = some (y.cls, T, N)) (hde : (parseMethodDescriptor y.desc).map (fun d => d.parameters.length) = some As.length)
    (hR : rm'.frames + 1 ≤ R.frames ∧ 8 + (nL' + 11) + rm'.locals ≤ R.locals) (hz0 : rm'.cells = 0 ∧ rm'.slots = 0) (hcs : cells ≤ R.cells ∧ slots ≤ R.slots) (hst : st = As.reverse ++ .ref (ρ g K j) :: rest) (hW : (rest.map fun v => v.category).sum ≤ 8) (hd : decode cc pc = .ok (.invokevirtual index, 3))
    (kk : bsV p l e R s m args below meth c cells slots Q ρ cA dC dI Rz nL (pc + 3) lv (.double z.1 :: rest) z.2) : bsV p l e R s m args below meth c cells slots Q ρ cA dC dI Rz nL pc lv st X := by
  intro ls H locs hl hP hD hS
  obtain ⟨q0, -, hq⟩ := bsWs_at hk
  have hpre := bs_pre (As := .ref (ρ g K j) :: As) C hP hD hS
  refine va_calld (va_runV (As := As) (rest := rest) C.1 (hM H.size) (cwV As.length C.1.2.2.2.2 (bs_goodV C.2.2.1 hl0 hw) rfl hz0.1 hz0.2 ⟨rfl, hw.2.2.2.2.1, hw.2.2.2.2.2, hde⟩ hR) ⟨hpre.1, va_recv C.2.1 hP hci ((hq ρ cA X Rz).trans (by rw [hc])), hpre.2⟩ rfl rfl hl.1 hst (lv_room hW) hd ⟨hcs.1, hcs.2⟩) hS (fun q _ h => bsA_mono hS.1 h) (fun q h => bsA_mono hS.1 h) (fun r u t H1 locs1 ht hvm hr hB hz1 hk1 hS1 => ?_)
  have hr1 : r = z.1 := hr
  subst hr1
  exact bs_back hl ht hB hS1 kk
theorem v_wcalld (C : bsCx p m c cc nL s args Ts own ρ cA dC dI Rz meth ret) {tb : List ExceptionTableEntry} (T9 : c.exceptionTable.toList = tb) {y : MethodName} {b : ByteArray} {nL' index : Nat} {ret' : Option FieldType} {rm' : Room} {As rest : List Value} {g K j ci N : Nat} {fs : List Value} {T : u_T} {r : Nat × UInt64 × bsX} (hM : bsTd l y b nL' ret' rm' ρ cA dC dI Rz (.ref (ρ g K j) :: As) X r)
    (hl0 : Cond.methodLink own index y ∈ bsG) (hw : bsWy y b nL' ret') (hk : (g, K, j) ∈ bsKeys) (hc : bsCell ρ cA g K j (X g K j) = .inr (ci, fs)) (hci : vwCl[ci]? = some (y.cls, T, N)) (hde : (parseMethodDescriptor y.desc).map (fun d => d.parameters.length) = some As.length)
    (hR : rm'.frames + 1 ≤ R.frames ∧ 8 + (nL' + 11) + rm'.locals ≤ R.locals) (hcs : cells + rm'.cells ≤ R.cells ∧ slots + rm'.slots ≤ R.slots) (hst : st = As.reverse ++ .ref (ρ g K j) :: rest) (hW : (rest.map fun v => v.category).sum ≤ 8) (hd : decode cc pc = .ok (.invokevirtual index, 3))
    (kx : 0 < r.1 → ∃ hp, bsHd own pc r.1 tb hp ∧ ∀ q9 : Nat, bsV p l e R s m args below meth c (cells + rm'.cells) (slots + rm'.slots) Q ρ cA dC dI Rz nL hp lv [.ref q9] r.2.2)
    (kk : r.1 = 0 → bsV p l e R s m args below meth c (cells + rm'.cells) (slots + rm'.slots) Q ρ cA dC dI Rz nL (pc + 3) lv (.double r.2.1 :: rest) r.2.2) : bsV p l e R s m args below meth c cells slots Q ρ cA dC dI Rz nL pc lv st X := by
  intro ls H locs hl hP hD hS
  obtain ⟨q0, -, hq⟩ := bsWs_at hk
  have hpre := bs_pre (As := .ref (ρ g K j) :: As) C hP hD hS
  refine vx_calld (vx_runV (As := As) (rest := rest) C.1 (hM H.size) (cwV As.length C.1.2.2.2.2 (bs_goodV C.2.2.1 hl0 hw) rfl rfl rfl ⟨rfl, hw.2.2.2.2.1, hw.2.2.2.2.2, hde⟩ hR) ⟨hpre.1, va_recv C.2.1 hP hci ((hq ρ cA X Rz).trans (by rw [hc])), hpre.2⟩ rfl rfl hl.1 hst (lv_room hW) hd hcs) hS (fun q _ h => bsA_mono hS.1 h) (fun q h => bsA_mono hS.1 h) (fun q _ h => bsA_mono hS.1 h) (fun E ce q9 u t H1 locs1 ht hvm hp hB hz1 hk1 hS1 hc1 hc2 hc3 => ?_) (fun r1 u t H1 locs1 ht hvm hr hB hz1 hk1 hS1 => ?_)
  · obtain ⟨⟨h0, hE⟩, hBw⟩ := hB
    obtain ⟨hp9, ⟨pre, x, suf, e1, e2, e3, e4, e5, e6, e7⟩, k9⟩ := kx h0
    subst hE
    have W9 := fun w (h : w ∈ bsG) => C.1.2.2.2.2 w (C.2.2.1 w h)
    refine vx_catch C.1.2.2.2.1 pre x suf (T9.trans e1) (fun z hz => Or.inr ?_) e3 e4 (W9 _ e5) (va_Nw.use rfl (C.2.2.2.1.2.2.2.2.2.2.1.1 _ e7)) hc1 hc2 hc3 ?_
    · obtain ⟨z1, F, hF, hne, hlk⟩ := e2 z hz
      exact ⟨z1, F, W9 _ hlk, C.2.2.2.1.2.2.2.2.2.2.2 _ e7 F hF hne⟩
    · rw [e6]
      exact bs_back hl ht hBw hS1 (k9 q9)
  · obtain ⟨h0, hr1⟩ := hr
    subst hr1
    exact bs_back hl ht hB hS1 (kk h0)
end BSF2
def fX8_meanBoot (X : bsX) : Option (Nat × UInt64 × bsX) := if X 13 0 0 7 = 0 then some (1, FP.dconst0, X) else some (0, fzD (X 0 0 0 9) (X 0 3 0 4), X)
def fX9_meanBoot (X : bsX) : Option (UInt64 × bsX) := (fX9_notLoaded X).bind fun r => if r.1 = 0 then some (fzD (r.2 14 1 0 1) (r.2 14 1 0 12), r.2) else some (FP.dconst0, r.2)
abbrev rmX8_meanBoot : Room := { frames := 7, cells := 1, slots := 6, locals := 110 }
abbrev rmX9_meanBoot : Room := { frames := 2, cells := 0, slots := 0, locals := 60 }
abbrev rmL_meanBoot : Room := { frames := 8, cells := 1, slots := 6, locals := 140 }
theorem mlL_141 : Cond.methodLink RL 141 yX8_meanBoot ∈ bsG := bsG_in 1237 (by decide +kernel) rfl
theorem wyX8_meanBoot : bsWy yX8_meanBoot cX8_meanBoot 1 (some .double) := ⟨bsG_in 1238 (by decide +kernel) rfl, bsG_in 1239 (by decide +kernel) rfl, bsG_in 102 (by decide +kernel) rfl, bsG_in 1240 (by decide +kernel) rfl, by decide +kernel, by decide +kernel⟩
theorem dpX8_meanBoot : (parseMethodDescriptor yX8_meanBoot.desc).map (fun d => d.parameters.length) = some 0 := by decide +kernel
theorem mlw_343 : Cond.methodLink RL 343 yX9_meanBoot ∈ bsG := bsG_in 1940 (by decide +kernel) rfl
theorem wyX9_meanBoot : bsWy yX9_meanBoot cX9_meanBoot 1 (some .double) := ⟨bsG_in 1941 (by decide +kernel) rfl, bsG_in 1942 (by decide +kernel) rfl, bsG_in 111 (by decide +kernel) rfl, bsG_in 1943 (by decide +kernel) rfl, by decide +kernel, by decide +kernel⟩
theorem dpX9_meanBoot : (parseMethodDescriptor yX9_meanBoot.desc).map (fun d => d.parameters.length) = some 0 := by decide +kernel
theorem mlw_341 : Cond.methodLink RL 341 yL_meanBoot ∈ bsG := bsG_in 1234 (by decide +kernel) rfl
theorem dpL_meanBoot : (parseMethodDescriptor yL_meanBoot.desc).map (fun d => d.parameters.length) = some 2 := by decide +kernel
theorem wwL_meanBoot : Cond.static yL_meanBoot ∈ bsG ∧ Cond.initialized yL_meanBoot.cls ∈ bsG ∧ Cond.codeWith yL_meanBoot cL_meanBoot 3 (some .int) [(0, 7, 10, 20)] ∈ bsG ∧ (yL_meanBoot.cls ≠ "java/lang/invoke/MethodHandle" ∧ yL_meanBoot.cls ≠ "java/lang/invoke/VarHandle") := ⟨bsG_in 1235 (by decide +kernel) rfl, bsG_in 101 (by decide +kernel) rfl, bsG_in 1236 (by decide +kernel) rfl, by decide +kernel, by decide +kernel⟩
set_option maxHeartbeats 4000000 in
set_option maxRecDepth 100000 in
theorem cX8_meanBoot_ok {l : Launch} {ρ : bsR} {cA : Nat → ClassId} {dC : Nat → ClassId} {dI : Nat → Nat → Nat} {Rz : va_W} (hst : l.stackTraces = false) {X : bsX} {z : Nat × UInt64 × bsX} (hf : fX8_meanBoot X = some z) : bsTd l yX8_meanBoot cX8_meanBoot 1 (some .double) rmX8_meanBoot ρ cA dC dI Rz [.ref (ρ 13 0 0)] X z := by
  refine bsTd_of (by decide) (Nat.le_of_ble_eq_true rfl) (fun p e s m args below meth c C T0 => ?_)
  have C : bsCx p m c cX8_meanBoot 1 s args (Cond.code yX8_meanBoot cX8_meanBoot 1 (some .double) :: bsG) RX8 ρ cA dC dI Rz meth (some .double) := C
  refine v_sub [0] rfl ?_
  refine v_aload_n C dX8_meanBoot_0 rfl rfl ?_
  have hc1 : fX8_requireLoaded X = some ((if X 13 0 0 7 = 0 then 1 else 0), (0 : Int32), X) := by
    unfold fX8_requireLoaded
    by_cases h : X 13 0 0 7 = 0
    · rw [if_pos h, if_pos h]
    · rw [if_neg h, if_neg h]
  have n10 : ¬ (1 : Nat) = 0 := by decide
  refine v_gcallVv (y := yX8_requireLoaded) (As := []) (rest := []) (z := (z.1, (0 : Int32), z.2.2)) C T0 (cX8_requireLoaded_ok hst hc1) ml_X8_82 wyX8_requireLoaded (bsm_X8) (bsc_X8) rfl dpX8_requireLoaded ⟨Nat.le_of_ble_eq_true rfl, Nat.le_of_ble_eq_true rfl⟩ ⟨Nat.le_of_ble_eq_true rfl, Nat.le_of_ble_eq_true rfl⟩ (Nat.le_of_ble_eq_true rfl) (Nat.le_of_ble_eq_true rfl) rfl (Nat.le_of_ble_eq_true rfl) dX8_meanBoot_1 (fun h => ?_) (fun h3 => ?_)
  · by_cases h0 : X 13 0 0 7 = 0
    · unfold fX8_meanBoot at hf
      rw [if_pos h0] at hf
      cases hf
      show some ((if X 13 0 0 7 = 0 then 1 else 0), (0 : Int32), X) = _
      rw [if_pos h0]
    · refine absurd ?_ h
      show (if X 13 0 0 7 = 0 then 1 else 0) = 0
      rw [if_neg h0]
  · have h0 : ¬ X 13 0 0 7 = 0 := by
      intro h0
      have h3 : (if X 13 0 0 7 = 0 then 1 else 0) = 0 := h3
      rw [if_pos h0] at h3
      exact n10 h3
    unfold fX8_meanBoot at hf
    replace hf := bs_neg h0 hf
    refine v_aload_n C dX8_meanBoot_4 rfl rfl ?_
    refine gf_X8_19 C dX8_meanBoot_5 ?_
    refine gf_X8_119 C (by decide) dX8_meanBoot_8 ?_
    refine gf_X8_123 C (by decide) dX8_meanBoot_11 ?_
    refine v_if_ne (tgt := 19) C dX8_meanBoot_14 (by decide) (fun h5 => ?_) (fun h5 => ?_)
    · have h5 : ¬ (X 0 3 0 4) = 0 := h5
      unfold fzD at hf
      rw [if_neg h5] at hf
      refine v_aload_n C dX8_meanBoot_19 rfl rfl ?_
      refine gf_X8_19 C dX8_meanBoot_20 ?_
      refine gf_X8_85 C (by decide) dX8_meanBoot_23 ?_
      refine v_i2d C dX8_meanBoot_26 ?_
      refine v_aload_n C dX8_meanBoot_27 rfl rfl ?_
      refine gf_X8_19 C dX8_meanBoot_28 ?_
      refine gf_X8_119 C (by decide) dX8_meanBoot_31 ?_
      refine gf_X8_123 C (by decide) dX8_meanBoot_34 ?_
      refine v_i2d C dX8_meanBoot_37 ?_
      refine v_ddiv C dX8_meanBoot_38 (fz_ddiv h5).1 ?_
      exact v_tdret C hf (Nat.le_of_ble_eq_true rfl) (Nat.le_of_ble_eq_true rfl) dX8_meanBoot_39
    · have h5 : (X 0 3 0 4) = 0 := h5
      unfold fzD at hf
      rw [if_pos h5] at hf
      refine v_dconst0 C dX8_meanBoot_17 ?_
      exact v_tdret C hf (Nat.le_of_ble_eq_true rfl) (Nat.le_of_ble_eq_true rfl) dX8_meanBoot_18
set_option maxHeartbeats 4000000 in
set_option maxRecDepth 100000 in
theorem cX9_meanBoot_ok {l : Launch} {ρ : bsR} {cA : Nat → ClassId} {dC : Nat → ClassId} {dI : Nat → Nat → Nat} {Rz : va_W} {X : bsX} {z : UInt64 × bsX} (hf : fX9_meanBoot X = some z) : bsMd l yX9_meanBoot cX9_meanBoot 1 (some .double) rmX9_meanBoot ρ cA dC dI Rz [.ref (ρ 14 0 0)] X z := by
  refine bsMd_of (by decide) (Nat.le_of_ble_eq_true rfl) (fun p e s m args below meth c C => ?_)
  have C : bsCx p m c cX9_meanBoot 1 s args (Cond.code yX9_meanBoot cX9_meanBoot 1 (some .double) :: bsG) RX9 ρ cA dC dI Rz meth (some .double) := C
  refine v_sub [0] rfl ?_
  refine v_aload_n C dX9_meanBoot_0 rfl rfl ?_
  rw [fX9_meanBoot] at hf
  obtain ⟨r11, hc12, hf⟩ := bs_bind hf
  refine v_callVi (y := yX9_notLoaded) (As := []) (rest := []) C (cX9_notLoaded_ok hc12) ml_X9_48 wyX9_notLoaded (bsm_X9) (bsc_X9) rfl dpX9_notLoaded ⟨Nat.le_of_ble_eq_true rfl, Nat.le_of_ble_eq_true rfl⟩ ⟨rfl, rfl⟩ ⟨Nat.le_of_ble_eq_true rfl, Nat.le_of_ble_eq_true rfl⟩ rfl (Nat.le_of_ble_eq_true rfl) dX9_meanBoot_1 ?_
  refine v_if_eq (tgt := 9) C dX9_meanBoot_4 (by decide) (fun h13 => ?_) (fun h13 => ?_)
  · replace hf := bs_pos h13 hf
    refine v_aload_n C dX9_meanBoot_9 rfl rfl ?_
    refine gf_X9_7 C dX9_meanBoot_10 ?_
    refine v_bipush (v := 12) C dX9_meanBoot_13 (by decide) ?_
    refine v_iald (n := 160) C bsm_14_1 bsc_14_1 (by decide) dX9_meanBoot_15 ?_
    refine v_if_ne (tgt := 23) C dX9_meanBoot_16 (by decide) (fun h5 => ?_) (fun h5 => ?_)
    · have h5 : ¬ (r11.2 14 1 0 12) = 0 := h5
      unfold fzD at hf
      rw [if_neg h5] at hf
      refine v_aload_n C dX9_meanBoot_23 rfl rfl ?_
      refine gf_X9_7 C dX9_meanBoot_24 ?_
      refine v_iconst (v := 1) C dX9_meanBoot_27 (by decide) ?_
      refine v_iald (n := 160) C bsm_14_1 bsc_14_1 (by decide) dX9_meanBoot_28 ?_
      refine v_i2d C dX9_meanBoot_29 ?_
      refine v_aload_n C dX9_meanBoot_30 rfl rfl ?_
      refine gf_X9_7 C dX9_meanBoot_31 ?_
      refine v_bipush (v := 12) C dX9_meanBoot_34 (by decide) ?_
      refine v_iald (n := 160) C bsm_14_1 bsc_14_1 (by decide) dX9_meanBoot_36 ?_
      refine v_i2d C dX9_meanBoot_37 ?_
      refine v_ddiv C dX9_meanBoot_38 (fz_ddiv h5).1 ?_
      exact v_dret C hf dX9_meanBoot_39
    · have h5 : (r11.2 14 1 0 12) = 0 := h5
      unfold fzD at hf
      rw [if_pos h5] at hf
      refine v_dconst0 C dX9_meanBoot_19 ?_
      refine v_goto (tgt := 39) C dX9_meanBoot_20 (by decide) ?_
      exact v_dret C hf dX9_meanBoot_39
  · replace hf := bs_neg h13 hf
    refine v_dconst0 C dX9_meanBoot_7 ?_
    exact v_dret C hf dX9_meanBoot_8
set_option maxHeartbeats 4000000 in
set_option maxRecDepth 100000 in
theorem cL_meanBoot_ok {l : Launch} {ρ : bsR} {cA : Nat → ClassId} {dC : Nat → ClassId} {dI : Nat → Nat → Nat} (hst : l.stackTraces = false) {X : bsX} {r : Nat × UInt64 × bsX} {lo : Int64} {od : UInt64} (hf : fX8_meanBoot X = some r) (hr : r.1 = 0 ∨ r.1 = 1) : bsWi l yL_meanBoot cL_meanBoot 3 (some .int) [(0, 7, 10, 20)] rmL_meanBoot ρ cA dC dI [.ref (ρ 13 0 0), .ref (ρ 15 1 0)] X lo od ((if r.1 = 1 then (1 : Int32) else (0 : Int32)), r.2.2) lo (if r.1 = 0 then r.2.1 else od) := by
  refine bsWi_of (by decide +kernel) (Nat.le_of_ble_eq_true rfl) (fun p e s m args below meth c C T9 => ?_)
  have C : bsCx p m c cL_meanBoot 3 s args (Cond.codeWith yL_meanBoot cL_meanBoot 3 (some .int) [(0, 7, 10, 20)] :: bsG) RL ρ cA dC dI (bsRz ρ cA lo od) meth (some .int) := C
  refine v_sub [0, 1] rfl ?_
  refine v_aload_n C dL_meanBoot_0 rfl rfl ?_
  refine v_iconst (v := 0) C dL_meanBoot_1 (by decide) ?_
  refine v_aload_n C dL_meanBoot_2 rfl rfl ?_
  refine v_wcalld (y := yX8_meanBoot) (As := []) (rest := [.int 0, .ref (ρ 15 1 0)]) C T9 (cX8_meanBoot_ok hst hf) mlL_141 wyX8_meanBoot bsm_X8 bsc_X8 rfl dpX8_meanBoot ⟨Nat.le_of_ble_eq_true rfl, Nat.le_of_ble_eq_true rfl⟩ ⟨Nat.le_of_ble_eq_true rfl, Nat.le_of_ble_eq_true rfl⟩ rfl (Nat.le_of_ble_eq_true rfl) dL_meanBoot_3 (fun h0 => ?_) (fun h0 => ?_)
  · rcases hr with h1 | h1
    · omega
    · rw [h1]
      refine ⟨10, ⟨[], ⟨0, 7, 10, 20⟩, [], rfl, (fun z hz => nomatch hz), by decide, by decide, cl_20, rfl, by decide⟩, fun q9 => ?_⟩
      refine v_astore_n (lv' := [(2, .ref q9), (0, .ref (ρ 13 0 0)), (1, .ref (ρ 15 1 0))]) C dL_meanBoot_10 rfl (by decide) rfl ?_
      refine v_iconst (v := 1) C dL_meanBoot_11 (by decide) ?_
      exact v_wret C rfl (Nat.le_of_ble_eq_true rfl) (Nat.le_of_ble_eq_true rfl) dL_meanBoot_12
  · rw [h0]
    rw [if_pos (rfl : (0 : Nat) = 0)]
    refine v_dast C dL_meanBoot_6 ?_
    have C := bsCx_Rz C lo r.2.1
    refine v_goto (tgt := 13) C dL_meanBoot_7 (by decide) ?_
    refine v_iconst (v := 0) C dL_meanBoot_13 (by decide) ?_
    exact v_wret C rfl (Nat.le_of_ble_eq_true rfl) (Nat.le_of_ble_eq_true rfl) dL_meanBoot_14
