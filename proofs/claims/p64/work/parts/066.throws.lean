/-! METHODS THAT THROW, over the state -/
section BSEnds
variable {p : Program} {l : Launch} {e : Env} {R : Room} {s : State} {m : MethodId} {args : Array Value} {below : List Frame} {meth : Method} {c : Code} {H : Heap} {locs : List Loc} {cells slots : Nat} {Q : State → Prop}
variable {mc ms : Nat} {free : Addr → Prop} {A0 A1 : Nat → Prop} {H0 : Heap} {a : Array Value} {ls : Array Slot} {st0 rest : List Value}
variable {Qc : Array Value → State → Outcome → State → Prop} {XC : String → State → State → Prop}
theorem bs_out {pc : Nat} {E : String} {ce : Cell} {q : Addr} {mc ms : Nat} (hout : ∀ x ∈ c.exceptionTable.toList, covers x pc = false) (hlocks : meth.locks = false) (hcell : H[q]? = some ce) (hv : ce.vm = .none) (hcl : s.vm.findClass E = some ce.cls)
    (hx : ∀ t : State, t.heap = H → s.WarmedH t.vm → XC E s t) (hf : ∀ z ∈ locs, free z.base) (hc : cells ≤ mc) (hs : slots ≤ ms) :
    vx_W p l e R s m args below meth c H locs cells slots (vx_MQ below Qc XC args s mc ms free) (F0 m pc ls rest) q := by
  intro T hT X
  obtain ⟨st1, hrun, hend, hW, hsm⟩ := X.leaveThrown q (g := F0 m pc ls rest) rfl rfl rfl hout hlocks
  have hcell9 : (T.setFrames (.throwing q :: below)).heap[q]? = some ce := by
    show T.heap[q]? = some ce
    rw [hT]; exact hcell
  exact ⟨_, st1, .threw q, hrun, hend, Or.inr ⟨q, rfl, E, ce, locs, hx _ hT hW, hcell9, hv, hcl, hW, hsm.mono hc hs, hf⟩⟩
theorem bs_throw0 {cc : ByteArray} {pc : Nat} (hexec : p.tables.exec = Jvm.exec) (hb : c.code = cc) (hl : l.stackTraces = false) {own cls : String} {names : List String} {ik ic mc ms : Nat} {A : Nat → Prop}
    (hown : s.vm.findClass own = some m.cls) (hcls : Bundle.fit cls = true) (hnames : ∀ n ∈ names, Bundle.fit n = true)
    (hk : (Cond.classLink own ik cls).before args s = true) (hini : (Cond.initialized cls).before args s = true) (hat : ∀ w ∈ vx_at0 own ic cls names, w.before args s = true)
    (hgood : ∀ w ∈ Cond.classLink own ik cls :: Cond.initialized cls :: vx_at0 own ic cls names, vx_ot w = true)
    (hU : vx_Zq Bundle.tN "UNASSIGNED_STACK" Bundle.steD A s s.heap) (hN : vx_Zq Bundle.tN "SUPPRESSED_SENTINEL" Bundle.listD A s s.heap) (hS : va_S A s.heap H locs) (hsize : ls.size = c.maxLocals)
    (d0 : decode cc pc = .ok (.new ik, 3)) (d3 : decode cc (pc + 3) = .ok (.dup, 1)) (d4 : decode cc (pc + 4) = .ok (.invokespecial ic, 3)) (d7 : decode cc (pc + 7) = .ok (.athrow, 1))
    (hout : ∀ x ∈ c.exceptionTable.toList, covers x (pc + 7) = false)
    (hRframes : names.length + 3 < R.frames) (hRlocals : (rest.map fun v => v.category).sum + (13 * (names.length + 1) + 42) ≤ R.locals) (hRcells : cells + 1 ≤ R.cells) (hRslots : slots + 6 ≤ R.slots) (hlocks : meth.locks = false)
    (hx : ∀ t : State, s.WarmedH t.vm → H.size ≤ t.heap.size → (∀ q : Nat, q < H.size → t.heap[q]? = H[q]?) → XC cls s t)
    (hf : ∀ z ∈ locs, free z.base) (hc : cells + 1 ≤ mc) (hs : slots + 6 ≤ ms) :
    W p l e R s m args below meth c H locs cells slots (vx_MQ below Qc XC args s mc ms free) (F0 m pc ls rest) := by
  intro T hT X
  have htr : e.platform.stackTraces = false := (show e.platform.stackTraces = l.stackTraces by rw [X.admits.platform]).trans hl
  have Y := vx_rebase X (R' := { frames := R.frames, locals := R.locals, cells := 1, slots := 6 }) (Nat.le_refl _) (Nat.le_refl _) hRcells hRslots
  obtain ⟨s', hA⟩ : ∃ z, z = (T.setVm s.vm).setFrames (.invoking m args :: below) := ⟨_, rfl⟩
  rw [← hA] at Y
  have hvm : s'.vm = s.vm := by rw [hA]; rfl
  have hhp : s'.heap = H := by rw [hA]; exact hT
  have hW0 : s.WarmedH s'.vm := by rw [hvm]; exact State.WarmedH.refl s
  have hat' : ∀ w ∈ vx_at0 own ic cls names, w.before args s' = true := fun w hw => vx_ot_at hW0 hvm.symm (hgood w (List.mem_cons_of_mem _ (List.mem_cons_of_mem _ hw))) (hat w hw)
  have hk' : (Cond.classLink own ik cls).before args s' = true := vx_ot_at hW0 hvm.symm (hgood _ List.mem_cons_self) hk
  have hini' : (Cond.initialized cls).before args s' = true := vx_ot_at hW0 hvm.symm (hgood _ (List.mem_cons_of_mem _ List.mem_cons_self)) hini
  have hU' : vx_Zq Bundle.tN "UNASSIGNED_STACK" Bundle.steD A s' s'.heap := by rw [hhp]; exact vx_Zq.moved hW0.alike (hU.kept hS.2.1)
  have hN' : vx_Zq Bundle.tN "SUPPRESSED_SENTINEL" Bundle.listD A s' s'.heap := by rw [hhp]; exact vx_Zq.moved hW0.alike (hN.kept hS.2.1)
  have h : ∀ w ∈ Bundle.ownAtoms0 own ic cls names, w.before args s' = true := vx_own hat' (vx_isRefq hU'.1) (vx_isRefq hN'.1) hU'.2.word hN'.2.word
  have hown' : s'.vm.findClass own = some m.cls := by rw [hvm]; exact hown
  have hins : (Cond.instantiable cls 6).before args s' = true := h _ (by simp [Bundle.ownAtoms0])
  obtain ⟨vm₁, cX, kX, hfX, hkX, -, -, X₁, st1⟩ := Y.newCold hexec (own := own) (C := cls) (index := ik) (n := 6) hown' hk' hins hini'
    (g := F0 m pc ls rest) rfl (by rw [hb]; exact d0) (Nat.le_refl _) (Nat.le_refl _)
  generalize hT1 : (T.setVm vm₁).pushCell { cls := cX, slots := kX.instanceTypes.map defaultValue, vm := .none } = T1 at X₁ st1
  have hcat : (Value.ref T.heap.size).category = 1 := rfl
  have hcellA : T1.heap[T.heap.size]? = some (freshCell cX kX) := by rw [← hT1]; exact State.heap_pushCell_size _ _
  have d3' : decode c.code (pc + 3) = .ok (.dup, 1) := by rw [hb]; exact d3
  obtain ⟨U, hsteps, hrun, hend, hW, hsame, ce, hce, hO⟩ := X₁.ctorThrow0 hexec htr (own := own) (cls := cls) (names := names) (ic := ic) hown' hcls hnames h (fun x hx => nomatch hx) hfX hkX hcellA (by rw [hhp, hT]; exact Nat.le_refl _)
    (g := { method := m, pc := pc + 4, locals := ls, stack := .ref T.heap.size :: .ref T.heap.size :: rest, locked := none }) rfl hsize rfl rfl (rest := rest) rfl
    (by rw [hb]; exact d4) (by rw [hb]; exact d7) hout hRframes (by simp only [List.map_cons, List.sum_cons, hcat]; omega) hlocks
  obtain ⟨f1, f2⟩ := vx_frame hsame
  rw [hhp] at f1 f2
  have hWs : s.WarmedH U.vm := State.WarmedH.trans hW0 hW
  have hcl : s.vm.findClass cls = some ce.cls := by
    have h9 := hO.cls
    rw [hvm] at h9
    exact h9
  have hall : s.sameButNew ({ U with vm := s.vm } : State) locs mc ms := by
    subst hA
    obtain ⟨e1, e2⟩ := hsame
    rw [State.setFrames_setFrames] at e1
    have h2 : (T.setVm s.vm).sameButNew ({ U with vm := s.vm } : State) [] (0 + 1) (0 + 6) := ⟨e1, e2⟩
    have h3 := X.same.trans h2
    rw [List.append_nil] at h3
    exact h3.mono hc hs
  refine ⟨U, ?_, .threw T.heap.size, hrun, hend, Or.inr ⟨T.heap.size, rfl, cls, ce, locs, hx U hWs f1 (fun q hq => f2 q hq (fun z hz => nomatch hz)), hce, hO.vm, hcl, hWs, hall, hf⟩⟩
  refine st1 _ ?_
  show Steps p.tables e below (T1.setTop { method := m, pc := pc + 3, locals := ls, stack := .ref T.heap.size :: rest, locked := none }) _
  jvm_step X₁.here [X₁.here.top, hexec, d3', Value.category]
  exact hsteps
end BSEnds
abbrev bsXr : Type := Nat × Int32 × bsX
/-- the exceptions by their numbers -/
def bsEn (k : Nat) : String := if k = 1 then "java/lang/IllegalStateException" else if k = 2 then "java/lang/IndexOutOfBoundsException" else "java/lang/IllegalArgumentException"
def bsXQi (ρ : bsR) (cA : Nat → ClassId) (dC : Nat → ClassId) (dI : Nat → Nat → Nat) (Rz : va_W) (z : bsXr) (sz : Nat) : Array Value → State → Outcome → State → Prop := va_Qi (fun (r : Int32) (_ : Unit) => z.1 = 0 ∧ r = z.2.1) (fun _ t => bsWp ρ cA dC dI Rz z.2.2 t) (bsA ρ cA Rz sz)
def bsXQv (ρ : bsR) (cA : Nat → ClassId) (dC : Nat → ClassId) (dI : Nat → Nat → Nat) (Rz : va_W) (z : bsXr) (sz : Nat) : Array Value → State → Outcome → State → Prop := va_Qv (fun (_ : Unit) => z.1 = 0) (fun _ t => bsWp ρ cA dC dI Rz z.2.2 t) (bsA ρ cA Rz sz)
def bsXX (ρ : bsR) (cA : Nat → ClassId) (dC : Nat → ClassId) (dI : Nat → Nat → Nat) (Rz : va_W) (z : bsXr) (sz : Nat) : String → State → State → Prop := vx_X (fun (_ : Unit) => True) (fun E _ t => (0 < z.1 ∧ E = bsEn z.1) ∧ bsWp ρ cA dC dI Rz z.2.2 t) (bsA ρ cA Rz sz)
/-- a method that answers an int or throws: z = (0, answer, contents) or (the exception's number, 0, contents) -/
def bsTi (l : Launch) (y : MethodName) (b : ByteArray) (nL : Nat) (ret : Option FieldType) (rm : Room) (ρ : bsR) (cA : Nat → ClassId) (dC : Nat → ClassId) (dI : Nat → Nat → Nat) (Rz : va_W) (As : List Value) (X : bsX) (z : bsXr) : Prop :=
  ∀ sz : Nat, vx_Met l y (Cond.code y b nL ret :: bsG) rm (va_Pc As (fun U => U.heap.size = sz ∧ bsWp ρ cA dC dI Rz X U)) (bsXQi ρ cA dC dI Rz z sz) (bsXX ρ cA dC dI Rz z sz) rm.cells rm.slots (bsA ρ cA Rz sz)
def bsTv (l : Launch) (y : MethodName) (b : ByteArray) (nL : Nat) (ret : Option FieldType) (rm : Room) (ρ : bsR) (cA : Nat → ClassId) (dC : Nat → ClassId) (dI : Nat → Nat → Nat) (Rz : va_W) (As : List Value) (X : bsX) (z : bsXr) : Prop :=
  ∀ sz : Nat, vx_Met l y (Cond.code y b nL ret :: bsG) rm (va_Pc As (fun U => U.heap.size = sz ∧ bsWp ρ cA dC dI Rz X U)) (bsXQv ρ cA dC dI Rz z sz) (bsXX ρ cA dC dI Rz z sz) rm.cells rm.slots (bsA ρ cA Rz sz)
theorem bsTi_of {l : Launch} {y : MethodName} {b : ByteArray} {nL : Nat} {ret : Option FieldType} {rm : Room} {ρ : bsR} {cA : Nat → ClassId} {dC : Nat → ClassId} {dI : Nat → Nat → Nat} {Rz : va_W} {As : List Value} {X : bsX} {z : bsXr} (hy : plainName y.cls = true) (hlen : (lg_sl As).length ≤ nL)
    (body : ∀ (p : Program) (e : Env) (s : State) (m : MethodId) (args : Array Value) (below : List Frame) (meth : Method) (c : Code), bsCx p m c b nL s args (Cond.code y b nL ret :: bsG) y.cls ρ cA dC dI Rz meth ret → (∀ x ∈ c.exceptionTable.toList, False) →
      bsV p l e rm s m args below meth c 0 0 (vx_MQ below (bsXQi ρ cA dC dI Rz z s.heap.size) (bsXX ρ cA dC dI Rz z s.heap.size) args s rm.cells rm.slots (bsA ρ cA Rz s.heap.size)) ρ cA dC dI Rz nL 0 (lv_args 0 As) [] X) : bsTi l y b nL ret rm ρ cA dC dI Rz As X z := by
  intro sz
  refine vx_ofW (cc := b) (maxL := nL) (ret := ret) hy rfl ?_
  intro p e s m args below meth c s₁ B hml ht hv
  obtain ⟨rfl, hsz, hP, hK, hD0, hN, hE⟩ := hv
  subst hsz
  have hts := atoms_spec (ws := Cond.code y b nL ret :: bsG) B.pre
  have hown : s.vm.findClass y.cls = some m.cls := findClass_of_methodNamed B.named
  have hl := lv_entry As hlen
  rw [lg_entry_eq]
  exact body p e s m _ below meth c ⟨⟨B.exec, B.bytes, hml, hown, hts⟩, hK, fun w h => List.mem_cons_of_mem _ h, ⟨hN, hE⟩, B.notSynchronized, B.returns⟩ ht _ _ _ hl hP (bsD_self _ hD0) va_S.rf
theorem bsTv_of {l : Launch} {y : MethodName} {b : ByteArray} {nL : Nat} {ret : Option FieldType} {rm : Room} {ρ : bsR} {cA : Nat → ClassId} {dC : Nat → ClassId} {dI : Nat → Nat → Nat} {Rz : va_W} {As : List Value} {X : bsX} {z : bsXr} (hy : plainName y.cls = true) (hlen : (lg_sl As).length ≤ nL)
    (body : ∀ (p : Program) (e : Env) (s : State) (m : MethodId) (args : Array Value) (below : List Frame) (meth : Method) (c : Code), bsCx p m c b nL s args (Cond.code y b nL ret :: bsG) y.cls ρ cA dC dI Rz meth ret → (∀ x ∈ c.exceptionTable.toList, False) →
      bsV p l e rm s m args below meth c 0 0 (vx_MQ below (bsXQv ρ cA dC dI Rz z s.heap.size) (bsXX ρ cA dC dI Rz z s.heap.size) args s rm.cells rm.slots (bsA ρ cA Rz s.heap.size)) ρ cA dC dI Rz nL 0 (lv_args 0 As) [] X) : bsTv l y b nL ret rm ρ cA dC dI Rz As X z := by
  intro sz
  refine vx_ofW (cc := b) (maxL := nL) (ret := ret) hy rfl ?_
  intro p e s m args below meth c s₁ B hml ht hv
  obtain ⟨rfl, hsz, hP, hK, hD0, hN, hE⟩ := hv
  subst hsz
  have hts := atoms_spec (ws := Cond.code y b nL ret :: bsG) B.pre
  have hown : s.vm.findClass y.cls = some m.cls := findClass_of_methodNamed B.named
  have hl := lv_entry As hlen
  rw [lg_entry_eq]
  exact body p e s m _ below meth c ⟨⟨B.exec, B.bytes, hml, hown, hts⟩, hK, fun w h => List.mem_cons_of_mem _ h, ⟨hN, hE⟩, B.notSynchronized, B.returns⟩ ht _ _ _ hl hP (bsD_self _ hD0) va_S.rf
section BSX
variable {p : Program} {l : Launch} {e : Env} {R : Room} {s : State} {m : MethodId} {args : Array Value} {below : List Frame} {meth : Method} {c : Code} {cells slots : Nat} {Q : State → Prop} {ρ : bsR} {cA : Nat → ClassId} {dC : Nat → ClassId} {dI : Nat → Nat → Nat} {Rz : va_W} {nL : Nat} {cc : ByteArray} {Ts : List Cond} {own : String} {ret : Option FieldType} {pc : Nat} {lv : List (Nat × Value)} {st : List Value} {X : bsX} {mc ms : Nat}
theorem v_tiret (C : bsCx p m c cc nL s args Ts own ρ cA dC dI Rz meth (some .int)) {v : Int32} {z : bsXr} (hz : some (0, v, X) = some z) (h1 : cells ≤ mc) (h2 : slots ≤ ms) (hd : decode cc pc = .ok (.ireturn, 1)) : bsV p l e R s m args below meth c cells slots (vx_MQ below (bsXQi ρ cA dC dI Rz z s.heap.size) (bsXX ρ cA dC dI Rz z s.heap.size) args s mc ms (bsA ρ cA Rz s.heap.size)) ρ cA dC dI Rz nL pc lv [.int v] X := by
  intro ls H locs hl hP hD hS
  cases hz
  refine W.widen h1 h2 (vx_ret ?_)
  exact W.iret (v := v) C.1.1 C.1.2.1 C.2.2.2.2.2 (fun t ht hW => ⟨⟨v, (), rfl, ⟨rfl, rfl⟩, bsWp_end (locs := locs) C hP hD hS ht hW⟩, hS.F ht⟩) hS.2.2 hd C.2.2.2.2.1
theorem v_tzret (C : bsCx p m c cc nL s args Ts own ρ cA dC dI Rz meth (some .boolean)) {v : Int32} (hb : narrow .boolean (.int v) = .int v) {z : bsXr} (hz : some (0, v, X) = some z) (h1 : cells ≤ mc) (h2 : slots ≤ ms) (hd : decode cc pc = .ok (.ireturn, 1)) : bsV p l e R s m args below meth c cells slots (vx_MQ below (bsXQi ρ cA dC dI Rz z s.heap.size) (bsXX ρ cA dC dI Rz z s.heap.size) args s mc ms (bsA ρ cA Rz s.heap.size)) ρ cA dC dI Rz nL pc lv [.int v] X := by
  intro ls H locs hl hP hD hS
  cases hz
  refine W.widen h1 h2 (vx_ret ?_)
  exact W.zret (v := v) C.1.1 C.1.2.1 C.2.2.2.2.2 hb (fun t ht hW => ⟨⟨v, (), rfl, ⟨rfl, rfl⟩, bsWp_end (locs := locs) C hP hD hS ht hW⟩, hS.F ht⟩) hS.2.2 hd C.2.2.2.2.1
theorem v_tvret (C : bsCx p m c cc nL s args Ts own ρ cA dC dI Rz meth none) {z : bsXr} (hz : some (0, (0 : Int32), X) = some z) (h1 : cells ≤ mc) (h2 : slots ≤ ms) (hd : decode cc pc = .ok (.return_, 1)) : bsV p l e R s m args below meth c cells slots (vx_MQ below (bsXQv ρ cA dC dI Rz z s.heap.size) (bsXX ρ cA dC dI Rz z s.heap.size) args s mc ms (bsA ρ cA Rz s.heap.size)) ρ cA dC dI Rz nL pc lv [] X := by
  intro ls H locs hl hP hD hS
  cases hz
  refine W.widen h1 h2 (vx_ret ?_)
  exact W.vret C.1.1 C.1.2.1 C.2.2.2.2.2 (fun t ht hW => ⟨⟨(), rfl, rfl, bsWp_end (locs := locs) C hP hD hS ht hW⟩, hS.F ht⟩) hS.2.2 hd C.2.2.2.2.1
/-- the words of 'throw new E()' -/
def bsTw (own : String) (ik ic : Nat) (E : String) : Prop := Cond.classLink own ik E ∈ bsG ∧ Cond.initialized E ∈ bsG ∧ (∀ w ∈ (vx_at0 own ic E ["java/lang/RuntimeException", "java/lang/Exception"]).filter goodWord, w ∈ bsG) ∧ (∀ w ∈ (vx_at0 own ic E ["java/lang/RuntimeException", "java/lang/Exception"]).filter (fun w => !goodWord w), w ∈ Cond.castable E E :: bsDc.map Cond.declares) ∧ (∀ w ∈ Cond.classLink own ik E :: Cond.initialized E :: vx_at0 own ic E ["java/lang/RuntimeException", "java/lang/Exception"], vx_ot w = true) ∧ Bundle.fit E = true
theorem bsP_new {H : Heap} {t : State} (hP : va_P (dC, dI) vwCl (bsWs ρ cA X Rz) H) (hk : ∀ q : Nat, q < H.size → t.heap[q]? = H[q]?) : va_P (dC, dI) vwCl (bsWs ρ cA X Rz) t.heap := hP.kept (fun k q h => hk _ (hP k q h).lt)
theorem v_throwi (C : bsCx p m c cc nL s args Ts own ρ cA dC dI Rz meth ret) (T0 : ∀ x ∈ c.exceptionTable.toList, False) (hst : l.stackTraces = false) {k ik ic : Nat} {z : bsXr} (hz : some (k, (0 : Int32), X) = some z) (hk : 0 < k) (hin : bsEn k ∈ ["java/lang/IllegalStateException", "java/lang/IndexOutOfBoundsException", "java/lang/IllegalArgumentException"]) (hw : bsTw own ik ic (bsEn k)) (hR : 6 ≤ R.frames ∧ 81 ≤ R.locals) (hc : cells + 1 ≤ R.cells ∧ slots + 6 ≤ R.slots) (h1 : cells + 1 ≤ mc) (h2 : slots + 6 ≤ ms)
    (d0 : decode cc pc = .ok (.new ik, 3)) (d3 : decode cc (pc + 3) = .ok (.dup, 1)) (d4 : decode cc (pc + 4) = .ok (.invokespecial ic, 3)) (d7 : decode cc (pc + 7) = .ok (.athrow, 1)) :
    bsV p l e R s m args below meth c cells slots (vx_MQ below (bsXQi ρ cA dC dI Rz z s.heap.size) (bsXX ρ cA dC dI Rz z s.heap.size) args s mc ms (bsA ρ cA Rz s.heap.size)) ρ cA dC dI Rz nL pc lv [] X := by
  intro ls H locs hl hP hD hS
  cases hz
  have W9 := fun w (h : w ∈ bsG) => C.1.2.2.2.2 w (C.2.2.1 w h)
  have E9 := C.2.2.2.1.2
  refine bs_throw0 C.1.1 C.1.2.1 hst (own := own) (cls := bsEn k) (names := ["java/lang/RuntimeException", "java/lang/Exception"]) C.1.2.2.2.1 hw.2.2.2.2.2 (by decide +kernel) (W9 _ hw.1) (W9 _ hw.2.1)
    (vx_hat (fun w h => W9 w (hw.2.2.1 w h)) hw.2.2.2.1 (fun w h => by
      rcases List.mem_cons.mp h with rfl | h
      · exact va_Nw.use rfl (E9.2.2.2.2.2.1.1 _ hin)
      · obtain ⟨Y, hY, rfl⟩ := List.mem_map.mp h
        exact va_Nw.use rfl (E9.2.2.2.2.2.1.2 _ hY))) hw.2.2.2.2.1 E9.2.2.2.2.1.1 E9.2.2.2.2.1.2 hS (hl.1.trans C.1.2.2.1.symm) d0 d3 d4 d7 (fun x hx => (T0 x hx).elim)
    hR.1 (by simpa using hR.2) hc.1 hc.2 C.2.2.2.2.1 (fun t hW hz hq => ⟨(), trivial, ⟨⟨hk, rfl⟩, ?_, va_K.moved hW.alike C.2.1, hD.weaken (fun _ _ _ _ => trivial), bsNw.warm hW C.2.2.2.1.1, bsEx.go E9 hW ?_ (fun q h => bsA_mono (Nat.le_trans hS.1 hz) h)⟩, ?_⟩) hS.2.2 h1 h2
  · exact bsP_new hP hq
  · intro a ha hn
    rw [hq a (Nat.lt_of_lt_of_le ha hS.1)]
    exact hS.2.1 a ha hn
  · exact ⟨Nat.le_trans hS.1 hz, fun q h1 h2 => by rw [hq q (Nat.lt_of_lt_of_le h1 hS.1)]; exact hS.2.1 q h1 h2⟩
theorem v_throwv (C : bsCx p m c cc nL s args Ts own ρ cA dC dI Rz meth ret) (T0 : ∀ x ∈ c.exceptionTable.toList, False) (hst : l.stackTraces = false) {k ik ic : Nat} {z : bsXr} (hz : some (k, (0 : Int32), X) = some z) (hk : 0 < k) (hin : bsEn k ∈ ["java/lang/IllegalStateException", "java/lang/IndexOutOfBoundsException", "java/lang/IllegalArgumentException"]) (hw : bsTw own ik ic (bsEn k)) (hR : 6 ≤ R.frames ∧ 81 ≤ R.locals) (hc : cells + 1 ≤ R.cells ∧ slots + 6 ≤ R.slots) (h1 : cells + 1 ≤ mc) (h2 : slots + 6 ≤ ms)
    (d0 : decode cc pc = .ok (.new ik, 3)) (d3 : decode cc (pc + 3) = .ok (.dup, 1)) (d4 : decode cc (pc + 4) = .ok (.invokespecial ic, 3)) (d7 : decode cc (pc + 7) = .ok (.athrow, 1)) :
    bsV p l e R s m args below meth c cells slots (vx_MQ below (bsXQv ρ cA dC dI Rz z s.heap.size) (bsXX ρ cA dC dI Rz z s.heap.size) args s mc ms (bsA ρ cA Rz s.heap.size)) ρ cA dC dI Rz nL pc lv [] X := by
  intro ls H locs hl hP hD hS
  cases hz
  have W9 := fun w (h : w ∈ bsG) => C.1.2.2.2.2 w (C.2.2.1 w h)
  have E9 := C.2.2.2.1.2
  refine bs_throw0 C.1.1 C.1.2.1 hst (own := own) (cls := bsEn k) (names := ["java/lang/RuntimeException", "java/lang/Exception"]) C.1.2.2.2.1 hw.2.2.2.2.2 (by decide +kernel) (W9 _ hw.1) (W9 _ hw.2.1)
    (vx_hat (fun w h => W9 w (hw.2.2.1 w h)) hw.2.2.2.1 (fun w h => by
      rcases List.mem_cons.mp h with rfl | h
      · exact va_Nw.use rfl (E9.2.2.2.2.2.1.1 _ hin)
      · obtain ⟨Y, hY, rfl⟩ := List.mem_map.mp h
        exact va_Nw.use rfl (E9.2.2.2.2.2.1.2 _ hY))) hw.2.2.2.2.1 E9.2.2.2.2.1.1 E9.2.2.2.2.1.2 hS (hl.1.trans C.1.2.2.1.symm) d0 d3 d4 d7 (fun x hx => (T0 x hx).elim)
    hR.1 (by simpa using hR.2) hc.1 hc.2 C.2.2.2.2.1 (fun t hW hz hq => ⟨(), trivial, ⟨⟨hk, rfl⟩, ?_, va_K.moved hW.alike C.2.1, hD.weaken (fun _ _ _ _ => trivial), bsNw.warm hW C.2.2.2.1.1, bsEx.go E9 hW ?_ (fun q h => bsA_mono (Nat.le_trans hS.1 hz) h)⟩, ?_⟩) hS.2.2 h1 h2
  · exact bsP_new hP hq
  · intro a ha hn
    rw [hq a (Nat.lt_of_lt_of_le ha hS.1)]
    exact hS.2.1 a ha hn
  · exact ⟨Nat.le_trans hS.1 hz, fun q h1 h2 => by rw [hq q (Nat.lt_of_lt_of_le h1 hS.1)]; exact hS.2.1 q h1 h2⟩
theorem bs_outXi (C : bsCx p m c cc nL s args Ts own ρ cA dC dI Rz meth ret) (T0 : ∀ x ∈ c.exceptionTable.toList, False) {r z : bsXr} {E : String} {ce : Cell} {q9 : Addr} {t0 : State} {H1 : Heap} {locs1 : List Loc} {ls : Array Slot} (ht : t0.heap = H1) (hB : (0 < r.1 ∧ E = bsEn r.1) ∧ bsWp ρ cA dC dI Rz r.2.2 t0) (hS : va_S (bsA ρ cA Rz s.heap.size) s.heap H1 locs1) (hcell : H1[q9]? = some ce) (hv : ce.vm = .none) (hcl : s.vm.findClass E = some ce.cls) (hx : ¬ r.1 = 0 → some (r.1, (0 : Int32), r.2.2) = some z) (h1 : cells ≤ mc) (h2 : slots ≤ ms) :
    vx_W p l e R s m args below meth c H1 locs1 cells slots (vx_MQ below (bsXQi ρ cA dC dI Rz z s.heap.size) (bsXX ρ cA dC dI Rz z s.heap.size) args s mc ms (bsA ρ cA Rz s.heap.size)) (F0 m pc ls st) q9 := by
  obtain ⟨⟨h0, hE⟩, hP1, -, hD1, -⟩ := hB
  rw [ht] at hP1
  have hz := hx (by omega)
  cases hz
  exact bs_out (fun x hx => (T0 x hx).elim) C.2.2.2.2.1 hcell hv hcl (fun t htH hW => ⟨(), trivial, ⟨⟨h0, hE⟩, bsWp_end C hP1 (bsD_self _ hD1) hS htH hW⟩, hS.F htH⟩) hS.2.2 h1 h2
theorem bs_outXv (C : bsCx p m c cc nL s args Ts own ρ cA dC dI Rz meth ret) (T0 : ∀ x ∈ c.exceptionTable.toList, False) {r z : bsXr} {E : String} {ce : Cell} {q9 : Addr} {t0 : State} {H1 : Heap} {locs1 : List Loc} {ls : Array Slot} (ht : t0.heap = H1) (hB : (0 < r.1 ∧ E = bsEn r.1) ∧ bsWp ρ cA dC dI Rz r.2.2 t0) (hS : va_S (bsA ρ cA Rz s.heap.size) s.heap H1 locs1) (hcell : H1[q9]? = some ce) (hv : ce.vm = .none) (hcl : s.vm.findClass E = some ce.cls) (hx : ¬ r.1 = 0 → some (r.1, (0 : Int32), r.2.2) = some z) (h1 : cells ≤ mc) (h2 : slots ≤ ms) :
    vx_W p l e R s m args below meth c H1 locs1 cells slots (vx_MQ below (bsXQv ρ cA dC dI Rz z s.heap.size) (bsXX ρ cA dC dI Rz z s.heap.size) args s mc ms (bsA ρ cA Rz s.heap.size)) (F0 m pc ls st) q9 := by
  obtain ⟨⟨h0, hE⟩, hP1, -, hD1, -⟩ := hB
  rw [ht] at hP1
  have hz := hx (by omega)
  cases hz
  exact bs_out (fun x hx => (T0 x hx).elim) C.2.2.2.2.1 hcell hv hcl (fun t htH hW => ⟨(), trivial, ⟨⟨h0, hE⟩, bsWp_end C hP1 (bsD_self _ hD1) hS htH hW⟩, hS.F htH⟩) hS.2.2 h1 h2
theorem v_ticallVi (C : bsCx p m c cc nL s args Ts own ρ cA dC dI Rz meth ret) (T0 : ∀ x ∈ c.exceptionTable.toList, False) {y : MethodName} {b : ByteArray} {nL' index : Nat} {ret' : Option FieldType} {rm' : Room} {As rest : List Value} {g K j ci N : Nat} {fs : List Value} {T : u_T} {r z : bsXr} (hM : bsTi l y b nL' ret' rm' ρ cA dC dI Rz (.ref (ρ g K j) :: As) X r)
    (hl0 : Cond.methodLink own index y ∈ bsG) (hw : bsWy y b nL' ret') (hk : (g, K, j) ∈ bsKeys) (hc : bsCell ρ cA g K j (X g K j) = .inr (ci, fs)) (hci : vwCl[ci]? = some (y.cls, T, N)) (hde : (parseMethodDescriptor y.desc).map (fun d => d.parameters.length) = some As.length)
    (hR : rm'.frames + 1 ≤ R.frames ∧ 8 + (nL' + 11) + rm'.locals ≤ R.locals) (hcs : cells + rm'.cells ≤ R.cells ∧ slots + rm'.slots ≤ R.slots) (h1 : cells + rm'.cells ≤ mc) (h2 : slots + rm'.slots ≤ ms) (hst : st = As.reverse ++ .ref (ρ g K j) :: rest) (hW : (rest.map fun v => v.category).sum ≤ 8) (hd : decode cc pc = .ok (.invokevirtual index, 3)) (hx : ¬ r.1 = 0 → some (r.1, (0 : Int32), r.2.2) = some z)
    (kk : r.1 = 0 → bsV p l e R s m args below meth c (cells + rm'.cells) (slots + rm'.slots) (vx_MQ below (bsXQi ρ cA dC dI Rz z s.heap.size) (bsXX ρ cA dC dI Rz z s.heap.size) args s mc ms (bsA ρ cA Rz s.heap.size)) ρ cA dC dI Rz nL (pc + 3) lv (.int r.2.1 :: rest) r.2.2) : bsV p l e R s m args below meth c cells slots (vx_MQ below (bsXQi ρ cA dC dI Rz z s.heap.size) (bsXX ρ cA dC dI Rz z s.heap.size) args s mc ms (bsA ρ cA Rz s.heap.size)) ρ cA dC dI Rz nL pc lv st X := by
  intro ls H locs hl hP hD hS
  obtain ⟨q0, -, hq⟩ := bsWs_at hk
  have hpre := bs_pre (As := .ref (ρ g K j) :: As) C hP hD hS
  refine vx_calli (vx_runV (As := As) (rest := rest) C.1 (hM H.size) (cwV As.length C.1.2.2.2.2 (bs_goodV C.2.2.1 hl0 hw) rfl rfl rfl ⟨rfl, hw.2.2.2.2.1, hw.2.2.2.2.2, hde⟩ hR) ⟨hpre.1, va_recv C.2.1 hP hci ((hq ρ cA X Rz).trans (by rw [hc])), hpre.2⟩ rfl rfl hl.1 hst (lv_room hW) hd hcs) hS (fun q _ h => bsA_mono hS.1 h) (fun q h => bsA_mono hS.1 h) (fun q _ h => bsA_mono hS.1 h) (fun E ce q9 u t H1 locs1 ht hvm hp hB hz1 hk1 hS1 hc1 hc2 hc3 => ?_) (fun r1 u t H1 locs1 ht hvm hr hB hz1 hk1 hS1 => ?_)
  · exact bs_outXi C T0 ht hB hS1 hc1 hc2 hc3 hx h1 h2
  · skip
    obtain ⟨h0, hr1⟩ := hr
    subst hr1
    exact bs_back hl ht hB hS1 (kk h0)
theorem v_ticallSi (C : bsCx p m c cc nL s args Ts own ρ cA dC dI Rz meth ret) (T0 : ∀ x ∈ c.exceptionTable.toList, False) {y : MethodName} {b : ByteArray} {nL' index : Nat} {ret' : Option FieldType} {rm' : Room} {As rest : List Value} {r z : bsXr} (hM : bsTi l y b nL' ret' rm' ρ cA dC dI Rz As X r)
    (hl0 : Cond.methodLink own index y ∈ bsG) (hw : bsWz y b nL' ret') (hde : (parseMethodDescriptor y.desc).map (fun d => d.parameters.length) = some As.length)
    (hR : rm'.frames + 1 ≤ R.frames ∧ 8 + (nL' + 11) + rm'.locals ≤ R.locals) (hcs : cells + rm'.cells ≤ R.cells ∧ slots + rm'.slots ≤ R.slots) (h1 : cells + rm'.cells ≤ mc) (h2 : slots + rm'.slots ≤ ms) (hst : st = As.reverse ++ rest) (hW : (rest.map fun v => v.category).sum ≤ 8) (hd : decode cc pc = .ok (.invokestatic index, 3)) (hx : ¬ r.1 = 0 → some (r.1, (0 : Int32), r.2.2) = some z)
    (kk : r.1 = 0 → bsV p l e R s m args below meth c (cells + rm'.cells) (slots + rm'.slots) (vx_MQ below (bsXQi ρ cA dC dI Rz z s.heap.size) (bsXX ρ cA dC dI Rz z s.heap.size) args s mc ms (bsA ρ cA Rz s.heap.size)) ρ cA dC dI Rz nL (pc + 3) lv (.int r.2.1 :: rest) r.2.2) : bsV p l e R s m args below meth c cells slots (vx_MQ below (bsXQi ρ cA dC dI Rz z s.heap.size) (bsXX ρ cA dC dI Rz z s.heap.size) args s mc ms (bsA ρ cA Rz s.heap.size)) ρ cA dC dI Rz nL pc lv st X := by
  intro ls H locs hl hP hD hS
  refine vx_calli (vx_runS (As := As) (rest := rest) C.1 (hM H.size) ⟨callB_of As.length C.1.2.2.2.2 (bs_goodC C.2.2.1 hw.2.2.1) rfl rfl rfl (C.1.2.2.2.2 _ (C.2.2.1 _ hw.2.1)) (C.1.2.2.2.2 _ (C.2.2.1 _ hl0)) ⟨hw.2.2.2.1, hw.2.2.2.2, hde⟩ hR, C.1.2.2.2.2 _ (C.2.2.1 _ hw.1)⟩ (bs_pre C hP hD hS) rfl rfl hl.1 hst (lv_room hW) hd hcs) hS (fun q _ h => bsA_mono hS.1 h) (fun q h => bsA_mono hS.1 h) (fun q _ h => bsA_mono hS.1 h) (fun E ce q9 u t H1 locs1 ht hvm hp hB hz1 hk1 hS1 hc1 hc2 hc3 => ?_) (fun r1 u t H1 locs1 ht hvm hr hB hz1 hk1 hS1 => ?_)
  · exact bs_outXi C T0 ht hB hS1 hc1 hc2 hc3 hx h1 h2
  · skip
    obtain ⟨h0, hr1⟩ := hr
    subst hr1
    exact bs_back hl ht hB hS1 (kk h0)
theorem v_ticallVv (C : bsCx p m c cc nL s args Ts own ρ cA dC dI Rz meth ret) (T0 : ∀ x ∈ c.exceptionTable.toList, False) {y : MethodName} {b : ByteArray} {nL' index : Nat} {ret' : Option FieldType} {rm' : Room} {As rest : List Value} {g K j ci N : Nat} {fs : List Value} {T : u_T} {r z : bsXr} (hM : bsTv l y b nL' ret' rm' ρ cA dC dI Rz (.ref (ρ g K j) :: As) X r)
    (hl0 : Cond.methodLink own index y ∈ bsG) (hw : bsWy y b nL' ret') (hk : (g, K, j) ∈ bsKeys) (hc : bsCell ρ cA g K j (X g K j) = .inr (ci, fs)) (hci : vwCl[ci]? = some (y.cls, T, N)) (hde : (parseMethodDescriptor y.desc).map (fun d => d.parameters.length) = some As.length)
    (hR : rm'.frames + 1 ≤ R.frames ∧ 8 + (nL' + 11) + rm'.locals ≤ R.locals) (hcs : cells + rm'.cells ≤ R.cells ∧ slots + rm'.slots ≤ R.slots) (h1 : cells + rm'.cells ≤ mc) (h2 : slots + rm'.slots ≤ ms) (hst : st = As.reverse ++ .ref (ρ g K j) :: rest) (hW : (rest.map fun v => v.category).sum ≤ 8) (hd : decode cc pc = .ok (.invokevirtual index, 3)) (hx : ¬ r.1 = 0 → some (r.1, (0 : Int32), r.2.2) = some z)
    (kk : r.1 = 0 → bsV p l e R s m args below meth c (cells + rm'.cells) (slots + rm'.slots) (vx_MQ below (bsXQi ρ cA dC dI Rz z s.heap.size) (bsXX ρ cA dC dI Rz z s.heap.size) args s mc ms (bsA ρ cA Rz s.heap.size)) ρ cA dC dI Rz nL (pc + 3) lv rest r.2.2) : bsV p l e R s m args below meth c cells slots (vx_MQ below (bsXQi ρ cA dC dI Rz z s.heap.size) (bsXX ρ cA dC dI Rz z s.heap.size) args s mc ms (bsA ρ cA Rz s.heap.size)) ρ cA dC dI Rz nL pc lv st X := by
  intro ls H locs hl hP hD hS
  obtain ⟨q0, -, hq⟩ := bsWs_at hk
  have hpre := bs_pre (As := .ref (ρ g K j) :: As) C hP hD hS
  refine vx_callv (vx_runV (As := As) (rest := rest) C.1 (hM H.size) (cwV As.length C.1.2.2.2.2 (bs_goodV C.2.2.1 hl0 hw) rfl rfl rfl ⟨rfl, hw.2.2.2.2.1, hw.2.2.2.2.2, hde⟩ hR) ⟨hpre.1, va_recv C.2.1 hP hci ((hq ρ cA X Rz).trans (by rw [hc])), hpre.2⟩ rfl rfl hl.1 hst (lv_room hW) hd hcs) hS (fun q _ h => bsA_mono hS.1 h) (fun q h => bsA_mono hS.1 h) (fun q _ h => bsA_mono hS.1 h) (fun E ce q9 u t H1 locs1 ht hvm hp hB hz1 hk1 hS1 hc1 hc2 hc3 => ?_) (fun u t H1 locs1 ht hvm hr hB hz1 hk1 hS1 => ?_)
  · exact bs_outXi C T0 ht hB hS1 hc1 hc2 hc3 hx h1 h2
  · skip
    exact bs_back hl ht hB hS1 (kk hr)
theorem v_ticallSv (C : bsCx p m c cc nL s args Ts own ρ cA dC dI Rz meth ret) (T0 : ∀ x ∈ c.exceptionTable.toList, False) {y : MethodName} {b : ByteArray} {nL' index : Nat} {ret' : Option FieldType} {rm' : Room} {As rest : List Value} {r z : bsXr} (hM : bsTv l y b nL' ret' rm' ρ cA dC dI Rz As X r)
    (hl0 : Cond.methodLink own index y ∈ bsG) (hw : bsWz y b nL' ret') (hde : (parseMethodDescriptor y.desc).map (fun d => d.parameters.length) = some As.length)
    (hR : rm'.frames + 1 ≤ R.frames ∧ 8 + (nL' + 11) + rm'.locals ≤ R.locals) (hcs : cells + rm'.cells ≤ R.cells ∧ slots + rm'.slots ≤ R.slots) (h1 : cells + rm'.cells ≤ mc) (h2 : slots + rm'.slots ≤ ms) (hst : st = As.reverse ++ rest) (hW : (rest.map fun v => v.category).sum ≤ 8) (hd : decode cc pc = .ok (.invokestatic index, 3)) (hx : ¬ r.1 = 0 → some (r.1, (0 : Int32), r.2.2) = some z)
    (kk : r.1 = 0 → bsV p l e R s m args below meth c (cells + rm'.cells) (slots + rm'.slots) (vx_MQ below (bsXQi ρ cA dC dI Rz z s.heap.size) (bsXX ρ cA dC dI Rz z s.heap.size) args s mc ms (bsA ρ cA Rz s.heap.size)) ρ cA dC dI Rz nL (pc + 3) lv rest r.2.2) : bsV p l e R s m args below meth c cells slots (vx_MQ below (bsXQi ρ cA dC dI Rz z s.heap.size) (bsXX ρ cA dC dI Rz z s.heap.size) args s mc ms (bsA ρ cA Rz s.heap.size)) ρ cA dC dI Rz nL pc lv st X := by
  intro ls H locs hl hP hD hS
  refine vx_callv (vx_runS (As := As) (rest := rest) C.1 (hM H.size) ⟨callB_of As.length C.1.2.2.2.2 (bs_goodC C.2.2.1 hw.2.2.1) rfl rfl rfl (C.1.2.2.2.2 _ (C.2.2.1 _ hw.2.1)) (C.1.2.2.2.2 _ (C.2.2.1 _ hl0)) ⟨hw.2.2.2.1, hw.2.2.2.2, hde⟩ hR, C.1.2.2.2.2 _ (C.2.2.1 _ hw.1)⟩ (bs_pre C hP hD hS) rfl rfl hl.1 hst (lv_room hW) hd hcs) hS (fun q _ h => bsA_mono hS.1 h) (fun q h => bsA_mono hS.1 h) (fun q _ h => bsA_mono hS.1 h) (fun E ce q9 u t H1 locs1 ht hvm hp hB hz1 hk1 hS1 hc1 hc2 hc3 => ?_) (fun u t H1 locs1 ht hvm hr hB hz1 hk1 hS1 => ?_)
  · exact bs_outXi C T0 ht hB hS1 hc1 hc2 hc3 hx h1 h2
  · skip
    exact bs_back hl ht hB hS1 (kk hr)
theorem v_tvcallVi (C : bsCx p m c cc nL s args Ts own ρ cA dC dI Rz meth ret) (T0 : ∀ x ∈ c.exceptionTable.toList, False) {y : MethodName} {b : ByteArray} {nL' index : Nat} {ret' : Option FieldType} {rm' : Room} {As rest : List Value} {g K j ci N : Nat} {fs : List Value} {T : u_T} {r z : bsXr} (hM : bsTi l y b nL' ret' rm' ρ cA dC dI Rz (.ref (ρ g K j) :: As) X r)
    (hl0 : Cond.methodLink own index y ∈ bsG) (hw : bsWy y b nL' ret') (hk : (g, K, j) ∈ bsKeys) (hc : bsCell ρ cA g K j (X g K j) = .inr (ci, fs)) (hci : vwCl[ci]? = some (y.cls, T, N)) (hde : (parseMethodDescriptor y.desc).map (fun d => d.parameters.length) = some As.length)
    (hR : rm'.frames + 1 ≤ R.frames ∧ 8 + (nL' + 11) + rm'.locals ≤ R.locals) (hcs : cells + rm'.cells ≤ R.cells ∧ slots + rm'.slots ≤ R.slots) (h1 : cells + rm'.cells ≤ mc) (h2 : slots + rm'.slots ≤ ms) (hst : st = As.reverse ++ .ref (ρ g K j) :: rest) (hW : (rest.map fun v => v.category).sum ≤ 8) (hd : decode cc pc = .ok (.invokevirtual index, 3)) (hx : ¬ r.1 = 0 → some (r.1, (0 : Int32), r.2.2) = some z)
    (kk : r.1 = 0 → bsV p l e R s m args below meth c (cells + rm'.cells) (slots + rm'.slots) (vx_MQ below (bsXQv ρ cA dC dI Rz z s.heap.size) (bsXX ρ cA dC dI Rz z s.heap.size) args s mc ms (bsA ρ cA Rz s.heap.size)) ρ cA dC dI Rz nL (pc + 3) lv (.int r.2.1 :: rest) r.2.2) : bsV p l e R s m args below meth c cells slots (vx_MQ below (bsXQv ρ cA dC dI Rz z s.heap.size) (bsXX ρ cA dC dI Rz z s.heap.size) args s mc ms (bsA ρ cA Rz s.heap.size)) ρ cA dC dI Rz nL pc lv st X := by
  intro ls H locs hl hP hD hS
  obtain ⟨q0, -, hq⟩ := bsWs_at hk
  have hpre := bs_pre (As := .ref (ρ g K j) :: As) C hP hD hS
  refine vx_calli (vx_runV (As := As) (rest := rest) C.1 (hM H.size) (cwV As.length C.1.2.2.2.2 (bs_goodV C.2.2.1 hl0 hw) rfl rfl rfl ⟨rfl, hw.2.2.2.2.1, hw.2.2.2.2.2, hde⟩ hR) ⟨hpre.1, va_recv C.2.1 hP hci ((hq ρ cA X Rz).trans (by rw [hc])), hpre.2⟩ rfl rfl hl.1 hst (lv_room hW) hd hcs) hS (fun q _ h => bsA_mono hS.1 h) (fun q h => bsA_mono hS.1 h) (fun q _ h => bsA_mono hS.1 h) (fun E ce q9 u t H1 locs1 ht hvm hp hB hz1 hk1 hS1 hc1 hc2 hc3 => ?_) (fun r1 u t H1 locs1 ht hvm hr hB hz1 hk1 hS1 => ?_)
  · exact bs_outXv C T0 ht hB hS1 hc1 hc2 hc3 hx h1 h2
  · skip
    obtain ⟨h0, hr1⟩ := hr
    subst hr1
    exact bs_back hl ht hB hS1 (kk h0)
theorem v_tvcallSi (C : bsCx p m c cc nL s args Ts own ρ cA dC dI Rz meth ret) (T0 : ∀ x ∈ c.exceptionTable.toList, False) {y : MethodName} {b : ByteArray} {nL' index : Nat} {ret' : Option FieldType} {rm' : Room} {As rest : List Value} {r z : bsXr} (hM : bsTi l y b nL' ret' rm' ρ cA dC dI Rz As X r)
    (hl0 : Cond.methodLink own index y ∈ bsG) (hw : bsWz y b nL' ret') (hde : (parseMethodDescriptor y.desc).map (fun d => d.parameters.length) = some As.length)
    (hR : rm'.frames + 1 ≤ R.frames ∧ 8 + (nL' + 11) + rm'.locals ≤ R.locals) (hcs : cells + rm'.cells ≤ R.cells ∧ slots + rm'.slots ≤ R.slots) (h1 : cells + rm'.cells ≤ mc) (h2 : slots + rm'.slots ≤ ms) (hst : st = As.reverse ++ rest) (hW : (rest.map fun v => v.category).sum ≤ 8) (hd : decode cc pc = .ok (.invokestatic index, 3)) (hx : ¬ r.1 = 0 → some (r.1, (0 : Int32), r.2.2) = some z)
    (kk : r.1 = 0 → bsV p l e R s m args below meth c (cells + rm'.cells) (slots + rm'.slots) (vx_MQ below (bsXQv ρ cA dC dI Rz z s.heap.size) (bsXX ρ cA dC dI Rz z s.heap.size) args s mc ms (bsA ρ cA Rz s.heap.size)) ρ cA dC dI Rz nL (pc + 3) lv (.int r.2.1 :: rest) r.2.2) : bsV p l e R s m args below meth c cells slots (vx_MQ below (bsXQv ρ cA dC dI Rz z s.heap.size) (bsXX ρ cA dC dI Rz z s.heap.size) args s mc ms (bsA ρ cA Rz s.heap.size)) ρ cA dC dI Rz nL pc lv st X := by
  intro ls H locs hl hP hD hS
  refine vx_calli (vx_runS (As := As) (rest := rest) C.1 (hM H.size) ⟨callB_of As.length C.1.2.2.2.2 (bs_goodC C.2.2.1 hw.2.2.1) rfl rfl rfl (C.1.2.2.2.2 _ (C.2.2.1 _ hw.2.1)) (C.1.2.2.2.2 _ (C.2.2.1 _ hl0)) ⟨hw.2.2.2.1, hw.2.2.2.2, hde⟩ hR, C.1.2.2.2.2 _ (C.2.2.1 _ hw.1)⟩ (bs_pre C hP hD hS) rfl rfl hl.1 hst (lv_room hW) hd hcs) hS (fun q _ h => bsA_mono hS.1 h) (fun q h => bsA_mono hS.1 h) (fun q _ h => bsA_mono hS.1 h) (fun E ce q9 u t H1 locs1 ht hvm hp hB hz1 hk1 hS1 hc1 hc2 hc3 => ?_) (fun r1 u t H1 locs1 ht hvm hr hB hz1 hk1 hS1 => ?_)
  · exact bs_outXv C T0 ht hB hS1 hc1 hc2 hc3 hx h1 h2
  · skip
    obtain ⟨h0, hr1⟩ := hr
    subst hr1
    exact bs_back hl ht hB hS1 (kk h0)
theorem v_tvcallVv (C : bsCx p m c cc nL s args Ts own ρ cA dC dI Rz meth ret) (T0 : ∀ x ∈ c.exceptionTable.toList, False) {y : MethodName} {b : ByteArray} {nL' index : Nat} {ret' : Option FieldType} {rm' : Room} {As rest : List Value} {g K j ci N : Nat} {fs : List Value} {T : u_T} {r z : bsXr} (hM : bsTv l y b nL' ret' rm' ρ cA dC dI Rz (.ref (ρ g K j) :: As) X r)
    (hl0 : Cond.methodLink own index y ∈ bsG) (hw : bsWy y b nL' ret') (hk : (g, K, j) ∈ bsKeys) (hc : bsCell ρ cA g K j (X g K j) = .inr (ci, fs)) (hci : vwCl[ci]? = some (y.cls, T, N)) (hde : (parseMethodDescriptor y.desc).map (fun d => d.parameters.length) = some As.length)
    (hR : rm'.frames + 1 ≤ R.frames ∧ 8 + (nL' + 11) + rm'.locals ≤ R.locals) (hcs : cells + rm'.cells ≤ R.cells ∧ slots + rm'.slots ≤ R.slots) (h1 : cells + rm'.cells ≤ mc) (h2 : slots + rm'.slots ≤ ms) (hst : st = As.reverse ++ .ref (ρ g K j) :: rest) (hW : (rest.map fun v => v.category).sum ≤ 8) (hd : decode cc pc = .ok (.invokevirtual index, 3)) (hx : ¬ r.1 = 0 → some (r.1, (0 : Int32), r.2.2) = some z)
    (kk : r.1 = 0 → bsV p l e R s m args below meth c (cells + rm'.cells) (slots + rm'.slots) (vx_MQ below (bsXQv ρ cA dC dI Rz z s.heap.size) (bsXX ρ cA dC dI Rz z s.heap.size) args s mc ms (bsA ρ cA Rz s.heap.size)) ρ cA dC dI Rz nL (pc + 3) lv rest r.2.2) : bsV p l e R s m args below meth c cells slots (vx_MQ below (bsXQv ρ cA dC dI Rz z s.heap.size) (bsXX ρ cA dC dI Rz z s.heap.size) args s mc ms (bsA ρ cA Rz s.heap.size)) ρ cA dC dI Rz nL pc lv st X := by
  intro ls H locs hl hP hD hS
  obtain ⟨q0, -, hq⟩ := bsWs_at hk
  have hpre := bs_pre (As := .ref (ρ g K j) :: As) C hP hD hS
  refine vx_callv (vx_runV (As := As) (rest := rest) C.1 (hM H.size) (cwV As.length C.1.2.2.2.2 (bs_goodV C.2.2.1 hl0 hw) rfl rfl rfl ⟨rfl, hw.2.2.2.2.1, hw.2.2.2.2.2, hde⟩ hR) ⟨hpre.1, va_recv C.2.1 hP hci ((hq ρ cA X Rz).trans (by rw [hc])), hpre.2⟩ rfl rfl hl.1 hst (lv_room hW) hd hcs) hS (fun q _ h => bsA_mono hS.1 h) (fun q h => bsA_mono hS.1 h) (fun q _ h => bsA_mono hS.1 h) (fun E ce q9 u t H1 locs1 ht hvm hp hB hz1 hk1 hS1 hc1 hc2 hc3 => ?_) (fun u t H1 locs1 ht hvm hr hB hz1 hk1 hS1 => ?_)
  · exact bs_outXv C T0 ht hB hS1 hc1 hc2 hc3 hx h1 h2
  · skip
    exact bs_back hl ht hB hS1 (kk hr)
theorem v_tvcallSv (C : bsCx p m c cc nL s args Ts own ρ cA dC dI Rz meth ret) (T0 : ∀ x ∈ c.exceptionTable.toList, False) {y : MethodName} {b : ByteArray} {nL' index : Nat} {ret' : Option FieldType} {rm' : Room} {As rest : List Value} {r z : bsXr} (hM : bsTv l y b nL' ret' rm' ρ cA dC dI Rz As X r)
    (hl0 : Cond.methodLink own index y ∈ bsG) (hw : bsWz y b nL' ret') (hde : (parseMethodDescriptor y.desc).map (fun d => d.parameters.length) = some As.length)
    (hR : rm'.frames + 1 ≤ R.frames ∧ 8 + (nL' + 11) + rm'.locals ≤ R.locals) (hcs : cells + rm'.cells ≤ R.cells ∧ slots + rm'.slots ≤ R.slots) (h1 : cells + rm'.cells ≤ mc) (h2 : slots + rm'.slots ≤ ms) (hst : st = As.reverse ++ rest) (hW : (rest.map fun v => v.category).sum ≤ 8) (hd : decode cc pc = .ok (.invokestatic index, 3)) (hx : ¬ r.1 = 0 → some (r.1, (0 : Int32), r.2.2) = some z)
    (kk : r.1 = 0 → bsV p l e R s m args below meth c (cells + rm'.cells) (slots + rm'.slots) (vx_MQ below (bsXQv ρ cA dC dI Rz z s.heap.size) (bsXX ρ cA dC dI Rz z s.heap.size) args s mc ms (bsA ρ cA Rz s.heap.size)) ρ cA dC dI Rz nL (pc + 3) lv rest r.2.2) : bsV p l e R s m args below meth c cells slots (vx_MQ below (bsXQv ρ cA dC dI Rz z s.heap.size) (bsXX ρ cA dC dI Rz z s.heap.size) args s mc ms (bsA ρ cA Rz s.heap.size)) ρ cA dC dI Rz nL pc lv st X := by
  intro ls H locs hl hP hD hS
  refine vx_callv (vx_runS (As := As) (rest := rest) C.1 (hM H.size) ⟨callB_of As.length C.1.2.2.2.2 (bs_goodC C.2.2.1 hw.2.2.1) rfl rfl rfl (C.1.2.2.2.2 _ (C.2.2.1 _ hw.2.1)) (C.1.2.2.2.2 _ (C.2.2.1 _ hl0)) ⟨hw.2.2.2.1, hw.2.2.2.2, hde⟩ hR, C.1.2.2.2.2 _ (C.2.2.1 _ hw.1)⟩ (bs_pre C hP hD hS) rfl rfl hl.1 hst (lv_room hW) hd hcs) hS (fun q _ h => bsA_mono hS.1 h) (fun q h => bsA_mono hS.1 h) (fun q _ h => bsA_mono hS.1 h) (fun E ce q9 u t H1 locs1 ht hvm hp hB hz1 hk1 hS1 hc1 hc2 hc3 => ?_) (fun u t H1 locs1 ht hvm hr hB hz1 hk1 hS1 => ?_)
  · exact bs_outXv C T0 ht hB hS1 hc1 hc2 hc3 hx h1 h2
  · skip
    exact bs_back hl ht hB hS1 (kk hr)
end BSX
theorem tw_1 : bsTw RX8 416 418 (bsEn 1) := ⟨by decide +kernel, by decide +kernel, by decide +kernel, by decide +kernel, by decide +kernel, by decide +kernel⟩
theorem tw_2 : bsTw RX8 52 54 (bsEn 2) := ⟨by decide +kernel, by decide +kernel, by decide +kernel, by decide +kernel, by decide +kernel, by decide +kernel⟩
theorem tw_3 : bsTw RX8 62 64 (bsEn 3) := ⟨by decide +kernel, by decide +kernel, by decide +kernel, by decide +kernel, by decide +kernel, by decide +kernel⟩
