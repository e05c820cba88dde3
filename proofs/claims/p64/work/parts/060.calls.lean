/-! CONTRACTS over the state, how a method's walk begins and ends, calls -/
def bsQi (ρ : bsR) (cA : Nat → ClassId) (dC : Nat → ClassId) (dI : Nat → Nat → Nat) (Rz : va_W) (z : Int32 × bsX) (sz : Nat) : Array Value → State → Outcome → State → Prop := va_Qi (fun (r : Int32) (_ : Unit) => r = z.1) (fun _ t => bsWp ρ cA dC dI Rz z.2 t) (bsA ρ cA Rz sz)
def bsQv (ρ : bsR) (cA : Nat → ClassId) (dC : Nat → ClassId) (dI : Nat → Nat → Nat) (Rz : va_W) (z : bsX) (sz : Nat) : Array Value → State → Outcome → State → Prop := va_Qv (fun (_ : Unit) => True) (fun _ t => bsWp ρ cA dC dI Rz z t) (bsA ρ cA Rz sz)
/-- a method that answers an int (or a boolean): from X it answers z.1 and leaves z.2 -/
def bsMi (l : Launch) (y : MethodName) (b : ByteArray) (nL : Nat) (ret : Option FieldType) (rm : Room) (ρ : bsR) (cA : Nat → ClassId) (dC : Nat → ClassId) (dI : Nat → Nat → Nat) (Rz : va_W) (As : List Value) (X : bsX) (z : Int32 × bsX) : Prop :=
  ∀ sz : Nat, Met l y (Cond.code y b nL ret :: bsG) rm (va_Pc As (fun U => U.heap.size = sz ∧ bsWp ρ cA dC dI Rz X U)) (bsQi ρ cA dC dI Rz z sz) 0 0 (bsA ρ cA Rz sz)
def bsMv (l : Launch) (y : MethodName) (b : ByteArray) (nL : Nat) (ret : Option FieldType) (rm : Room) (ρ : bsR) (cA : Nat → ClassId) (dC : Nat → ClassId) (dI : Nat → Nat → Nat) (Rz : va_W) (As : List Value) (X : bsX) (z : bsX) : Prop :=
  ∀ sz : Nat, Met l y (Cond.code y b nL ret :: bsG) rm (va_Pc As (fun U => U.heap.size = sz ∧ bsWp ρ cA dC dI Rz X U)) (bsQv ρ cA dC dI Rz z sz) 0 0 (bsA ρ cA Rz sz)
section BSM
variable {l : Launch} {y : MethodName} {b : ByteArray} {nL : Nat} {ret : Option FieldType} {rm : Room} {ρ : bsR} {cA : Nat → ClassId} {dC : Nat → ClassId} {dI : Nat → Nat → Nat} {Rz : va_W} {As : List Value} {X : bsX}
theorem bsMi_of {z : Int32 × bsX} (hy : plainName y.cls = true) (hlen : (lg_sl As).length ≤ nL)
    (body : ∀ (p : Program) (e : Env) (s : State) (m : MethodId) (args : Array Value) (below : List Frame) (meth : Method) (c : Code), bsCx p m c b nL s args (Cond.code y b nL ret :: bsG) y.cls ρ cA dC dI Rz meth ret →
      bsV p l e rm s m args below meth c 0 0 (MQ below (bsQi ρ cA dC dI Rz z s.heap.size) args s 0 0 (bsA ρ cA Rz s.heap.size)) ρ cA dC dI Rz nL 0 (lv_args 0 As) [] X) : bsMi l y b nL ret rm ρ cA dC dI Rz As X z := by
  intro sz
  refine Met.ofW (cc := b) (maxL := nL) (ret := ret) hy rfl ?_
  intro p e s m args below meth c s₁ B hml hv
  obtain ⟨rfl, hsz, hP, hK, hD0, hN, hE⟩ := hv
  subst hsz
  have hts := atoms_spec (ws := Cond.code y b nL ret :: bsG) B.pre
  have hown : s.vm.findClass y.cls = some m.cls := findClass_of_methodNamed B.named
  have hl := lv_entry As hlen
  rw [lg_entry_eq]
  exact body p e s m _ below meth c ⟨⟨B.exec, B.bytes, hml, hown, hts⟩, hK, fun w h => List.mem_cons_of_mem _ h, ⟨hN, hE⟩, B.notSynchronized, B.returns⟩ _ _ _ hl hP (bsD_self _ hD0) va_S.rf
theorem bsMv_of {z : bsX} (hy : plainName y.cls = true) (hlen : (lg_sl As).length ≤ nL)
    (body : ∀ (p : Program) (e : Env) (s : State) (m : MethodId) (args : Array Value) (below : List Frame) (meth : Method) (c : Code), bsCx p m c b nL s args (Cond.code y b nL ret :: bsG) y.cls ρ cA dC dI Rz meth ret →
      bsV p l e rm s m args below meth c 0 0 (MQ below (bsQv ρ cA dC dI Rz z s.heap.size) args s 0 0 (bsA ρ cA Rz s.heap.size)) ρ cA dC dI Rz nL 0 (lv_args 0 As) [] X) : bsMv l y b nL ret rm ρ cA dC dI Rz As X z := by
  intro sz
  refine Met.ofW (cc := b) (maxL := nL) (ret := ret) hy rfl ?_
  intro p e s m args below meth c s₁ B hml hv
  obtain ⟨rfl, hsz, hP, hK, hD0, hN, hE⟩ := hv
  subst hsz
  have hts := atoms_spec (ws := Cond.code y b nL ret :: bsG) B.pre
  have hown : s.vm.findClass y.cls = some m.cls := findClass_of_methodNamed B.named
  have hl := lv_entry As hlen
  rw [lg_entry_eq]
  exact body p e s m _ below meth c ⟨⟨B.exec, B.bytes, hml, hown, hts⟩, hK, fun w h => List.mem_cons_of_mem _ h, ⟨hN, hE⟩, B.notSynchronized, B.returns⟩ _ _ _ hl hP (bsD_self _ hD0) va_S.rf
end BSM
section BSE
variable {p : Program} {l : Launch} {e : Env} {R : Room} {s : State} {m : MethodId} {args : Array Value} {below : List Frame} {meth : Method} {c : Code} {cells slots : Nat} {Q : State → Prop} {ρ : bsR} {cA : Nat → ClassId} {dC : Nat → ClassId} {dI : Nat → Nat → Nat} {Rz : va_W} {nL : Nat} {cc : ByteArray} {Ts : List Cond} {own : String} {ret : Option FieldType} {pc : Nat} {lv : List (Nat × Value)} {st : List Value} {X : bsX}
theorem bsA_mono {sz sz' q : Nat} (h : sz ≤ sz') (hq : bsA ρ cA Rz sz' q) : bsA ρ cA Rz sz q := hq.elim Or.inl (fun h2 => Or.inr (Nat.le_trans h h2))
theorem bsWp_end {H : Heap} {locs : List Loc} {t : State} (C : bsCx p m c cc nL s args Ts own ρ cA dC dI Rz meth ret) (hP : va_P (dC, dI) vwCl (bsWs ρ cA X Rz) H) (hD : va_D (bsA ρ cA Rz s.heap.size) (bsWs ρ cA X Rz)) (hS : va_S (bsA ρ cA Rz s.heap.size) s.heap H locs) (ht : t.heap = H) (hW : s.WarmedH t.vm) : bsWp ρ cA dC dI Rz X t :=
  ⟨by rw [ht]; exact hP, va_K.moved hW.alike C.2.1, hD.weaken (fun _ _ _ _ => trivial), bsNw.warm hW C.2.2.2.1.1, bsEx.go C.2.2.2.1.2 hW (by rw [ht]; exact hS.2.1) (fun q h => bsA_mono (by rw [ht]; exact hS.1) h)⟩
theorem v_iret (C : bsCx p m c cc nL s args Ts own ρ cA dC dI Rz meth (some .int)) {v : Int32} {z : Int32 × bsX} (hz : some (v, X) = some z) (hd : decode cc pc = .ok (.ireturn, 1)) : bsV p l e R s m args below meth c 0 0 (MQ below (bsQi ρ cA dC dI Rz z s.heap.size) args s 0 0 (bsA ρ cA Rz s.heap.size)) ρ cA dC dI Rz nL pc lv [.int v] X := by
  intro ls H locs hl hP hD hS
  cases hz
  exact W.iret (v := v) C.1.1 C.1.2.1 C.2.2.2.2.2 (fun t ht hW => ⟨⟨v, (), rfl, rfl, bsWp_end (locs := locs) C hP hD hS ht hW⟩, hS.F ht⟩) hS.2.2 hd C.2.2.2.2.1
theorem v_zret (C : bsCx p m c cc nL s args Ts own ρ cA dC dI Rz meth (some .boolean)) {v : Int32} {z : Int32 × bsX} (hb : narrow .boolean (.int v) = .int v) (hz : some (v, X) = some z) (hd : decode cc pc = .ok (.ireturn, 1)) : bsV p l e R s m args below meth c 0 0 (MQ below (bsQi ρ cA dC dI Rz z s.heap.size) args s 0 0 (bsA ρ cA Rz s.heap.size)) ρ cA dC dI Rz nL pc lv [.int v] X := by
  intro ls H locs hl hP hD hS
  cases hz
  exact W.zret (v := v) C.1.1 C.1.2.1 C.2.2.2.2.2 hb (fun t ht hW => ⟨⟨v, (), rfl, rfl, bsWp_end (locs := locs) C hP hD hS ht hW⟩, hS.F ht⟩) hS.2.2 hd C.2.2.2.2.1
theorem v_xret {ty : FieldType} (C : bsCx p m c cc nL s args Ts own ρ cA dC dI Rz meth (some ty)) {v : Int32} {z : Int32 × bsX} (hb : narrow ty (.int v) = .int v) (hz : some (v, X) = some z) (hd : decode cc pc = .ok (.ireturn, 1)) : bsV p l e R s m args below meth c 0 0 (MQ below (bsQi ρ cA dC dI Rz z s.heap.size) args s 0 0 (bsA ρ cA Rz s.heap.size)) ρ cA dC dI Rz nL pc lv [.int v] X := by
  intro ls H locs hl hP hD hS
  cases hz
  exact W.zret (v := v) C.1.1 C.1.2.1 C.2.2.2.2.2 hb (fun t ht hW => ⟨⟨v, (), rfl, rfl, bsWp_end (locs := locs) C hP hD hS ht hW⟩, hS.F ht⟩) hS.2.2 hd C.2.2.2.2.1
theorem v_vret (C : bsCx p m c cc nL s args Ts own ρ cA dC dI Rz meth none) {z : bsX} (hz : some X = some z) (hd : decode cc pc = .ok (.return_, 1)) : bsV p l e R s m args below meth c 0 0 (MQ below (bsQv ρ cA dC dI Rz z s.heap.size) args s 0 0 (bsA ρ cA Rz s.heap.size)) ρ cA dC dI Rz nL pc lv [] X := by
  intro ls H locs hl hP hD hS
  cases hz
  exact W.vret C.1.1 C.1.2.1 C.2.2.2.2.2 (fun t ht hW => ⟨⟨(), rfl, trivial, bsWp_end (locs := locs) C hP hD hS ht hW⟩, hS.F ht⟩) hS.2.2 hd C.2.2.2.2.1
theorem bsZ01 {v : Int32} (h : v = 0 ∨ v = 1) : narrow .boolean (.int v) = .int v ∧ fits .boolean (.int v) = true := by
  rcases h with rfl | rfl <;> exact ⟨rfl, rfl⟩
/-- a callee's words -/
def bsWy (y : MethodName) (b : ByteArray) (nL : Nat) (ret : Option FieldType) : Prop := Cond.instanceMethod y ∈ bsG ∧ Cond.selects y.cls y y ∈ bsG ∧ Cond.initialized y.cls ∈ bsG ∧ Cond.code y b nL ret ∈ bsG ∧ (y.cls ≠ "java/lang/invoke/MethodHandle" ∧ y.cls ≠ "java/lang/invoke/VarHandle")
def bsWz (y : MethodName) (b : ByteArray) (nL : Nat) (ret : Option FieldType) : Prop := Cond.static y ∈ bsG ∧ Cond.initialized y.cls ∈ bsG ∧ Cond.code y b nL ret ∈ bsG ∧ (y.cls ≠ "java/lang/invoke/MethodHandle" ∧ y.cls ≠ "java/lang/invoke/VarHandle")
theorem bs_goodV {y : MethodName} {b : ByteArray} {nL' index : Nat} {ret' : Option FieldType} (hT : ∀ w ∈ bsG, w ∈ Ts) (hl : Cond.methodLink own index y ∈ bsG) (h : bsWy y b nL' ret') : GoodIn Ts (wsV own index y.cls y (Cond.code y b nL' ret' :: bsG)) := by
  have key : ∀ w ∈ wsV own index y.cls y (Cond.code y b nL' ret' :: bsG), w ∈ bsG := by
    intro w hw
    rcases List.mem_append.mp hw with hw | hw
    · rcases List.mem_cons.mp hw with rfl | hw
      · exact hl
      rcases List.mem_cons.mp hw with rfl | hw
      · exact h.1
      rcases List.mem_cons.mp hw with rfl | hw
      · exact h.2.1
      rcases List.mem_cons.mp hw with rfl | hw
      · exact h.2.2.1
      cases hw
    · rcases List.mem_cons.mp hw with rfl | hw
      · exact h.2.2.2.1
      · exact hw
  exact fun w hw => ⟨hT w (key w hw), bsG_good (key w hw)⟩
theorem bs_goodC {y : MethodName} {b : ByteArray} {nL' : Nat} {ret' : Option FieldType} (hT : ∀ w ∈ bsG, w ∈ Ts) (h : Cond.code y b nL' ret' ∈ bsG) : GoodIn Ts (Cond.code y b nL' ret' :: bsG) := by
  have key : ∀ w ∈ Cond.code y b nL' ret' :: bsG, w ∈ bsG := by
    intro w hw
    rcases List.mem_cons.mp hw with rfl | hw
    · exact h
    · exact hw
  exact fun w hw => ⟨hT w (key w hw), bsG_good (key w hw)⟩
theorem bs_blind {av : List Value} {sz : Nat} : FrameBlind (va_Pc av (fun U => U.heap.size = sz ∧ bsWp ρ cA dC dI Rz X U)) := fun a U g mk q => by
  obtain ⟨q0, q1, qP, qK, qD, qN, qE⟩ := q
  exact ⟨q0, q1, qP, va_K.moved (u := U) (U := U.calling g mk a) (Vm.Alike.refl U.vm) qK, qD, fun t ht => va_Nw.same rfl rfl (qN t ht), bsEx.go (U := U.calling g mk a) qE (State.WarmedH.refl U) (fun _ _ _ => rfl) (fun _ h => h)⟩
theorem bs_pre {As : List Value} {H : Heap} {locs : List Loc} (C : bsCx p m c cc nL s args Ts own ρ cA dC dI Rz meth ret) (hP : va_P (dC, dI) vwCl (bsWs ρ cA X Rz) H) (hD : va_D (bsA ρ cA Rz s.heap.size) (bsWs ρ cA X Rz)) (hS : va_S (bsA ρ cA Rz s.heap.size) s.heap H locs) : PreS s H (va_Pc As (fun U => U.heap.size = H.size ∧ bsWp ρ cA dC dI Rz X U)) As :=
  ⟨bs_blind, fun U hU hW => ⟨rfl, by rw [hU], by rw [hU]; exact hP, va_K.moved hW.alike C.2.1, hD.weaken (fun _ _ _ _ => trivial), bsNw.warm hW C.2.2.2.1.1, bsEx.go C.2.2.2.1.2 hW (by rw [hU]; exact hS.2.1) (fun q h => bsA_mono (by rw [hU]; exact hS.1) h)⟩⟩
theorem bs_back {X' : bsX} {H1 : Heap} {locs : List Loc} {t : State} {Q2 : State → Prop} {pc2 : Nat} {st2 : List Value} {ls : Array Slot} (hl : lv_has ls nL lv) (ht : t.heap = H1) (hB : bsWp ρ cA dC dI Rz X' t) (hS : va_S (bsA ρ cA Rz s.heap.size) s.heap H1 locs) (kk : bsV p l e R s m args below meth c cells slots Q2 ρ cA dC dI Rz nL pc2 lv st2 X') : W p l e R s m args below meth c H1 locs cells slots Q2 (F0 m pc2 ls st2) := by
  obtain ⟨hP1, -, hD1, -⟩ := hB
  rw [ht] at hP1
  exact kk ls H1 locs hl hP1 (bsD_self _ hD1) hS
theorem v_callVi (C : bsCx p m c cc nL s args Ts own ρ cA dC dI Rz meth ret) {y : MethodName} {b : ByteArray} {nL' index g K j ci N : Nat} {ret' : Option FieldType} {rm' : Room} {As rest fs : List Value} {T : u_T} {z : Int32 × bsX} (hM : bsMi l y b nL' ret' rm' ρ cA dC dI Rz (.ref (ρ g K j) :: As) X z)
    (hl0 : Cond.methodLink own index y ∈ bsG) (hw : bsWy y b nL' ret') (hk : (g, K, j) ∈ bsKeys) (hc : bsCell ρ cA g K j (X g K j) = .inr (ci, fs)) (hci : vwCl[ci]? = some (y.cls, T, N)) (hde : (parseMethodDescriptor y.desc).map (fun d => d.parameters.length) = some As.length)
    (hR : rm'.frames + 1 ≤ R.frames ∧ 8 + (nL' + 11) + rm'.locals ≤ R.locals) (hz0 : rm'.cells = 0 ∧ rm'.slots = 0) (hcs : cells ≤ R.cells ∧ slots ≤ R.slots) (hst : st = As.reverse ++ .ref (ρ g K j) :: rest) (hW : (rest.map fun v => v.category).sum ≤ 8) (hd : decode cc pc = .ok (.invokevirtual index, 3))
    (kk : bsV p l e R s m args below meth c cells slots Q ρ cA dC dI Rz nL (pc + 3) lv (.int z.1 :: rest) z.2) : bsV p l e R s m args below meth c cells slots Q ρ cA dC dI Rz nL pc lv st X := by
  intro ls H locs hl hP hD hS
  obtain ⟨q0, -, hq⟩ := bsWs_at hk
  have hpre := bs_pre (As := .ref (ρ g K j) :: As) C hP hD hS
  refine va_calli (va_runV (As := As) (rest := rest) C.1 (hM H.size) (cwV As.length C.1.2.2.2.2 (bs_goodV C.2.2.1 hl0 hw) rfl hz0.1 hz0.2 ⟨rfl, hw.2.2.2.2.1, hw.2.2.2.2.2, hde⟩ hR) ⟨hpre.1, va_recv C.2.1 hP hci ((hq ρ cA X Rz).trans (by rw [hc])), hpre.2⟩ rfl rfl hl.1 hst (lv_room hW) hd ⟨hcs.1, hcs.2⟩) hS (fun q _ h => bsA_mono hS.1 h) (fun q h => bsA_mono hS.1 h) (fun r u t H1 locs1 ht hvm hr hB hz1 hk1 hS1 => ?_)
  have hr1 : r = z.1 := hr
  subst hr1
  exact bs_back hl ht hB hS1 kk
theorem v_callVv (C : bsCx p m c cc nL s args Ts own ρ cA dC dI Rz meth ret) {y : MethodName} {b : ByteArray} {nL' index g K j ci N : Nat} {ret' : Option FieldType} {rm' : Room} {As rest fs : List Value} {T : u_T} {z : bsX} (hM : bsMv l y b nL' ret' rm' ρ cA dC dI Rz (.ref (ρ g K j) :: As) X z)
    (hl0 : Cond.methodLink own index y ∈ bsG) (hw : bsWy y b nL' ret') (hk : (g, K, j) ∈ bsKeys) (hc : bsCell ρ cA g K j (X g K j) = .inr (ci, fs)) (hci : vwCl[ci]? = some (y.cls, T, N)) (hde : (parseMethodDescriptor y.desc).map (fun d => d.parameters.length) = some As.length)
    (hR : rm'.frames + 1 ≤ R.frames ∧ 8 + (nL' + 11) + rm'.locals ≤ R.locals) (hz0 : rm'.cells = 0 ∧ rm'.slots = 0) (hcs : cells ≤ R.cells ∧ slots ≤ R.slots) (hst : st = As.reverse ++ .ref (ρ g K j) :: rest) (hW : (rest.map fun v => v.category).sum ≤ 8) (hd : decode cc pc = .ok (.invokevirtual index, 3))
    (kk : bsV p l e R s m args below meth c cells slots Q ρ cA dC dI Rz nL (pc + 3) lv rest z) : bsV p l e R s m args below meth c cells slots Q ρ cA dC dI Rz nL pc lv st X := by
  intro ls H locs hl hP hD hS
  obtain ⟨q0, -, hq⟩ := bsWs_at hk
  have hpre := bs_pre (As := .ref (ρ g K j) :: As) C hP hD hS
  refine va_callv (va_runV (As := As) (rest := rest) C.1 (hM H.size) (cwV As.length C.1.2.2.2.2 (bs_goodV C.2.2.1 hl0 hw) rfl hz0.1 hz0.2 ⟨rfl, hw.2.2.2.2.1, hw.2.2.2.2.2, hde⟩ hR) ⟨hpre.1, va_recv C.2.1 hP hci ((hq ρ cA X Rz).trans (by rw [hc])), hpre.2⟩ rfl rfl hl.1 hst (lv_room hW) hd ⟨hcs.1, hcs.2⟩) hS (fun q _ h => bsA_mono hS.1 h) (fun q h => bsA_mono hS.1 h) (fun u t H1 locs1 ht hvm hr hB hz1 hk1 hS1 => ?_)
  exact bs_back hl ht hB hS1 kk
theorem v_callSi {y : MethodName} (C : bsCx p m c cc nL s args Ts own ρ cA dC dI Rz meth ret) {b : ByteArray} {nL' index : Nat} {ret' : Option FieldType} {rm' : Room} {As rest : List Value} {z : Int32 × bsX} (hM : bsMi l y b nL' ret' rm' ρ cA dC dI Rz As X z)
    (hl0 : Cond.methodLink own index y ∈ bsG) (hw : bsWz y b nL' ret') (hde : (parseMethodDescriptor y.desc).map (fun d => d.parameters.length) = some As.length)
    (hR : rm'.frames + 1 ≤ R.frames ∧ 8 + (nL' + 11) + rm'.locals ≤ R.locals) (hz0 : rm'.cells = 0 ∧ rm'.slots = 0) (hcs : cells ≤ R.cells ∧ slots ≤ R.slots) (hst : st = As.reverse ++ rest) (hW : (rest.map fun v => v.category).sum ≤ 8) (hd : decode cc pc = .ok (.invokestatic index, 3))
    (kk : bsV p l e R s m args below meth c cells slots Q ρ cA dC dI Rz nL (pc + 3) lv (.int z.1 :: rest) z.2) : bsV p l e R s m args below meth c cells slots Q ρ cA dC dI Rz nL pc lv st X := by
  intro ls H locs hl hP hD hS
  refine va_calli (va_runS (As := As) (rest := rest) C.1 (hM H.size) ⟨callB_of As.length C.1.2.2.2.2 (bs_goodC C.2.2.1 hw.2.2.1) rfl hz0.1 hz0.2 (C.1.2.2.2.2 _ (C.2.2.1 _ hw.2.1)) (C.1.2.2.2.2 _ (C.2.2.1 _ hl0)) ⟨hw.2.2.2.1, hw.2.2.2.2, hde⟩ hR, C.1.2.2.2.2 _ (C.2.2.1 _ hw.1)⟩ (bs_pre C hP hD hS) rfl rfl hl.1 hst (lv_room hW) hd ⟨hcs.1, hcs.2⟩) hS (fun q _ h => bsA_mono hS.1 h) (fun q h => bsA_mono hS.1 h) (fun r u t H1 locs1 ht hvm hr hB hz1 hk1 hS1 => ?_)
  have hr1 : r = z.1 := hr
  subst hr1
  exact bs_back hl ht hB hS1 kk
theorem v_callSv {y : MethodName} (C : bsCx p m c cc nL s args Ts own ρ cA dC dI Rz meth ret) {b : ByteArray} {nL' index : Nat} {ret' : Option FieldType} {rm' : Room} {As rest : List Value} {z : bsX} (hM : bsMv l y b nL' ret' rm' ρ cA dC dI Rz As X z)
    (hl0 : Cond.methodLink own index y ∈ bsG) (hw : bsWz y b nL' ret') (hde : (parseMethodDescriptor y.desc).map (fun d => d.parameters.length) = some As.length)
    (hR : rm'.frames + 1 ≤ R.frames ∧ 8 + (nL' + 11) + rm'.locals ≤ R.locals) (hz0 : rm'.cells = 0 ∧ rm'.slots = 0) (hcs : cells ≤ R.cells ∧ slots ≤ R.slots) (hst : st = As.reverse ++ rest) (hW : (rest.map fun v => v.category).sum ≤ 8) (hd : decode cc pc = .ok (.invokestatic index, 3))
    (kk : bsV p l e R s m args below meth c cells slots Q ρ cA dC dI Rz nL (pc + 3) lv rest z) : bsV p l e R s m args below meth c cells slots Q ρ cA dC dI Rz nL pc lv st X := by
  intro ls H locs hl hP hD hS
  refine va_callv (va_runS (As := As) (rest := rest) C.1 (hM H.size) ⟨callB_of As.length C.1.2.2.2.2 (bs_goodC C.2.2.1 hw.2.2.1) rfl hz0.1 hz0.2 (C.1.2.2.2.2 _ (C.2.2.1 _ hw.2.1)) (C.1.2.2.2.2 _ (C.2.2.1 _ hl0)) ⟨hw.2.2.2.1, hw.2.2.2.2, hde⟩ hR, C.1.2.2.2.2 _ (C.2.2.1 _ hw.1)⟩ (bs_pre C hP hD hS) rfl rfl hl.1 hst (lv_room hW) hd ⟨hcs.1, hcs.2⟩) hS (fun q _ h => bsA_mono hS.1 h) (fun q h => bsA_mono hS.1 h) (fun u t H1 locs1 ht hvm hr hB hz1 hk1 hS1 => ?_)
  exact bs_back hl ht hB hS1 kk
end BSE
