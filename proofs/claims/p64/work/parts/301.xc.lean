/-! CONTRACTS of the law's methods: from the cells Rz and contents X to cells and contents with P -/
def xB (ρ : bsR) (cA : Nat → ClassId) (dC : Nat → ClassId) (dI : Nat → Nat → Nat) (A : Nat → Prop) (u : bsX × va_W) (t : State) : Prop := va_P (dC, dI) vwCl (bsWs ρ cA u.1 u.2) t.heap ∧ va_D A (bsWs ρ cA u.1 u.2)
def xQi (ρ : bsR) (cA : Nat → ClassId) (dC : Nat → ClassId) (dI : Nat → Nat → Nat) (A : Nat → Prop) (P : Int32 → bsX → va_W → Prop) : Array Value → State → Outcome → State → Prop := va_Qi (fun (r : Int32) (u : bsX × va_W) => P r u.1 u.2) (fun u t => xB ρ cA dC dI A u t) A
def xQv (ρ : bsR) (cA : Nat → ClassId) (dC : Nat → ClassId) (dI : Nat → Nat → Nat) (A : Nat → Prop) (P : bsX → va_W → Prop) : Array Value → State → Outcome → State → Prop := va_Qv (fun (u : bsX × va_W) => P u.1 u.2) (fun u t => xB ρ cA dC dI A u t) A
def xQr (ρ : bsR) (cA : Nat → ClassId) (dC : Nat → ClassId) (dI : Nat → Nat → Nat) (A : Nat → Prop) (P : Nat → bsX → va_W → Prop) : Array Value → State → Outcome → State → Prop := va_Qr (fun (_ : bsX × va_W) => True) (fun u a t => P a u.1 u.2 ∧ xB ρ cA dC dI A u t) A
def xMi (l : Launch) (y : MethodName) (b : ByteArray) (nL : Nat) (ret : Option FieldType) (rm : Room) (ρ : bsR) (sc L : Nat) (xs : Nat → Int32) (cA : Nat → ClassId) (dC : Nat → ClassId) (dI : Nat → Nat → Nat) (As : List Value) (X : bsX) (Rz : va_W) (P : Int32 → bsX → va_W → Prop) : Prop :=
  ∀ sz : Nat, Met l y (Cond.code y b nL ret :: bsG) rm (va_Pc As (fun U => U.heap.size = sz ∧ xWp ρ sc L xs cA dC dI Rz X U)) (xQi ρ cA dC dI (bsA ρ cA Rz sz) P) rm.cells rm.slots (bsA ρ cA Rz sz)
theorem xMi_of {l : Launch} {y : MethodName} {b : ByteArray} {nL : Nat} {ret : Option FieldType} {rm : Room} {ρ : bsR} {sc L : Nat} {xs : Nat → Int32} {cA : Nat → ClassId} {dC : Nat → ClassId} {dI : Nat → Nat → Nat} {As : List Value} {X : bsX} {Rz : va_W} {P : Int32 → bsX → va_W → Prop} (hy : plainName y.cls = true) (hlen : (lg_sl As).length ≤ nL)
    (body : ∀ (p : Program) (e : Env) (s : State) (m : MethodId) (args : Array Value) (below : List Frame) (meth : Method) (c : Code), xCx p m c b nL s args (Cond.code y b nL ret :: bsG) y.cls ρ sc L xs cA dC dI (bsA ρ cA Rz s.heap.size) meth ret →
      xV p l e rm s m args below meth c 0 0 (MQ below (xQi ρ cA dC dI (bsA ρ cA Rz s.heap.size) P) args s rm.cells rm.slots (bsA ρ cA Rz s.heap.size)) ρ cA dC dI (bsA ρ cA Rz s.heap.size) Rz nL 0 (lv_args 0 As) [] X) : xMi l y b nL ret rm ρ sc L xs cA dC dI As X Rz P := by
  intro sz
  refine Met.ofW (cc := b) (maxL := nL) (ret := ret) hy rfl ?_
  intro p e s m args below meth c s₁ B hml hv
  obtain ⟨rfl, hsz, ⟨hP, hK, hD0, hN, hE⟩, hE2⟩ := hv
  subst hsz
  have hts := atoms_spec (ws := Cond.code y b nL ret :: bsG) B.pre
  have hown : s.vm.findClass y.cls = some m.cls := findClass_of_methodNamed B.named
  have hl := lv_entry As hlen
  rw [lg_entry_eq]
  exact body p e s m _ below meth c ⟨⟨B.exec, B.bytes, hml, hown, hts⟩, hK, fun w h => List.mem_cons_of_mem _ h, ⟨hN, hE, hE2⟩, B.notSynchronized, B.returns, fun q hq => bsA_le hq⟩ _ _ _ hl hP (bsD_self _ hD0) va_S.rf
def xMv (l : Launch) (y : MethodName) (b : ByteArray) (nL : Nat) (ret : Option FieldType) (rm : Room) (ρ : bsR) (sc L : Nat) (xs : Nat → Int32) (cA : Nat → ClassId) (dC : Nat → ClassId) (dI : Nat → Nat → Nat) (As : List Value) (X : bsX) (Rz : va_W) (P : bsX → va_W → Prop) : Prop :=
  ∀ sz : Nat, Met l y (Cond.code y b nL ret :: bsG) rm (va_Pc As (fun U => U.heap.size = sz ∧ xWp ρ sc L xs cA dC dI Rz X U)) (xQv ρ cA dC dI (bsA ρ cA Rz sz) P) rm.cells rm.slots (bsA ρ cA Rz sz)
theorem xMv_of {l : Launch} {y : MethodName} {b : ByteArray} {nL : Nat} {ret : Option FieldType} {rm : Room} {ρ : bsR} {sc L : Nat} {xs : Nat → Int32} {cA : Nat → ClassId} {dC : Nat → ClassId} {dI : Nat → Nat → Nat} {As : List Value} {X : bsX} {Rz : va_W} {P : bsX → va_W → Prop} (hy : plainName y.cls = true) (hlen : (lg_sl As).length ≤ nL)
    (body : ∀ (p : Program) (e : Env) (s : State) (m : MethodId) (args : Array Value) (below : List Frame) (meth : Method) (c : Code), xCx p m c b nL s args (Cond.code y b nL ret :: bsG) y.cls ρ sc L xs cA dC dI (bsA ρ cA Rz s.heap.size) meth ret →
      xV p l e rm s m args below meth c 0 0 (MQ below (xQv ρ cA dC dI (bsA ρ cA Rz s.heap.size) P) args s rm.cells rm.slots (bsA ρ cA Rz s.heap.size)) ρ cA dC dI (bsA ρ cA Rz s.heap.size) Rz nL 0 (lv_args 0 As) [] X) : xMv l y b nL ret rm ρ sc L xs cA dC dI As X Rz P := by
  intro sz
  refine Met.ofW (cc := b) (maxL := nL) (ret := ret) hy rfl ?_
  intro p e s m args below meth c s₁ B hml hv
  obtain ⟨rfl, hsz, ⟨hP, hK, hD0, hN, hE⟩, hE2⟩ := hv
  subst hsz
  have hts := atoms_spec (ws := Cond.code y b nL ret :: bsG) B.pre
  have hown : s.vm.findClass y.cls = some m.cls := findClass_of_methodNamed B.named
  have hl := lv_entry As hlen
  rw [lg_entry_eq]
  exact body p e s m _ below meth c ⟨⟨B.exec, B.bytes, hml, hown, hts⟩, hK, fun w h => List.mem_cons_of_mem _ h, ⟨hN, hE, hE2⟩, B.notSynchronized, B.returns, fun q hq => bsA_le hq⟩ _ _ _ hl hP (bsD_self _ hD0) va_S.rf
def xMr (l : Launch) (y : MethodName) (b : ByteArray) (nL : Nat) (ret : Option FieldType) (rm : Room) (ρ : bsR) (sc L : Nat) (xs : Nat → Int32) (cA : Nat → ClassId) (dC : Nat → ClassId) (dI : Nat → Nat → Nat) (As : List Value) (X : bsX) (Rz : va_W) (P : Nat → bsX → va_W → Prop) : Prop :=
  ∀ sz : Nat, Met l y (Cond.code y b nL ret :: bsG) rm (va_Pc As (fun U => U.heap.size = sz ∧ xWp ρ sc L xs cA dC dI Rz X U)) (xQr ρ cA dC dI (bsA ρ cA Rz sz) P) rm.cells rm.slots (bsA ρ cA Rz sz)
theorem xMr_of {l : Launch} {y : MethodName} {b : ByteArray} {nL : Nat} {ret : Option FieldType} {rm : Room} {ρ : bsR} {sc L : Nat} {xs : Nat → Int32} {cA : Nat → ClassId} {dC : Nat → ClassId} {dI : Nat → Nat → Nat} {As : List Value} {X : bsX} {Rz : va_W} {P : Nat → bsX → va_W → Prop} (hy : plainName y.cls = true) (hlen : (lg_sl As).length ≤ nL)
    (body : ∀ (p : Program) (e : Env) (s : State) (m : MethodId) (args : Array Value) (below : List Frame) (meth : Method) (c : Code), xCx p m c b nL s args (Cond.code y b nL ret :: bsG) y.cls ρ sc L xs cA dC dI (bsA ρ cA Rz s.heap.size) meth ret →
      xV p l e rm s m args below meth c 0 0 (MQ below (xQr ρ cA dC dI (bsA ρ cA Rz s.heap.size) P) args s rm.cells rm.slots (bsA ρ cA Rz s.heap.size)) ρ cA dC dI (bsA ρ cA Rz s.heap.size) Rz nL 0 (lv_args 0 As) [] X) : xMr l y b nL ret rm ρ sc L xs cA dC dI As X Rz P := by
  intro sz
  refine Met.ofW (cc := b) (maxL := nL) (ret := ret) hy rfl ?_
  intro p e s m args below meth c s₁ B hml hv
  obtain ⟨rfl, hsz, ⟨hP, hK, hD0, hN, hE⟩, hE2⟩ := hv
  subst hsz
  have hts := atoms_spec (ws := Cond.code y b nL ret :: bsG) B.pre
  have hown : s.vm.findClass y.cls = some m.cls := findClass_of_methodNamed B.named
  have hl := lv_entry As hlen
  rw [lg_entry_eq]
  exact body p e s m _ below meth c ⟨⟨B.exec, B.bytes, hml, hown, hts⟩, hK, fun w h => List.mem_cons_of_mem _ h, ⟨hN, hE, hE2⟩, B.notSynchronized, B.returns, fun q hq => bsA_le hq⟩ _ _ _ hl hP (bsD_self _ hD0) va_S.rf
section XC
variable {p : Program} {l : Launch} {e : Env} {R : Room} {s : State} {m : MethodId} {args : Array Value} {below : List Frame} {meth : Method} {c : Code} {cells slots : Nat} {Q : State → Prop} {ρ : bsR} {sc L : Nat} {xs : Nat → Int32} {cA : Nat → ClassId} {dC : Nat → ClassId} {dI : Nat → Nat → Nat} {A : Nat → Prop} {Rz Rz' : va_W} {nL : Nat} {cc : ByteArray} {Ts : List Cond} {own : String} {ret : Option FieldType} {pc : Nat} {lv : List (Nat × Value)} {st : List Value} {X : bsX} {mc ms : Nat}
theorem x_iret (C : xCx p m c cc nL s args Ts own ρ sc L xs cA dC dI A meth (some .int)) {v : Int32} {P : Int32 → bsX → va_W → Prop} (hz : P v X Rz) (h1 : cells ≤ mc) (h2 : slots ≤ ms) (hd : decode cc pc = .ok (.ireturn, 1)) : xV p l e R s m args below meth c cells slots (MQ below (xQi ρ cA dC dI A P) args s mc ms A) ρ cA dC dI A Rz nL pc lv [.int v] X := by
  intro ls H locs hl hP hD hS
  exact W.widen h1 h2 (W.iret (v := v) C.1.1 C.1.2.1 C.2.2.2.2.2.1 (fun t ht hW => ⟨⟨v, (X, Rz), rfl, hz, by rw [ht]; exact hP, hD⟩, hS.F ht⟩) hS.2.2 hd C.2.2.2.2.1)
theorem x_xret {ty : FieldType} (C : xCx p m c cc nL s args Ts own ρ sc L xs cA dC dI A meth (some ty)) {v : Int32} {P : Int32 → bsX → va_W → Prop} (hb : narrow ty (.int v) = .int v) (hz : P v X Rz) (h1 : cells ≤ mc) (h2 : slots ≤ ms) (hd : decode cc pc = .ok (.ireturn, 1)) : xV p l e R s m args below meth c cells slots (MQ below (xQi ρ cA dC dI A P) args s mc ms A) ρ cA dC dI A Rz nL pc lv [.int v] X := by
  intro ls H locs hl hP hD hS
  exact W.widen h1 h2 (W.zret (v := v) C.1.1 C.1.2.1 C.2.2.2.2.2.1 hb (fun t ht hW => ⟨⟨v, (X, Rz), rfl, hz, by rw [ht]; exact hP, hD⟩, hS.F ht⟩) hS.2.2 hd C.2.2.2.2.1)
theorem x_vret (C : xCx p m c cc nL s args Ts own ρ sc L xs cA dC dI A meth none) {P : bsX → va_W → Prop} (hz : P X Rz) (h1 : cells ≤ mc) (h2 : slots ≤ ms) (hd : decode cc pc = .ok (.return_, 1)) : xV p l e R s m args below meth c cells slots (MQ below (xQv ρ cA dC dI A P) args s mc ms A) ρ cA dC dI A Rz nL pc lv [] X := by
  intro ls H locs hl hP hD hS
  exact W.widen h1 h2 (W.vret C.1.1 C.1.2.1 C.2.2.2.2.2.1 (fun t ht hW => ⟨⟨(X, Rz), rfl, hz, by rw [ht]; exact hP, hD⟩, hS.F ht⟩) hS.2.2 hd C.2.2.2.2.1)
theorem x_aret {rt : FieldType} (C : xCx p m c cc nL s args Ts own ρ sc L xs cA dC dI A meth (some rt)) (hrt : (∃ n, rt = .object n) ∨ ∃ t, rt = .array t) {a : Nat} {P : Nat → bsX → va_W → Prop} (hz : P a X Rz) (h1 : cells ≤ mc) (h2 : slots ≤ ms) (hd : decode cc pc = .ok (.areturn, 1)) : xV p l e R s m args below meth c cells slots (MQ below (xQr ρ cA dC dI A P) args s mc ms A) ρ cA dC dI A Rz nL pc lv [.ref a] X := by
  intro ls H locs hl hP hD hS
  exact W.widen h1 h2 (W.aret (v := .ref a) C.1.1 C.1.2.1 C.2.2.2.2.2.1 hrt (Or.inr ⟨a, rfl⟩) (fun t ht hW => ⟨⟨(X, Rz), a, rfl, trivial, hz, by rw [ht]; exact hP, hD⟩, hS.F ht⟩) hS.2.2 hd C.2.2.2.2.1)
theorem xA_sub {H : Heap} {locs : List Loc} (C : xCx p m c cc nL s args Ts own ρ sc L xs cA dC dI A meth ret) (hD : va_D A (bsWs ρ cA X Rz)) (hS : va_S A s.heap H locs) : ∀ q, bsA ρ cA Rz H.size q → A q := by
  intro q h
  rcases h with ⟨k, e9, h⟩ | h
  · obtain ⟨e2, h2⟩ := bs_ad_at (bsWs_ad ρ cA (fun _ _ _ _ => 0) X Rz) h
    exact hD.2 k _ h2
  · exact C.2.2.2.2.2.2 q (Nat.le_trans hS.1 h)
theorem x_blind {av : List Value} {sz : Nat} : FrameBlind (va_Pc av (fun U => U.heap.size = sz ∧ xWp ρ sc L xs cA dC dI Rz X U)) := fun a U g mk q => by
  obtain ⟨q0, q1, q2, q3⟩ := q
  have hb := bs_blind (av := av) (sz := sz) a U g mk ⟨q0, q1, q2⟩
  exact ⟨q0, q1, hb.2.2, q3.go (U := U.calling g mk a) (State.WarmedH.refl U) (fun _ _ _ => rfl) (fun _ h => h)⟩
theorem x_pre {As : List Value} {H : Heap} {locs : List Loc} (C : xCx p m c cc nL s args Ts own ρ sc L xs cA dC dI A meth ret) (hP : va_P (dC, dI) vwCl (bsWs ρ cA X Rz) H) (hD : va_D A (bsWs ρ cA X Rz)) (hS : va_S A s.heap H locs) : PreS s H (va_Pc As (fun U => U.heap.size = H.size ∧ xWp ρ sc L xs cA dC dI Rz X U)) As :=
  ⟨x_blind, fun U hU hW => ⟨rfl, by rw [hU], ⟨by rw [hU]; exact hP, va_K.moved hW.alike C.2.1, hD.weaken (fun _ _ _ _ => trivial), bsNw.warm hW C.2.2.2.1.1, bsEx.go C.2.2.2.1.2.1 hW (by rw [hU]; exact hS.2.1) (by rw [hU]; exact xA_sub C hD hS)⟩, C.2.2.2.1.2.2.go hW (by rw [hU]; exact hS.2.1) (by rw [hU]; exact xA_sub C hD hS)⟩⟩
theorem x_preB {As : List Value} {H : Heap} {locs : List Loc} (C : xCx p m c cc nL s args Ts own ρ sc L xs cA dC dI A meth ret) (hP : va_P (dC, dI) vwCl (bsWs ρ cA X Rz) H) (hD : va_D A (bsWs ρ cA X Rz)) (hS : va_S A s.heap H locs) : PreS s H (va_Pc As (fun U => U.heap.size = H.size ∧ bsWp ρ cA dC dI Rz X U)) As :=
  ⟨bs_blind, fun U hU hW => ⟨rfl, by rw [hU], by rw [hU]; exact hP, va_K.moved hW.alike C.2.1, hD.weaken (fun _ _ _ _ => trivial), bsNw.warm hW C.2.2.2.1.1, bsEx.go C.2.2.2.1.2.1 hW (by rw [hU]; exact hS.2.1) (by rw [hU]; exact xA_sub C hD hS)⟩⟩
theorem x_back {H1 : Heap} {locs : List Loc} {t : State} {u : bsX × va_W} {Q2 : State → Prop} {pc2 : Nat} {st2 : List Value} {ls : Array Slot} {A1 : Nat → Prop} (hl : lv_has ls nL lv) (ht : t.heap = H1) (hB : xB ρ cA dC dI A1 u t) (hA : ∀ q, A1 q → A q) (hS : va_S A s.heap H1 locs) (kk : xV p l e R s m args below meth c cells slots Q2 ρ cA dC dI A u.2 nL pc2 lv st2 u.1) : W p l e R s m args below meth c H1 locs cells slots Q2 (F0 m pc2 ls st2) := by
  obtain ⟨hP1, hD1⟩ := hB
  rw [ht] at hP1
  exact kk ls H1 locs hl hP1 (hD1.weaken (fun _ _ _ h => hA _ h)) hS
theorem x_callVi (C : xCx p m c cc nL s args Ts own ρ sc L xs cA dC dI A meth ret) {y : MethodName} {b : ByteArray} {nL' index : Nat} {ret' : Option FieldType} {rm' : Room} {As rest : List Value} {q0 a ci N : Nat} {fs : List Value} {T : u_T} {P : Int32 → bsX → va_W → Prop} (hM : xMi l y b nL' ret' rm' ρ sc L xs cA dC dI (.ref a :: As) X Rz P) (hl0 : Cond.methodLink own index y ∈ bsG) (hw : bsWy y b nL' ret') (he : Rz[q0]? = some (a, .inr (ci, fs))) (hci : vwCl[ci]? = some (y.cls, T, N)) (hde : (parseMethodDescriptor y.desc).map (fun d => d.parameters.length) = some As.length)
    (hR : rm'.frames + 1 ≤ R.frames ∧ 8 + (nL' + 11) + rm'.locals ≤ R.locals) (hcs : cells + rm'.cells ≤ R.cells ∧ slots + rm'.slots ≤ R.slots) (hst : st = As.reverse ++ .ref a :: rest) (hW : (rest.map fun v => v.category).sum ≤ 8) (hd : decode cc pc = .ok (.invokevirtual index, 3))
    (kk : ∀ (r : Int32) (X' : bsX) (Rz' : va_W), P r X' Rz' → xV p l e R s m args below meth c (cells + rm'.cells) (slots + rm'.slots) Q ρ cA dC dI A Rz' nL (pc + 3) lv (.int r :: rest) X') : xV p l e R s m args below meth c cells slots Q ρ cA dC dI A Rz nL pc lv st X := by
  intro ls H locs hl hP hD hS
  have hpre := x_pre (As := .ref a :: As) C hP hD hS
  exact va_calli (va_runV (As := As) (rest := rest) C.1 (hM H.size) (cwV As.length C.1.2.2.2.2 (bs_goodV C.2.2.1 hl0 hw) rfl rfl rfl ⟨rfl, hw.2.2.2.2.1, hw.2.2.2.2.2, hde⟩ hR) ⟨hpre.1, va_recv C.2.1 hP hci ((xW_at q0).trans he), hpre.2⟩ rfl rfl hl.1 hst (lv_room hW) hd hcs) hS (fun q _ h => xA_sub C hD hS q h) (fun q h => xA_sub C hD hS q h) (fun r u t H1 locs1 ht hvm hr hB hz1 hk1 hS1 => x_back hl ht hB (xA_sub C hD hS) hS1 (kk r u.1 u.2 hr))
theorem x_callSi (C : xCx p m c cc nL s args Ts own ρ sc L xs cA dC dI A meth ret) {y : MethodName} {b : ByteArray} {nL' index : Nat} {ret' : Option FieldType} {rm' : Room} {As rest : List Value} {P : Int32 → bsX → va_W → Prop} (hM : xMi l y b nL' ret' rm' ρ sc L xs cA dC dI As X Rz P) (hl0 : Cond.methodLink own index y ∈ bsG) (hw : bsWz y b nL' ret') (hde : (parseMethodDescriptor y.desc).map (fun d => d.parameters.length) = some As.length)
    (hR : rm'.frames + 1 ≤ R.frames ∧ 8 + (nL' + 11) + rm'.locals ≤ R.locals) (hcs : cells + rm'.cells ≤ R.cells ∧ slots + rm'.slots ≤ R.slots) (hst : st = As.reverse ++ rest) (hW : (rest.map fun v => v.category).sum ≤ 8) (hd : decode cc pc = .ok (.invokestatic index, 3))
    (kk : ∀ (r : Int32) (X' : bsX) (Rz' : va_W), P r X' Rz' → xV p l e R s m args below meth c (cells + rm'.cells) (slots + rm'.slots) Q ρ cA dC dI A Rz' nL (pc + 3) lv (.int r :: rest) X') : xV p l e R s m args below meth c cells slots Q ρ cA dC dI A Rz nL pc lv st X := by
  intro ls H locs hl hP hD hS
  exact va_calli (va_runS (As := As) (rest := rest) C.1 (hM H.size) ⟨callB_of As.length C.1.2.2.2.2 (bs_goodC C.2.2.1 hw.2.2.1) rfl rfl rfl (C.1.2.2.2.2 _ (C.2.2.1 _ hw.2.1)) (C.1.2.2.2.2 _ (C.2.2.1 _ hl0)) ⟨hw.2.2.2.1, hw.2.2.2.2, hde⟩ hR, C.1.2.2.2.2 _ (C.2.2.1 _ hw.1)⟩ (x_pre C hP hD hS) rfl rfl hl.1 hst (lv_room hW) hd hcs) hS (fun q _ h => xA_sub C hD hS q h) (fun q h => xA_sub C hD hS q h) (fun r u t H1 locs1 ht hvm hr hB hz1 hk1 hS1 => x_back hl ht hB (xA_sub C hD hS) hS1 (kk r u.1 u.2 hr))
theorem x_callVv (C : xCx p m c cc nL s args Ts own ρ sc L xs cA dC dI A meth ret) {y : MethodName} {b : ByteArray} {nL' index : Nat} {ret' : Option FieldType} {rm' : Room} {As rest : List Value} {q0 a ci N : Nat} {fs : List Value} {T : u_T} {P : bsX → va_W → Prop} (hM : xMv l y b nL' ret' rm' ρ sc L xs cA dC dI (.ref a :: As) X Rz P) (hl0 : Cond.methodLink own index y ∈ bsG) (hw : bsWy y b nL' ret') (he : Rz[q0]? = some (a, .inr (ci, fs))) (hci : vwCl[ci]? = some (y.cls, T, N)) (hde : (parseMethodDescriptor y.desc).map (fun d => d.parameters.length) = some As.length)
    (hR : rm'.frames + 1 ≤ R.frames ∧ 8 + (nL' + 11) + rm'.locals ≤ R.locals) (hcs : cells + rm'.cells ≤ R.cells ∧ slots + rm'.slots ≤ R.slots) (hst : st = As.reverse ++ .ref a :: rest) (hW : (rest.map fun v => v.category).sum ≤ 8) (hd : decode cc pc = .ok (.invokevirtual index, 3))
    (kk : ∀ (X' : bsX) (Rz' : va_W), P X' Rz' → xV p l e R s m args below meth c (cells + rm'.cells) (slots + rm'.slots) Q ρ cA dC dI A Rz' nL (pc + 3) lv rest X') : xV p l e R s m args below meth c cells slots Q ρ cA dC dI A Rz nL pc lv st X := by
  intro ls H locs hl hP hD hS
  have hpre := x_pre (As := .ref a :: As) C hP hD hS
  exact va_callv (va_runV (As := As) (rest := rest) C.1 (hM H.size) (cwV As.length C.1.2.2.2.2 (bs_goodV C.2.2.1 hl0 hw) rfl rfl rfl ⟨rfl, hw.2.2.2.2.1, hw.2.2.2.2.2, hde⟩ hR) ⟨hpre.1, va_recv C.2.1 hP hci ((xW_at q0).trans he), hpre.2⟩ rfl rfl hl.1 hst (lv_room hW) hd hcs) hS (fun q _ h => xA_sub C hD hS q h) (fun q h => xA_sub C hD hS q h) (fun u t H1 locs1 ht hvm hr hB hz1 hk1 hS1 => x_back hl ht hB (xA_sub C hD hS) hS1 (kk u.1 u.2 hr))
theorem x_callSv (C : xCx p m c cc nL s args Ts own ρ sc L xs cA dC dI A meth ret) {y : MethodName} {b : ByteArray} {nL' index : Nat} {ret' : Option FieldType} {rm' : Room} {As rest : List Value} {P : bsX → va_W → Prop} (hM : xMv l y b nL' ret' rm' ρ sc L xs cA dC dI As X Rz P) (hl0 : Cond.methodLink own index y ∈ bsG) (hw : bsWz y b nL' ret') (hde : (parseMethodDescriptor y.desc).map (fun d => d.parameters.length) = some As.length)
    (hR : rm'.frames + 1 ≤ R.frames ∧ 8 + (nL' + 11) + rm'.locals ≤ R.locals) (hcs : cells + rm'.cells ≤ R.cells ∧ slots + rm'.slots ≤ R.slots) (hst : st = As.reverse ++ rest) (hW : (rest.map fun v => v.category).sum ≤ 8) (hd : decode cc pc = .ok (.invokestatic index, 3))
    (kk : ∀ (X' : bsX) (Rz' : va_W), P X' Rz' → xV p l e R s m args below meth c (cells + rm'.cells) (slots + rm'.slots) Q ρ cA dC dI A Rz' nL (pc + 3) lv rest X') : xV p l e R s m args below meth c cells slots Q ρ cA dC dI A Rz nL pc lv st X := by
  intro ls H locs hl hP hD hS
  exact va_callv (va_runS (As := As) (rest := rest) C.1 (hM H.size) ⟨callB_of As.length C.1.2.2.2.2 (bs_goodC C.2.2.1 hw.2.2.1) rfl rfl rfl (C.1.2.2.2.2 _ (C.2.2.1 _ hw.2.1)) (C.1.2.2.2.2 _ (C.2.2.1 _ hl0)) ⟨hw.2.2.2.1, hw.2.2.2.2, hde⟩ hR, C.1.2.2.2.2 _ (C.2.2.1 _ hw.1)⟩ (x_pre C hP hD hS) rfl rfl hl.1 hst (lv_room hW) hd hcs) hS (fun q _ h => xA_sub C hD hS q h) (fun q h => xA_sub C hD hS q h) (fun u t H1 locs1 ht hvm hr hB hz1 hk1 hS1 => x_back hl ht hB (xA_sub C hD hS) hS1 (kk u.1 u.2 hr))
theorem x_callVr (C : xCx p m c cc nL s args Ts own ρ sc L xs cA dC dI A meth ret) {y : MethodName} {b : ByteArray} {nL' index : Nat} {ret' : Option FieldType} {rm' : Room} {As rest : List Value} {q0 a ci N : Nat} {fs : List Value} {T : u_T} {P : Nat → bsX → va_W → Prop} (hM : xMr l y b nL' ret' rm' ρ sc L xs cA dC dI (.ref a :: As) X Rz P) (hl0 : Cond.methodLink own index y ∈ bsG) (hw : bsWy y b nL' ret') (he : Rz[q0]? = some (a, .inr (ci, fs))) (hci : vwCl[ci]? = some (y.cls, T, N)) (hde : (parseMethodDescriptor y.desc).map (fun d => d.parameters.length) = some As.length)
    (hR : rm'.frames + 1 ≤ R.frames ∧ 8 + (nL' + 11) + rm'.locals ≤ R.locals) (hcs : cells + rm'.cells ≤ R.cells ∧ slots + rm'.slots ≤ R.slots) (hst : st = As.reverse ++ .ref a :: rest) (hW : (rest.map fun v => v.category).sum ≤ 8) (hd : decode cc pc = .ok (.invokevirtual index, 3))
    (kk : ∀ (r : Nat) (X' : bsX) (Rz' : va_W), P r X' Rz' → xV p l e R s m args below meth c (cells + rm'.cells) (slots + rm'.slots) Q ρ cA dC dI A Rz' nL (pc + 3) lv (.ref r :: rest) X') : xV p l e R s m args below meth c cells slots Q ρ cA dC dI A Rz nL pc lv st X := by
  intro ls H locs hl hP hD hS
  have hpre := x_pre (As := .ref a :: As) C hP hD hS
  exact va_callr (va_runV (As := As) (rest := rest) C.1 (hM H.size) (cwV As.length C.1.2.2.2.2 (bs_goodV C.2.2.1 hl0 hw) rfl rfl rfl ⟨rfl, hw.2.2.2.2.1, hw.2.2.2.2.2, hde⟩ hR) ⟨hpre.1, va_recv C.2.1 hP hci ((xW_at q0).trans he), hpre.2⟩ rfl rfl hl.1 hst (lv_room hW) hd hcs) hS (fun q _ h => xA_sub C hD hS q h) (fun q h => xA_sub C hD hS q h) (fun u ra t H1 locs1 ht hvm hr hB hz1 hk1 hS1 => x_back hl ht hB.2 (xA_sub C hD hS) hS1 (kk ra u.1 u.2 hB.1))
theorem x_callSr (C : xCx p m c cc nL s args Ts own ρ sc L xs cA dC dI A meth ret) {y : MethodName} {b : ByteArray} {nL' index : Nat} {ret' : Option FieldType} {rm' : Room} {As rest : List Value} {P : Nat → bsX → va_W → Prop} (hM : xMr l y b nL' ret' rm' ρ sc L xs cA dC dI As X Rz P) (hl0 : Cond.methodLink own index y ∈ bsG) (hw : bsWz y b nL' ret') (hde : (parseMethodDescriptor y.desc).map (fun d => d.parameters.length) = some As.length)
    (hR : rm'.frames + 1 ≤ R.frames ∧ 8 + (nL' + 11) + rm'.locals ≤ R.locals) (hcs : cells + rm'.cells ≤ R.cells ∧ slots + rm'.slots ≤ R.slots) (hst : st = As.reverse ++ rest) (hW : (rest.map fun v => v.category).sum ≤ 8) (hd : decode cc pc = .ok (.invokestatic index, 3))
    (kk : ∀ (r : Nat) (X' : bsX) (Rz' : va_W), P r X' Rz' → xV p l e R s m args below meth c (cells + rm'.cells) (slots + rm'.slots) Q ρ cA dC dI A Rz' nL (pc + 3) lv (.ref r :: rest) X') : xV p l e R s m args below meth c cells slots Q ρ cA dC dI A Rz nL pc lv st X := by
  intro ls H locs hl hP hD hS
  exact va_callr (va_runS (As := As) (rest := rest) C.1 (hM H.size) ⟨callB_of As.length C.1.2.2.2.2 (bs_goodC C.2.2.1 hw.2.2.1) rfl rfl rfl (C.1.2.2.2.2 _ (C.2.2.1 _ hw.2.1)) (C.1.2.2.2.2 _ (C.2.2.1 _ hl0)) ⟨hw.2.2.2.1, hw.2.2.2.2, hde⟩ hR, C.1.2.2.2.2 _ (C.2.2.1 _ hw.1)⟩ (x_pre C hP hD hS) rfl rfl hl.1 hst (lv_room hW) hd hcs) hS (fun q _ h => xA_sub C hD hS q h) (fun q h => xA_sub C hD hS q h) (fun u ra t H1 locs1 ht hvm hr hB hz1 hk1 hS1 => x_back hl ht hB.2 (xA_sub C hD hS) hS1 (kk ra u.1 u.2 hB.1))
def xWi (y : MethodName) (b : ByteArray) (nL : Nat) : Prop := Cond.instanceMethod y ∈ bsG ∧ Cond.initialized y.cls ∈ bsG ∧ Cond.code y b nL none ∈ bsG ∧ (y.cls ≠ "java/lang/invoke/MethodHandle" ∧ y.cls ≠ "java/lang/invoke/VarHandle") ∧ y.name = "<init>"
theorem x_callI (C : xCx p m c cc nL s args Ts own ρ sc L xs cA dC dI A meth ret) {y : MethodName} {b : ByteArray} {nL' index : Nat} {rm' : Room} {As rest : List Value} {a : Nat} {P : bsX → va_W → Prop} (hM : xMv l y b nL' none rm' ρ sc L xs cA dC dI (.ref a :: As) X Rz P) (hl0 : Cond.methodLink own index y ∈ bsG) (hw : xWi y b nL') (hde : (parseMethodDescriptor y.desc).map (fun d => d.parameters.length) = some As.length)
    (hR : rm'.frames + 1 ≤ R.frames ∧ 8 + (nL' + 11) + rm'.locals ≤ R.locals) (hcs : cells + rm'.cells ≤ R.cells ∧ slots + rm'.slots ≤ R.slots) (hst : st = As.reverse ++ .ref a :: rest) (hW : (rest.map fun v => v.category).sum ≤ 8) (hd : decode cc pc = .ok (.invokespecial index, 3))
    (kk : ∀ (X' : bsX) (Rz' : va_W), P X' Rz' → xV p l e R s m args below meth c (cells + rm'.cells) (slots + rm'.slots) Q ρ cA dC dI A Rz' nL (pc + 3) lv rest X') : xV p l e R s m args below meth c cells slots Q ρ cA dC dI A Rz nL pc lv st X := by
  intro ls H locs hl hP hD hS
  exact va_callv (va_runI (As := As) (rest := rest) C.1 (hM H.size) (cwI As.length C.1.2.2.2.2 (bs_goodC C.2.2.1 hw.2.2.1) rfl rfl rfl (C.1.2.2.2.2 _ (C.2.2.1 _ hw.2.1)) (C.1.2.2.2.2 _ (C.2.2.1 _ hl0)) (C.1.2.2.2.2 _ (C.2.2.1 _ hw.1)) hw.2.2.2.2 ⟨hw.2.2.2.1.1, hw.2.2.2.1.2, hde⟩ hR) (x_pre (As := .ref a :: As) C hP hD hS) rfl rfl hl.1 hst (lv_room hW) hd hcs) hS (fun q _ h => xA_sub C hD hS q h) (fun q h => xA_sub C hD hS q h) (fun u t H1 locs1 ht hvm hr hB hz1 hk1 hS1 => x_back hl ht hB (xA_sub C hD hS) hS1 (kk u.1 u.2 hr))
theorem x_callIN (C : xCx p m c cc nL s args Ts own ρ sc L xs cA dC dI A meth ret) {y : MethodName} {b : ByteArray} {nL' index : Nat} {rm' : Room} {As rest : List Value} {a : Nat} {host : String} {P : bsX → va_W → Prop} (hM : xMv l y b nL' none rm' ρ sc L xs cA dC dI (.ref a :: As) X Rz P) (hl0 : (own, index, y, host) ∈ xLk) (hw : xWi y b nL') (hde : (parseMethodDescriptor y.desc).map (fun d => d.parameters.length) = some As.length)
    (hR : rm'.frames + 1 ≤ R.frames ∧ 8 + (nL' + 11) + rm'.locals ≤ R.locals) (hcs : cells + rm'.cells ≤ R.cells ∧ slots + rm'.slots ≤ R.slots) (hst : st = As.reverse ++ .ref a :: rest) (hW : (rest.map fun v => v.category).sum ≤ 8) (hd : decode cc pc = .ok (.invokespecial index, 3))
    (kk : ∀ (X' : bsX) (Rz' : va_W), P X' Rz' → xV p l e R s m args below meth c (cells + rm'.cells) (slots + rm'.slots) Q ρ cA dC dI A Rz' nL (pc + 3) lv rest X') : xV p l e R s m args below meth c cells slots Q ρ cA dC dI A Rz nL pc lv st X := by
  intro ls H locs hl hP hD hS
  exact va_callv (va_runIN (As := As) (rest := rest) C.1 (hM H.size) ⟨va_cnB As.length C.1.2.2.2.2 (bs_goodC C.2.2.1 hw.2.2.1) rfl rfl rfl (C.2.2.2.1.2.2.2.2.1 _ hl0) (C.1.2.2.2.2 _ (C.2.2.1 _ hw.2.1)) ⟨hw.2.2.2.1.1, hw.2.2.2.1.2, hde⟩ hR, hw.2.2.2.2, C.1.2.2.2.2 _ (C.2.2.1 _ hw.1)⟩ (x_pre (As := .ref a :: As) C hP hD hS) rfl rfl hl.1 hst (lv_room hW) hd hcs) hS (fun q _ h => xA_sub C hD hS q h) (fun q h => xA_sub C hD hS q h) (fun u t H1 locs1 ht hvm hr hB hz1 hk1 hS1 => x_back hl ht hB (xA_sub C hD hS) hS1 (kk u.1 u.2 hr))
theorem x_backB {X' : bsX} {H1 : Heap} {locs : List Loc} {t : State} {Q2 : State → Prop} {pc2 : Nat} {st2 : List Value} {ls : Array Slot} (hl : lv_has ls nL lv) (ht : t.heap = H1) (hB : bsWp ρ cA dC dI Rz X' t) (hD : va_D A (bsWs ρ cA X Rz)) (hS : va_S A s.heap H1 locs) (kk : xV p l e R s m args below meth c cells slots Q2 ρ cA dC dI A Rz nL pc2 lv st2 X') : W p l e R s m args below meth c H1 locs cells slots Q2 (F0 m pc2 ls st2) := by
  have hP1 := hB.1
  rw [ht] at hP1
  exact kk ls H1 locs hl hP1 (bsD_of (bsWs_ad ρ cA X X' Rz) hD) hS
theorem x_callBi (C : xCx p m c cc nL s args Ts own ρ sc L xs cA dC dI A meth ret) {y : MethodName} {b : ByteArray} {nL' index : Nat} {ret' : Option FieldType} {rm' : Room} {As rest : List Value} {g K j ci N : Nat} {fs : List Value} {T : u_T} {z : Int32 × bsX} (hM : bsMi l y b nL' ret' rm' ρ cA dC dI Rz (.ref (ρ g K j) :: As) X z) (hl0 : Cond.methodLink own index y ∈ bsG) (hw : bsWy y b nL' ret') (hk : (g, K, j) ∈ bsKeys) (hc : bsCell ρ cA g K j (X g K j) = .inr (ci, fs)) (hci : vwCl[ci]? = some (y.cls, T, N)) (hde : (parseMethodDescriptor y.desc).map (fun d => d.parameters.length) = some As.length)
    (hR : rm'.frames + 1 ≤ R.frames ∧ 8 + (nL' + 11) + rm'.locals ≤ R.locals) (hz0 : rm'.cells = 0 ∧ rm'.slots = 0) (hcs : cells ≤ R.cells ∧ slots ≤ R.slots) (hst : st = As.reverse ++ .ref (ρ g K j) :: rest) (hW : (rest.map fun v => v.category).sum ≤ 8) (hd : decode cc pc = .ok (.invokevirtual index, 3))
    (kk : xV p l e R s m args below meth c cells slots Q ρ cA dC dI A Rz nL (pc + 3) lv (.int z.1 :: rest) z.2) : xV p l e R s m args below meth c cells slots Q ρ cA dC dI A Rz nL pc lv st X := by
  intro ls H locs hl hP hD hS
  obtain ⟨q0, -, hq⟩ := bsWs_at hk
  have hpre := x_preB (As := .ref (ρ g K j) :: As) C hP hD hS
  refine va_calli (va_runV (As := As) (rest := rest) C.1 (hM H.size) (cwV As.length C.1.2.2.2.2 (bs_goodV C.2.2.1 hl0 hw) rfl hz0.1 hz0.2 ⟨rfl, hw.2.2.2.2.1, hw.2.2.2.2.2, hde⟩ hR) ⟨hpre.1, va_recv C.2.1 hP hci ((hq ρ cA X Rz).trans (by rw [hc])), hpre.2⟩ rfl rfl hl.1 hst (lv_room hW) hd ⟨hcs.1, hcs.2⟩) hS (fun q _ h => xA_sub C hD hS q h) (fun q h => xA_sub C hD hS q h) (fun r u t H1 locs1 ht hvm hr hB hz1 hk1 hS1 => ?_)
  have hr1 : r = z.1 := hr
  subst hr1
  exact x_backB hl ht hB hD hS1 kk
theorem x_callT (C : xCx p m c cc nL s args Ts own ρ sc L xs cA dC dI A meth ret) {y : MethodName} {b : ByteArray} {nL' index : Nat} {ret' : Option FieldType} {rm' : Room} {As rest : List Value} {g K j ci N : Nat} {fs : List Value} {T : u_T} {r : bsXr} (hM : bsTi l y b nL' ret' rm' ρ cA dC dI Rz (.ref (ρ g K j) :: As) X r) (h0 : r.1 = 0) (hl0 : Cond.methodLink own index y ∈ bsG) (hw : bsWy y b nL' ret') (hk : (g, K, j) ∈ bsKeys) (hc : bsCell ρ cA g K j (X g K j) = .inr (ci, fs)) (hci : vwCl[ci]? = some (y.cls, T, N)) (hde : (parseMethodDescriptor y.desc).map (fun d => d.parameters.length) = some As.length)
    (hR : rm'.frames + 1 ≤ R.frames ∧ 8 + (nL' + 11) + rm'.locals ≤ R.locals) (hcs : cells + rm'.cells ≤ R.cells ∧ slots + rm'.slots ≤ R.slots) (hst : st = As.reverse ++ .ref (ρ g K j) :: rest) (hW : (rest.map fun v => v.category).sum ≤ 8) (hd : decode cc pc = .ok (.invokevirtual index, 3))
    (kk : xV p l e R s m args below meth c (cells + rm'.cells) (slots + rm'.slots) Q ρ cA dC dI A Rz nL (pc + 3) lv (.int r.2.1 :: rest) r.2.2) : xV p l e R s m args below meth c cells slots Q ρ cA dC dI A Rz nL pc lv st X := by
  intro ls H locs hl hP hD hS
  obtain ⟨q0, -, hq⟩ := bsWs_at hk
  have hpre := x_preB (As := .ref (ρ g K j) :: As) C hP hD hS
  refine vx_calli (vx_runV (As := As) (rest := rest) C.1 (hM H.size) (cwV As.length C.1.2.2.2.2 (bs_goodV C.2.2.1 hl0 hw) rfl rfl rfl ⟨rfl, hw.2.2.2.2.1, hw.2.2.2.2.2, hde⟩ hR) ⟨hpre.1, va_recv C.2.1 hP hci ((hq ρ cA X Rz).trans (by rw [hc])), hpre.2⟩ rfl rfl hl.1 hst (lv_room hW) hd hcs) hS (fun q _ h => xA_sub C hD hS q h) (fun q h => xA_sub C hD hS q h) (fun q _ h => xA_sub C hD hS q h) (fun E ce q9 u t H1 locs1 ht hvm hp hB hz1 hk1 hS1 hc1 hc2 hc3 => ?_) (fun r1 u t H1 locs1 ht hvm hr hB hz1 hk1 hS1 => ?_)
  · obtain ⟨⟨h9, hE⟩, hBw⟩ := hB
    omega
  · obtain ⟨h9, hr1⟩ := hr
    subst hr1
    exact x_backB hl ht hB hD hS1 kk
end XC
