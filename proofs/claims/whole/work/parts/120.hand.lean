/-! METHODS WITH HANDLERS over the state; the law's two rows beside the world: long[1], double[1] -/
def bsO {α : Type} [OfNat α 0] (v : α) : Nat → α := fun j => if j = 0 then v else 0
def bsRz (ρ : bsR) (cA : Nat → ClassId) (lo : Int64) (od : UInt64) : va_W := [(ρ 15 0 0, .inl (cA 5, 1, .inr (.inl (bsO lo)))), (ρ 15 1 0, .inl (cA 6, 1, .inr (.inr (.inr (.inl (bsO od))))))]
theorem bsKeys_len : bsKeys.length = 302 := by decide +kernel
theorem bsRz_at (ρ : bsR) (cA : Nat → ClassId) (X : bsX) (lo : Int64) (od : UInt64) (k : Nat) : (bsWs ρ cA X (bsRz ρ cA lo od))[302 + k]? = (bsRz ρ cA lo od)[k]? := by
  have h : (bsKeys.map (fun t => (ρ t.1 t.2.1 t.2.2, bsCell ρ cA t.1 t.2.1 t.2.2 (X t.1 t.2.1 t.2.2)))).length = 302 := by rw [List.length_map]; exact bsKeys_len
  rw [bsWs, List.getElem?_append_right (by omega), h, Nat.add_sub_cancel_left]
theorem bsRz_set (ρ : bsR) (cA : Nat → ClassId) (X : bsX) (Rz : va_W) (k : Nat) (x : Nat × va_E) : (bsWs ρ cA X Rz).set (302 + k) x = bsWs ρ cA X (Rz.set k x) := by
  have h : (bsKeys.map (fun t => (ρ t.1 t.2.1 t.2.2, bsCell ρ cA t.1 t.2.1 t.2.2 (X t.1 t.2.1 t.2.2)))).length = 302 := by rw [List.length_map]; exact bsKeys_len
  rw [bsWs, bsWs, List.set_append, if_neg (by omega), h, Nat.add_sub_cancel_left]
theorem bsO_l (lo x : Int64) : vp_updL (bsO lo) 0 x = bsO x := by
  funext j
  by_cases h : j = 0 <;> simp [vp_updL, bsO, h]
theorem bsO_d (od x : UInt64) : vf_upd (bsO od) 0 x = bsO x := by
  funext j
  by_cases h : j = 0 <;> simp [vf_upd, bsO, h]
theorem bsA_ad {ρ : bsR} {cA : Nat → ClassId} {Rz Rz' : va_W} (h : Rz.map Prod.fst = Rz'.map Prod.fst) (sz : Nat) : bsA ρ cA Rz sz = bsA ρ cA Rz' sz := by
  have h0 : (bsWs ρ cA (fun _ _ _ _ => 0) Rz).map Prod.fst = (bsWs ρ cA (fun _ _ _ _ => 0) Rz').map Prod.fst := by simp only [bsWs, List.map_append, h]
  funext q
  refine propext ⟨fun z => ?_, fun z => ?_⟩
  · rcases z with ⟨k, e, z⟩ | z
    · obtain ⟨e2, z2⟩ := bs_ad_at h0 z
      exact Or.inl ⟨k, e2, z2⟩
    · exact Or.inr z
  · rcases z with ⟨k, e, z⟩ | z
    · obtain ⟨e2, z2⟩ := bs_ad_at h0.symm z
      exact Or.inl ⟨k, e2, z2⟩
    · exact Or.inr z
theorem bsA_Rz {ρ : bsR} {cA : Nat → ClassId} (lo lo1 : Int64) (od od1 : UInt64) (sz : Nat) : bsA ρ cA (bsRz ρ cA lo od) sz = bsA ρ cA (bsRz ρ cA lo1 od1) sz := bsA_ad (Rz := bsRz ρ cA lo od) (Rz' := bsRz ρ cA lo1 od1) (by simp only [bsRz, List.map_cons, List.map_nil]) sz
theorem bs_ofWH {l : Launch} {y : MethodName} {ws ws' : List Cond} {rm : Room} {Pc : Array Value → State → Prop} {Qc : Array Value → State → Outcome → State → Prop} {mc ms : Nat} {free : Addr → Prop} {cc : ByteArray} {maxL : Nat} {ret : Option FieldType} {hh : List (Nat × Nat × Nat × Nat)}
    (hy : plainName y.cls = true) (hw : ws = Cond.codeWith y cc maxL ret hh :: ws')
    (body : ∀ p e s m args below meth c s₁, BodyLoose p l y (headSpec ws rm) cc maxL ret e s m args below meth c s₁ → c.maxLocals = maxL → Pc args s →
      W p l e (headSpec ws rm).room s m args below meth c s.heap [] 0 0 (MQ below Qc args s mc ms free) (entryFrame m args maxL)) : Met l y ws rm Pc Qc mc ms free := by
  refine MetFree.of_bodyS (code := cc) (maxLocals := maxL) (ret := ret) hy ?_ ?_
  · intro args s m h hn
    obtain ⟨m9, meth, c, hn9, h1, h2, h3, h4, -, h5, h6, -⟩ := Cond.codeWith_spec (atoms_spec (ws := ws) h _ (by rw [hw]; exact List.mem_cons_self))
    cases hn.symm.trans hn9
    exact ⟨meth, c, h1, h2, h3, h4, h5, h6⟩
  · intro p e s m args below meth c s₁ B hml hP _
    have hh0 : s₁.heap = s.heap := by rw [B.state]; rfl
    obtain ⟨t, a1, o, b1, b2, b3⟩ := body p e s m args below meth c s₁ B hml hP s₁ hh0 (Stand.of_body B)
    exact ⟨t, o, a1, b1, b2, ⟨b3.1, b3.2⟩⟩
/-- a wrapper: from X, lo, od it answers z.1 and leaves z.2, lo1, od1 -/
def bsWi (l : Launch) (y : MethodName) (b : ByteArray) (nL : Nat) (ret : Option FieldType) (hh : List (Nat × Nat × Nat × Nat)) (rm : Room) (ρ : bsR) (cA : Nat → ClassId) (dC : Nat → ClassId) (dI : Nat → Nat → Nat) (As : List Value) (X : bsX) (lo : Int64) (od : UInt64) (z : Int32 × bsX) (lo1 : Int64) (od1 : UInt64) : Prop :=
  ∀ sz : Nat, Met l y (Cond.codeWith y b nL ret hh :: bsG) rm (va_Pc As (fun U => U.heap.size = sz ∧ bsWp ρ cA dC dI (bsRz ρ cA lo od) X U)) (bsQi ρ cA dC dI (bsRz ρ cA lo1 od1) z sz) rm.cells rm.slots (bsA ρ cA (bsRz ρ cA lo od) sz)
theorem bsWi_of {l : Launch} {y : MethodName} {b : ByteArray} {nL : Nat} {ret : Option FieldType} {hh : List (Nat × Nat × Nat × Nat)} {rm : Room} {ρ : bsR} {cA : Nat → ClassId} {dC : Nat → ClassId} {dI : Nat → Nat → Nat} {As : List Value} {X : bsX} {lo lo1 : Int64} {od od1 : UInt64} {z : Int32 × bsX} (hy : plainName y.cls = true) (hlen : (lg_sl As).length ≤ nL)
    (body : ∀ (p : Program) (e : Env) (s : State) (m : MethodId) (args : Array Value) (below : List Frame) (meth : Method) (c : Code), bsCx p m c b nL s args (Cond.codeWith y b nL ret hh :: bsG) y.cls ρ cA dC dI (bsRz ρ cA lo od) meth ret → c.exceptionTable.toList = tableOf hh →
      bsV p l e rm s m args below meth c 0 0 (MQ below (bsQi ρ cA dC dI (bsRz ρ cA lo1 od1) z s.heap.size) args s rm.cells rm.slots (bsA ρ cA (bsRz ρ cA lo od) s.heap.size)) ρ cA dC dI (bsRz ρ cA lo od) nL 0 (lv_args 0 As) [] X) : bsWi l y b nL ret hh rm ρ cA dC dI As X lo od z lo1 od1 := by
  intro sz
  refine bs_ofWH (cc := b) (maxL := nL) (ret := ret) (hh := hh) hy rfl ?_
  intro p e s m args below meth c s₁ B hml hv
  obtain ⟨rfl, hsz, hP, hK, hD0, hN, hE⟩ := hv
  subst hsz
  have hts := atoms_spec (ws := Cond.codeWith y b nL ret hh :: bsG) B.pre
  have hown : s.vm.findClass y.cls = some m.cls := findClass_of_methodNamed B.named
  have hl := lv_entry As hlen
  rw [lg_entry_eq]
  exact body p e s m _ below meth c ⟨⟨B.exec, B.bytes, hml, hown, hts⟩, hK, fun w h => List.mem_cons_of_mem _ h, ⟨hN, hE⟩, B.notSynchronized, B.returns⟩ (vx_table (x := y) B (hts _ List.mem_cons_self)) _ _ _ hl hP (bsD_self _ hD0) va_S.rf
section BSW
variable {p : Program} {l : Launch} {e : Env} {R : Room} {s : State} {m : MethodId} {args : Array Value} {below : List Frame} {meth : Method} {c : Code} {cells slots : Nat} {Q : State → Prop} {ρ : bsR} {cA : Nat → ClassId} {dC : Nat → ClassId} {dI : Nat → Nat → Nat} {Rz : va_W} {nL : Nat} {cc : ByteArray} {Ts : List Cond} {own : String} {ret : Option FieldType} {pc : Nat} {lv : List (Nat × Value)} {st : List Value} {X : bsX} {mc ms : Nat} {lo lo1 : Int64} {od od1 : UInt64}
theorem bsCx_Rz (C : bsCx p m c cc nL s args Ts own ρ cA dC dI (bsRz ρ cA lo od) meth ret) (lo1 : Int64) (od1 : UInt64) : bsCx p m c cc nL s args Ts own ρ cA dC dI (bsRz ρ cA lo1 od1) meth ret := by
  obtain ⟨h1, h2, h3, ⟨h4, h5⟩, h6⟩ := C
  rw [bsA_Rz lo lo1 od od1] at h5
  exact ⟨h1, h2, h3, ⟨h4, h5⟩, h6⟩
theorem v_last (C : bsCx p m c cc nL s args Ts own ρ cA dC dI (bsRz ρ cA lo od) meth ret) {x : Int64} (hd : decode cc pc = .ok (.lastore, 1)) (kk : bsV p l e R s m args below meth c cells slots Q ρ cA dC dI (bsRz ρ cA x od) nL (pc + 1) lv st X) : bsV p l e R s m args below meth c cells slots Q ρ cA dC dI (bsRz ρ cA lo od) nL pc lv (.long x :: .int 0 :: .ref (ρ 15 0 0) :: st) X := by
  intro ls H locs hl hP hD hS
  refine va_last C.1.1 C.1.2.1 C.2.1 hP hD hS 302 5 ((bsRz_at ρ cA X lo od 0).trans rfl) rfl (vp_in_iff.mpr (by decide)) hd (fun H locs hP hD hS => ?_)
  rw [show (0 : Int32).toNatClampNeg = 0 from rfl, bsO_l, bsRz_set ρ cA X _ 0] at hP hD
  rw [bsA_Rz lo x od od] at hD hS
  exact kk ls H locs hl hP hD hS
theorem v_dast (C : bsCx p m c cc nL s args Ts own ρ cA dC dI (bsRz ρ cA lo od) meth ret) {x : UInt64} (hd : decode cc pc = .ok (.dastore, 1)) (kk : bsV p l e R s m args below meth c cells slots Q ρ cA dC dI (bsRz ρ cA lo x) nL (pc + 1) lv st X) : bsV p l e R s m args below meth c cells slots Q ρ cA dC dI (bsRz ρ cA lo od) nL pc lv (.double x :: .int 0 :: .ref (ρ 15 1 0) :: st) X := by
  intro ls H locs hl hP hD hS
  refine va_dast C.1.1 C.1.2.1 C.2.1 hP hD hS 303 6 ((bsRz_at ρ cA X lo od 1).trans rfl) rfl (vp_in_iff.mpr (by decide)) hd (fun H locs hP hD hS => ?_)
  rw [show (0 : Int32).toNatClampNeg = 0 from rfl, bsO_d, bsRz_set ρ cA X _ 1] at hP hD
  rw [bsA_Rz lo lo od x] at hD hS
  exact kk ls H locs hl hP hD hS
theorem v_lald (C : bsCx p m c cc nL s args Ts own ρ cA dC dI (bsRz ρ cA lo od) meth ret) (hd : decode cc pc = .ok (.laload, 1)) (kk : bsV p l e R s m args below meth c cells slots Q ρ cA dC dI (bsRz ρ cA lo od) nL (pc + 1) lv (.long lo :: st) X) : bsV p l e R s m args below meth c cells slots Q ρ cA dC dI (bsRz ρ cA lo od) nL pc lv (.int 0 :: .ref (ρ 15 0 0) :: st) X := by
  intro ls H locs hl hP hD hS
  exact va_lald C.1.1 C.1.2.1 C.2.1 hP 302 5 ((bsRz_at ρ cA X lo od 0).trans rfl) rfl (vp_in_iff.mpr (by decide)) hd (kk ls H locs hl hP hD hS)
theorem v_dald (C : bsCx p m c cc nL s args Ts own ρ cA dC dI (bsRz ρ cA lo od) meth ret) (hd : decode cc pc = .ok (.daload, 1)) (kk : bsV p l e R s m args below meth c cells slots Q ρ cA dC dI (bsRz ρ cA lo od) nL (pc + 1) lv (.double od :: st) X) : bsV p l e R s m args below meth c cells slots Q ρ cA dC dI (bsRz ρ cA lo od) nL pc lv (.int 0 :: .ref (ρ 15 1 0) :: st) X := by
  intro ls H locs hl hP hD hS
  exact va_dald C.1.1 C.1.2.1 C.2.1 hP 303 6 ((bsRz_at ρ cA X lo od 1).trans rfl) rfl (vp_in_iff.mpr (by decide)) hd (kk ls H locs hl hP hD hS)
theorem v_wret (C : bsCx p m c cc nL s args Ts own ρ cA dC dI (bsRz ρ cA lo1 od1) meth (some .int)) {v : Int32} {z : Int32 × bsX} (hz : (v, X) = z) (h1 : cells ≤ mc) (h2 : slots ≤ ms) (hd : decode cc pc = .ok (.ireturn, 1)) : bsV p l e R s m args below meth c cells slots (MQ below (bsQi ρ cA dC dI (bsRz ρ cA lo1 od1) z s.heap.size) args s mc ms (bsA ρ cA (bsRz ρ cA lo od) s.heap.size)) ρ cA dC dI (bsRz ρ cA lo1 od1) nL pc lv [.int v] X := by
  intro ls H locs hl hP hD hS
  subst hz
  refine W.widen h1 h2 (W.iret (v := v) C.1.1 C.1.2.1 C.2.2.2.2.2 (fun t ht hW => ⟨⟨v, (), rfl, rfl, bsWp_end (locs := locs) C hP hD hS ht hW⟩, hS.F ht⟩) ?_ hd C.2.2.2.2.1)
  rw [bsA_Rz lo lo1 od od1]
  exact hS.2.2
/-- where an exception of number k goes: the handler's row x, the rows ahead of it name other classes -/
def bsHd (own : String) (pc k : Nat) (tb : List ExceptionTableEntry) (hp : Nat) : Prop := ∃ (pre : List ExceptionTableEntry) (x : ExceptionTableEntry) (suf : List ExceptionTableEntry), tb = pre ++ x :: suf ∧ (∀ z ∈ pre, z.catchType ≠ 0 ∧ ∃ F ∈ ["java/lang/IllegalStateException", "java/lang/IndexOutOfBoundsException", "java/lang/IllegalArgumentException"], bsEn k ≠ F ∧ Cond.classLink own z.catchType F ∈ bsG) ∧ covers x pc = true ∧ x.catchType ≠ 0 ∧ Cond.classLink own x.catchType (bsEn k) ∈ bsG ∧ x.handlerPc = hp ∧ bsEn k ∈ ["java/lang/IllegalStateException", "java/lang/IndexOutOfBoundsException", "java/lang/IllegalArgumentException"]
theorem v_wcalli (C : bsCx p m c cc nL s args Ts own ρ cA dC dI Rz meth ret) {tb : List ExceptionTableEntry} (T9 : c.exceptionTable.toList = tb) {y : MethodName} {b : ByteArray} {nL' index : Nat} {ret' : Option FieldType} {rm' : Room} {As rest : List Value} {g K j ci N : Nat} {fs : List Value} {T : u_T} {r : bsXr} (hM : bsTi l y b nL' ret' rm' ρ cA dC dI Rz (.ref (ρ g K j) :: As) X r)
    (hl0 : Cond.methodLink own index y ∈ bsG) (hw : bsWy y b nL' ret') (hk : (g, K, j) ∈ bsKeys) (hc : bsCell ρ cA g K j (X g K j) = .inr (ci, fs)) (hci : vwCl[ci]? = some (y.cls, T, N)) (hde : (parseMethodDescriptor y.desc).map (fun d => d.parameters.length) = some As.length)
    (hR : rm'.frames + 1 ≤ R.frames ∧ 8 + (nL' + 11) + rm'.locals ≤ R.locals) (hcs : cells + rm'.cells ≤ R.cells ∧ slots + rm'.slots ≤ R.slots) (hst : st = As.reverse ++ .ref (ρ g K j) :: rest) (hW : (rest.map fun v => v.category).sum ≤ 8) (hd : decode cc pc = .ok (.invokevirtual index, 3))
    (kx : 0 < r.1 → ∃ hp, bsHd own pc r.1 tb hp ∧ ∀ q9 : Nat, bsV p l e R s m args below meth c (cells + rm'.cells) (slots + rm'.slots) Q ρ cA dC dI Rz nL hp lv [.ref q9] r.2.2)
    (kk : r.1 = 0 → bsV p l e R s m args below meth c (cells + rm'.cells) (slots + rm'.slots) Q ρ cA dC dI Rz nL (pc + 3) lv (.int r.2.1 :: rest) r.2.2) : bsV p l e R s m args below meth c cells slots Q ρ cA dC dI Rz nL pc lv st X := by
  intro ls H locs hl hP hD hS
  obtain ⟨q0, -, hq⟩ := bsWs_at hk
  have hpre := bs_pre (As := .ref (ρ g K j) :: As) C hP hD hS
  refine vx_calli (vx_runV (As := As) (rest := rest) C.1 (hM H.size) (cwV As.length C.1.2.2.2.2 (bs_goodV C.2.2.1 hl0 hw) rfl rfl rfl ⟨rfl, hw.2.2.2.2.1, hw.2.2.2.2.2, hde⟩ hR) ⟨hpre.1, va_recv C.2.1 hP hci ((hq ρ cA X Rz).trans (by rw [hc])), hpre.2⟩ rfl rfl hl.1 hst (lv_room hW) hd hcs) hS (fun q _ h => bsA_mono hS.1 h) (fun q h => bsA_mono hS.1 h) (fun q _ h => bsA_mono hS.1 h) (fun E ce q9 u t H1 locs1 ht hvm hp hB hz1 hk1 hS1 hc1 hc2 hc3 => ?_) (fun r1 u t H1 locs1 ht hvm hr hB hz1 hk1 hS1 => ?_)
  · obtain ⟨⟨h0, hE⟩, hBw⟩ := hB
    obtain ⟨hp9, ⟨pre, x, suf, e1, e2, e3, e4, e5, e6, e7⟩, k9⟩ := kx h0
    subst hE
    have W9 := fun w (h : w ∈ bsG) => C.1.2.2.2.2 w (C.2.2.1 w h)
    refine vx_catch C.1.2.2.2.1 pre x suf (T9.trans e1) (fun z hz => Or.inr ?_) e3 e4 (W9 _ e5) (va_Nw.use rfl (C.2.2.2.1.2.2.2.2.2.2.1.1 _ e7)) hc1 hc2 hc3 ?_
    · obtain ⟨z1, F, hF, hne, hlk⟩ := e2 z hz
      exact ⟨z1, F, W9 _ hlk, C.2.2.2.1.2.2.2.2.2.2.2 _ e7 F hF hne⟩
    · rw [e6]
      exact bs_back hl ht hBw hS1 (k9 q9)
  · obtain ⟨h0, hr1⟩ := hr
    subst hr1
    exact bs_back hl ht hB hS1 (kk h0)
end BSW
