def R_law : String := "BootSlotsLaw"
def lw_P (b : Addr) (xs : List Int32) (args : Array Value) (s : State) : Prop := args = #[.ref b] ∧ s.IntsAt b xs ∧ xs.length ≤ 3072 ∧ (Jvm.Cond.and given_1 narrow_1).before args s = true
/-- what a walk over the start with the record d0 says of its end, said of the start itself -/
theorem lw_closed {s t : State} {o : Outcome} {d0 : Drawn} {L : List Loc} {k n : Nat} (hd0 : s.drawn.sameBut d0 lw_cs) (hv : ∃ v, o = .returned v) (hW : (s.setDrawn d0).WarmedH t.vm) (hs : (s.setDrawn d0).sameButNew ({ t with vm := s.vm } : State) L k n) : State.butDraws s t lw_cs (fun t1 => Framed s o t1 L k n) := by
  have h2 : t.drawn = d0 := congrArg State.drawn hs.1
  refine ⟨⟨hv, hW, State.sameButNew.setDrawn hs s.drawn⟩, ?_, by decide⟩
  rw [h2]
  exact hd0
def lw_Q (_ : Array Value) (s : State) (o : Outcome) (t : State) : Prop := o = .returned (some (.int 1)) ∧ State.butDraws s t lw_cs (fun t1 => Framed s o t1 [] 601024 7293033)
def lw_Z (below : List Frame) (a : Array Value) (s : State) : State → Prop := fun t => ∃ o, t.status = .running ∧ Ended t below o ∧ lw_Q a s o t
/-- the law's own end, with 1 on the stack, nothing written that was there before, its room as the claim has it; d0: the record of draws at this point (at the entry s.drawn: begin with 'refine W.base ?_' and 'have hd0 := Drawn.sameBut.refl s.drawn lw_cs') -/
theorem lw_ret {p : Program} {l : Launch} {e : Env} {s : State} {m : MethodId} {below : List Frame} {meth : Method} {c : Code} {b : Nat} {d0 : Drawn} (hd0 : s.drawn.sameBut d0 lw_cs) (hx : p.tables.exec = Jvm.exec) (hb : c.code = code) (hr : meth.sig.returnType = ret) (hlocks : meth.locks = false) {pc : Nat} {H : Heap} {ls : Array Slot} (hdg : decode code pc = .ok (.ireturn, 1)) : W p l e room_1 (s.setDrawn d0) m #[Value.ref b] below meth c H [] 601024 7293033 (lw_Z below #[Value.ref b] s) (F0 m pc ls [.int 1]) := by
  intro T hT X
  obtain ⟨fs, hret, hrun, hended, hW, hframe⟩ := X.leave (v := some (.int 1)) (hlocks := hlocks) (fun h => by rw [hr] at h; cases h)
  have hmeth' : T.vm.method? m = some meth := X.method'
  refine ⟨T.setFrames fs, ?_, .returned (some (.int 1)), hrun, hended, rfl, lw_closed hd0 ⟨_, rfl⟩ hW hframe⟩
  jvm_step X.here [X.here.top, hx, hb, hdg, hmeth', hr, ret, narrow_b1]
  (try refine ⟨rfl, ?_⟩); (try refine ⟨rfl, ?_⟩)
  first | (intro acts; rw [hret _ acts rfl rfl rfl]) | rw [hret _ _ rfl rfl rfl]
  exact Steps.refl _
/-- what holds at the law's entry: the machine, the code, the tables' words (any of lw_tbl by 'hts w (by decide +kernel)'), the script of L ints xs at the cell b, what the Statement gives of the start (any of its parts by flat_of_before) -/
def lw_At (p : Program) (s : State) (m : MethodId) (meth : Method) (c : Code) (b L : Nat) (xs : Nat → Int32) : Prop :=
  p.tables.exec = Jvm.exec ∧ c.code = code ∧ meth.sig.returnType = ret ∧ c.maxLocals = 9 ∧ s.vm.findClass R_law = some m.cls ∧ (∀ w ∈ lw_tbl, w.before #[Value.ref b] s = true) ∧ va_X b L xs s s.heap ∧ b < s.heap.size ∧ meth.locks = false ∧ (Jvm.Cond.and given_1 narrow_1).before #[Value.ref b] s = true
section BSL
variable {p : Program} {l : Launch} {e : Env} {R : Room} {s : State} {m : MethodId} {args : Array Value} {below : List Frame} {meth : Method} {c : Code} {cells slots : Nat} {Q : State → Prop} {ρ : bsR} {cA : Nat → ClassId} {dC : Nat → ClassId} {dI : Nat → Nat → Nat} {Rz : va_W} {nL : Nat} {cc : ByteArray} {Ts : List Cond} {own : String} {ret : Option FieldType} {pc : Nat} {lv : List (Nat × Value)} {st : List Value} {X : bsX} {mc ms : Nat} {lo lo1 : Int64} {od od1 : UInt64}
theorem v_wcallS (C : bsCx p m c cc nL s args Ts own ρ cA dC dI (bsRz ρ cA lo od) meth ret) {y : MethodName} {b : ByteArray} {nL' index : Nat} {ret' : Option FieldType} {hh : List (Nat × Nat × Nat × Nat)} {rm' : Room} {As rest : List Value} {z : Int32 × bsX} (hM : bsWi l y b nL' ret' hh rm' ρ cA dC dI As X lo od z lo1 od1)
    (hl0 : Cond.methodLink own index y ∈ bsG) (hw : Cond.static y ∈ bsG ∧ Cond.initialized y.cls ∈ bsG ∧ Cond.codeWith y b nL' ret' hh ∈ bsG ∧ (y.cls ≠ "java/lang/invoke/MethodHandle" ∧ y.cls ≠ "java/lang/invoke/VarHandle")) (hde : (parseMethodDescriptor y.desc).map (fun d => d.parameters.length) = some As.length)
    (hR : rm'.frames + 1 ≤ R.frames ∧ 8 + (nL' + 11) + rm'.locals ≤ R.locals) (hcs : cells + rm'.cells ≤ R.cells ∧ slots + rm'.slots ≤ R.slots) (hst : st = As.reverse ++ rest) (hW : (rest.map fun v => v.category).sum ≤ 8) (hd : decode cc pc = .ok (.invokestatic index, 3))
    (kk : bsV p l e R s m args below meth c (cells + rm'.cells) (slots + rm'.slots) Q ρ cA dC dI (bsRz ρ cA lo1 od1) nL (pc + 3) lv (.int z.1 :: rest) z.2) : bsV p l e R s m args below meth c cells slots Q ρ cA dC dI (bsRz ρ cA lo od) nL pc lv st X := by
  intro ls H locs hl hP hD hS
  have W9 := fun w (h : w ∈ bsG) => C.1.2.2.2.2 w (C.2.2.1 w h)
  have hG : GoodIn Ts (Cond.codeWith y b nL' ret' hh :: bsG) := fun w hw2 => by
    have key : w ∈ bsG := by
      rcases List.mem_cons.mp hw2 with rfl | h
      · exact hw.2.2.1
      · exact h
    exact ⟨C.2.2.1 w key, bsG_good key⟩
  have hcw : vx_CSW R s args own index y b nL' ret' hh (Cond.codeWith y b nL' ret' hh :: bsG) rm' rm'.cells rm'.slots As.length := by
    refine ⟨⟨rfl, rfl, hR.1, hR.2, pay_in C.1.2.2.2.2 hG, List.mem_cons_self⟩, W9 _ hw.2.2.1, W9 _ hw.2.1, hw.2.2.2, fun sig h => ?_, W9 _ hl0, W9 _ hw.1⟩
    rw [h] at hde
    exact (Option.some.inj hde).symm
  refine va_calli (vx_runSW (As := As) (rest := rest) C.1 (hM H.size) hcw (bs_pre C hP hD hS) rfl rfl hl.1 hst (lv_room hW) hd hcs) hS (fun q _ h => by rw [bsA_Rz lo1 lo od1 od] at h; exact bsA_mono hS.1 h) (fun q h => bsA_mono hS.1 h) (fun r u t H1 locs1 ht hvm hr hB hz1 hk1 hS1 => ?_)
  have hr1 : r = z.1 := hr
  subst hr1
  rw [bsA_Rz lo lo1 od od1] at hS1
  exact bs_back hl ht hB hS1 kk
theorem v_sld {b L : Nat} {xs : Nat → Int32} (C : bsCx p m c cc nL s args Ts own ρ cA dC dI Rz meth ret) (hX : va_X b L xs s s.heap) (hbl : b < s.heap.size) (hbA : ¬ bsA ρ cA Rz s.heap.size b) {i k : Nat} {kk0 : Int32} (hkk : kk0 = nI k) (hlt : i + k < L) (hL : L < 2 ^ 31) (hd : decode cc pc = .ok (.iaload, 1)) (kk : bsV p l e R s m args below meth c cells slots Q ρ cA dC dI Rz nL (pc + 1) lv (.int (xs (i + k)) :: st) X) : bsV p l e R s m args below meth c cells slots Q ρ cA dC dI Rz nL pc lv (.int (nI i + kk0) :: .ref b :: st) X := by
  intro ls H locs hl hP hD hS
  rw [hkk, nI_add]
  refine va_sld C.1.1 C.1.2.1 hX hbl hbA hS (vp_in_nI hlt hL) hd ?_
  rw [nI_clamp (by omega)]
  exact kk ls H locs hl hP hD hS
theorem v_sld0 {b L : Nat} {xs : Nat → Int32} (C : bsCx p m c cc nL s args Ts own ρ cA dC dI Rz meth ret) (hX : va_X b L xs s s.heap) (hbl : b < s.heap.size) (hbA : ¬ bsA ρ cA Rz s.heap.size b) {i : Nat} (hlt : i < L) (hL : L < 2 ^ 31) (hd : decode cc pc = .ok (.iaload, 1)) (kk : bsV p l e R s m args below meth c cells slots Q ρ cA dC dI Rz nL (pc + 1) lv (.int (xs i) :: st) X) : bsV p l e R s m args below meth c cells slots Q ρ cA dC dI Rz nL pc lv (.int (nI i) :: .ref b :: st) X := by
  intro ls H locs hl hP hD hS
  refine va_sld C.1.1 C.1.2.1 hX hbl hbA hS (vp_in_nI hlt hL) hd ?_
  rw [nI_clamp (by omega)]
  exact kk ls H locs hl hP hD hS
theorem v_slenL {b L : Nat} {xs : Nat → Int32} (C : bsCx p m c cc nL s args Ts own ρ cA dC dI Rz meth ret) (hX : va_X b L xs s s.heap) (hbl : b < s.heap.size) (hbA : ¬ bsA ρ cA Rz s.heap.size b) (hd : decode cc pc = .ok (.arraylength, 1)) (kk : bsV p l e R s m args below meth c cells slots Q ρ cA dC dI Rz nL (pc + 1) lv (.int (nI L) :: st) X) : bsV p l e R s m args below meth c cells slots Q ρ cA dC dI Rz nL pc lv (.ref b :: st) X := by
  intro ls H locs hl hP hD hS
  exact va_slen C.1.1 C.1.2.1 hX hbl hbA hS hd (kk ls H locs hl hP hD hS)
theorem bsLc_self (x : Int64) : bsLc x x = 0 := by simp [bsLc, lg_cmp]
end BSL
/-- what the law's walk stands on -/
def lawC (p : Program) (l : Launch) (s : State) (m : MethodId) (meth : Method) (c : Code) (ρ : bsR) (cA : Nat → ClassId) (dC : Nat → ClassId) (dI : Nat → Nat → Nat) (b L : Nat) (xs : Nat → Int32) : Prop :=
  (∀ (lo : Int64) (od : UInt64), bsCx p m c cL_law 9 s #[Value.ref b] lw_tbl RL ρ cA dC dI (bsRz ρ cA lo od) meth ret) ∧ va_X b L xs s s.heap ∧ b < s.heap.size ∧ (∀ (lo : Int64) (od : UInt64), ¬ bsA ρ cA (bsRz ρ cA lo od) s.heap.size b) ∧ L ≤ 3072 ∧ l.stackTraces = false ∧ (∀ (lo : Int64) (od : UInt64) (q : Nat), bsA ρ cA (bsRz ρ cA lo od) s.heap.size q → s.heap.size ≤ q)
/-- the law's judgement -/
def lawV (p : Program) (l : Launch) (e : Env) (s : State) (m : MethodId) (below : List Frame) (meth : Method) (c : Code) (ρ : bsR) (cA : Nat → ClassId) (dC : Nat → ClassId) (dI : Nat → Nat → Nat) (b : Nat) (cells slots pc : Nat) (lv : List (Nat × Value)) (st : List Value) (X : bsX) (lo : Int64) (od : UInt64) : Prop := bsV p l e room_1 s m #[Value.ref b] below meth c cells slots (lw_Z below #[Value.ref b] s) ρ cA dC dI (bsRz ρ cA lo od) 9 pc lv st X
