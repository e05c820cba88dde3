/-! The rows and contracts for a world without the objects of the class (made by wip/p64/y/dup.py out of the parts 050..359) -/
def bsKeysY : List (Nat × Nat × Nat) := []
def bsWsY (ρ : bsR) (cA : Nat → ClassId) (X : bsX) (Rz : va_W) : va_W := bsKeysY.map (fun t => (ρ t.1 t.2.1 t.2.2, bsCell ρ cA t.1 t.2.1 t.2.2 (X t.1 t.2.1 t.2.2))) ++ Rz
def bsAY (ρ : bsR) (cA : Nat → ClassId) (Rz : va_W) (sz : Nat) : Nat → Prop := va_A (bsWsY ρ cA (fun _ _ _ _ => 0) Rz) sz
/-- what a method's world is -/
def bsWpY (ρ : bsR) (cA : Nat → ClassId) (dC : Nat → ClassId) (dI : Nat → Nat → Nat) (Rz : va_W) (X : bsX) (U : State) : Prop := va_P (dC, dI) vwCl (bsWsY ρ cA X Rz) U.heap ∧ va_K (dC, dI) vwCl (bsTys cA) U ∧ va_D (fun _ => True) (bsWsY ρ cA X Rz) ∧ bsNw U ∧ bsEx ρ (bsAY ρ cA Rz U.heap.size) U U.heap
theorem bsWs_adY (ρ : bsR) (cA : Nat → ClassId) (X Y : bsX) (Rz : va_W) : (bsWsY ρ cA X Rz).map Prod.fst = (bsWsY ρ cA Y Rz).map Prod.fst := by simp [bsWsY]
theorem bsA_ofY {ρ : bsR} {cA : Nat → ClassId} {Rz : va_W} {sz : Nat} (X : bsX) {k : Nat} {q : Nat × va_E} (h : (bsWsY ρ cA X Rz)[k]? = some q) : bsAY ρ cA Rz sz q.1 := by
  obtain ⟨e, h1⟩ := bs_ad_at (bsWs_adY ρ cA X (fun _ _ _ _ => 0) Rz) h
  exact Or.inl ⟨k, e, h1⟩
theorem bsA_leY {ρ : bsR} {cA : Nat → ClassId} {Rz : va_W} {sz q : Nat} (h : sz ≤ q) : bsAY ρ cA Rz sz q := Or.inr h
theorem bsD_selfY {ρ : bsR} {cA : Nat → ClassId} {Rz : va_W} {X : bsX} {A : Nat → Prop} (sz : Nat) (hD : va_D A (bsWsY ρ cA X Rz)) : va_D (bsAY ρ cA Rz sz) (bsWsY ρ cA X Rz) := ⟨hD.1, fun _ _ hk => bsA_ofY X hk⟩
/-- what a method's walk stands on -/
def bsCxY (p : Program) (m : MethodId) (c : Code) (cc : ByteArray) (nL : Nat) (s : State) (args : Array Value) (Ts : List Cond) (own : String) (ρ : bsR) (cA : Nat → ClassId) (dC : Nat → ClassId) (dI : Nat → Nat → Nat) (Rz : va_W) (meth : Method) (ret : Option FieldType) : Prop := CallFix p m c cc nL s args Ts own ∧ va_K (dC, dI) vwCl (bsTys cA) s ∧ (∀ w ∈ bsG, w ∈ Ts) ∧ (bsNw s ∧ bsEx ρ (bsAY ρ cA Rz s.heap.size) s s.heap) ∧ meth.locks = false ∧ meth.sig.returnType = ret
/-- the walk's judgement: from pc, with the locals lv, the stack st and the contents X, it comes to Q -/
def bsVY (p : Program) (l : Launch) (e : Env) (R : Room) (s : State) (m : MethodId) (args : Array Value) (below : List Frame) (meth : Method) (c : Code) (cells slots : Nat) (Q : State → Prop) (ρ : bsR) (cA : Nat → ClassId) (dC : Nat → ClassId) (dI : Nat → Nat → Nat) (Rz : va_W) (nL : Nat) (pc : Nat) (lv : List (Nat × Value)) (st : List Value) (X : bsX) : Prop :=
  ∀ (ls : Array Slot) (H : Heap) (locs : List Loc), lv_has ls nL lv → va_P (dC, dI) vwCl (bsWsY ρ cA X Rz) H → va_D (bsAY ρ cA Rz s.heap.size) (bsWsY ρ cA X Rz) → va_S (bsAY ρ cA Rz s.heap.size) s.heap H locs → W p l e R s m args below meth c H locs cells slots Q (F0 m pc ls st)
section BSV
variable {p : Program} {l : Launch} {e : Env} {R : Room} {s : State} {m : MethodId} {args : Array Value} {below : List Frame} {meth : Method} {c : Code} {cells slots : Nat} {Q : State → Prop} {ρ : bsR} {cA : Nat → ClassId} {dC : Nat → ClassId} {dI : Nat → Nat → Nat} {Rz : va_W} {nL : Nat} {cc : ByteArray} {Ts : List Cond} {own : String} {ret : Option FieldType} {pc : Nat} {lv : List (Nat × Value)} {st : List Value} {X : bsX}
theorem v_aload_nY (C : bsCxY p m c cc nL s args Ts own ρ cA dC dI Rz meth ret) {k : Fin 4} {i : Nat} {x : Nat} (hd : decode cc pc = .ok (.aload_n k, 1)) (hi : (k : Nat) = i) (hx : lv.lookup i = some (.ref x)) (k : bsVY p l e R s m args below meth c cells slots Q ρ cA dC dI Rz nL (pc + 1) lv (.ref x :: st) X) : bsVY p l e R s m args below meth c cells slots Q ρ cA dC dI Rz nL pc lv st X := fun ls H locs hl hP hD hS => lv_aload_n C.1.1 C.1.2.1 hd hi (bs_lv hl hx) (k ls H locs hl hP hD hS)
theorem v_ishrY (C : bsCxY p m c cc nL s args Ts own ρ cA dC dI Rz meth ret) {x y : Int32} (hd : decode cc pc = .ok (.ishr, 1)) (k : bsVY p l e R s m args below meth c cells slots Q ρ cA dC dI Rz nL (pc + 1) lv (.int (x >>> (y &&& 31)) :: st) X) : bsVY p l e R s m args below meth c cells slots Q ρ cA dC dI Rz nL pc lv (.int y :: .int x :: st) X := fun ls H locs hl hP hD hS => lv_ishr C.1.1 C.1.2.1 hd (k ls H locs hl hP hD hS)
theorem v_if_eqY (C : bsCxY p m c cc nL s args Ts own ρ cA dC dI Rz meth ret) {x : Int32} {off : Int} {tgt : Nat} (hd : decode cc pc = .ok (.ifCond .eq off, 3)) (ht : (pc : Int) + off = (tgt : Int)) (kt : x = 0 → bsVY p l e R s m args below meth c cells slots Q ρ cA dC dI Rz nL tgt lv st X) (kf : ¬ (x = 0) → bsVY p l e R s m args below meth c cells slots Q ρ cA dC dI Rz nL (pc + 3) lv st X) : bsVY p l e R s m args below meth c cells slots Q ρ cA dC dI Rz nL pc lv (.int x :: st) X := fun ls H locs hl hP hD hS => lv_if_eq C.1.1 C.1.2.1 hd ht (fun h => kt h ls H locs hl hP hD hS) (fun h => kf h ls H locs hl hP hD hS)
theorem v_gotoY (C : bsCxY p m c cc nL s args Ts own ρ cA dC dI Rz meth ret) {off : Int} {tgt : Nat} (hd : decode cc pc = .ok (.goto off, 3)) (ht : (pc : Int) + off = (tgt : Int)) (k : bsVY p l e R s m args below meth c cells slots Q ρ cA dC dI Rz nL tgt lv st X) : bsVY p l e R s m args below meth c cells slots Q ρ cA dC dI Rz nL pc lv st X := fun ls H locs hl hP hD hS => lv_goto C.1.1 C.1.2.1 hd ht (k ls H locs hl hP hD hS)
theorem v_subY {lv' : List (Nat × Value)} (ks : List Nat) (h : lv_pick lv ks = lv') (k : bsVY p l e R s m args below meth c cells slots Q ρ cA dC dI Rz nL pc lv' st X) : bsVY p l e R s m args below meth c cells slots Q ρ cA dC dI Rz nL pc lv st X := fun ls H locs hl hP hD hS => k ls H locs (lv_sub hl ks h) hP hD hS
end BSV
def bsQiY (ρ : bsR) (cA : Nat → ClassId) (dC : Nat → ClassId) (dI : Nat → Nat → Nat) (Rz : va_W) (z : Int32 × bsX) (sz : Nat) : Array Value → State → Outcome → State → Prop := va_Qi (fun (r : Int32) (_ : Unit) => r = z.1) (fun _ t => bsWpY ρ cA dC dI Rz z.2 t) (bsAY ρ cA Rz sz)
/-- a method that answers an int (or a boolean): from X it answers z.1 and leaves z.2 -/
def bsMiY (l : Launch) (y : MethodName) (b : ByteArray) (nL : Nat) (ret : Option FieldType) (rm : Room) (ρ : bsR) (cA : Nat → ClassId) (dC : Nat → ClassId) (dI : Nat → Nat → Nat) (Rz : va_W) (As : List Value) (X : bsX) (z : Int32 × bsX) : Prop :=
  ∀ sz : Nat, Met l y (Cond.code y b nL ret :: bsG) rm (va_Pc As (fun U => U.heap.size = sz ∧ bsWpY ρ cA dC dI Rz X U)) (bsQiY ρ cA dC dI Rz z sz) 0 0 (bsAY ρ cA Rz sz)
section BSM
variable {l : Launch} {y : MethodName} {b : ByteArray} {nL : Nat} {ret : Option FieldType} {rm : Room} {ρ : bsR} {cA : Nat → ClassId} {dC : Nat → ClassId} {dI : Nat → Nat → Nat} {Rz : va_W} {As : List Value} {X : bsX}
theorem bsMi_ofY {z : Int32 × bsX} (hy : plainName y.cls = true) (hlen : (lg_sl As).length ≤ nL)
    (body : ∀ (p : Program) (e : Env) (s : State) (m : MethodId) (args : Array Value) (below : List Frame) (meth : Method) (c : Code), bsCxY p m c b nL s args (Cond.code y b nL ret :: bsG) y.cls ρ cA dC dI Rz meth ret →
      bsVY p l e rm s m args below meth c 0 0 (MQ below (bsQiY ρ cA dC dI Rz z s.heap.size) args s 0 0 (bsAY ρ cA Rz s.heap.size)) ρ cA dC dI Rz nL 0 (lv_args 0 As) [] X) : bsMiY l y b nL ret rm ρ cA dC dI Rz As X z := by
  intro sz
  refine Met.ofW (cc := b) (maxL := nL) (ret := ret) hy rfl ?_
  intro p e s m args below meth c s₁ B hml hv
  obtain ⟨rfl, hsz, hP, hK, hD0, hN, hE⟩ := hv
  subst hsz
  have hts := atoms_spec (ws := Cond.code y b nL ret :: bsG) B.pre
  have hown : s.vm.findClass y.cls = some m.cls := findClass_of_methodNamed B.named
  have hl := lv_entry As hlen
  rw [lg_entry_eq]
  exact body p e s m _ below meth c ⟨⟨B.exec, B.bytes, hml, hown, hts⟩, hK, fun w h => List.mem_cons_of_mem _ h, ⟨hN, hE⟩, B.notSynchronized, B.returns⟩ _ _ _ hl hP (bsD_selfY _ hD0) va_S.rf
end BSM
section BSE
variable {p : Program} {l : Launch} {e : Env} {R : Room} {s : State} {m : MethodId} {args : Array Value} {below : List Frame} {meth : Method} {c : Code} {cells slots : Nat} {Q : State → Prop} {ρ : bsR} {cA : Nat → ClassId} {dC : Nat → ClassId} {dI : Nat → Nat → Nat} {Rz : va_W} {nL : Nat} {cc : ByteArray} {Ts : List Cond} {own : String} {ret : Option FieldType} {pc : Nat} {lv : List (Nat × Value)} {st : List Value} {X : bsX}
theorem bsA_monoY {sz sz' q : Nat} (h : sz ≤ sz') (hq : bsAY ρ cA Rz sz' q) : bsAY ρ cA Rz sz q := hq.elim Or.inl (fun h2 => Or.inr (Nat.le_trans h h2))
theorem bsWp_endY {H : Heap} {locs : List Loc} {t : State} (C : bsCxY p m c cc nL s args Ts own ρ cA dC dI Rz meth ret) (hP : va_P (dC, dI) vwCl (bsWsY ρ cA X Rz) H) (hD : va_D (bsAY ρ cA Rz s.heap.size) (bsWsY ρ cA X Rz)) (hS : va_S (bsAY ρ cA Rz s.heap.size) s.heap H locs) (ht : t.heap = H) (hW : s.WarmedH t.vm) : bsWpY ρ cA dC dI Rz X t :=
  ⟨by rw [ht]; exact hP, va_K.moved hW.alike C.2.1, hD.weaken (fun _ _ _ _ => trivial), bsNw.warm hW C.2.2.2.1.1, bsEx.go C.2.2.2.1.2 hW (by rw [ht]; exact hS.2.1) (fun q h => bsA_monoY (by rw [ht]; exact hS.1) h)⟩
theorem v_iretY (C : bsCxY p m c cc nL s args Ts own ρ cA dC dI Rz meth (some .int)) {v : Int32} {z : Int32 × bsX} (hz : some (v, X) = some z) (hd : decode cc pc = .ok (.ireturn, 1)) : bsVY p l e R s m args below meth c 0 0 (MQ below (bsQiY ρ cA dC dI Rz z s.heap.size) args s 0 0 (bsAY ρ cA Rz s.heap.size)) ρ cA dC dI Rz nL pc lv [.int v] X := by
  intro ls H locs hl hP hD hS
  cases hz
  exact W.iret (v := v) C.1.1 C.1.2.1 C.2.2.2.2.2 (fun t ht hW => ⟨⟨v, (), rfl, rfl, bsWp_endY (locs := locs) C hP hD hS ht hW⟩, hS.F ht⟩) hS.2.2 hd C.2.2.2.2.1
theorem v_xretY {ty : FieldType} (C : bsCxY p m c cc nL s args Ts own ρ cA dC dI Rz meth (some ty)) {v : Int32} {z : Int32 × bsX} (hb : narrow ty (.int v) = .int v) (hz : some (v, X) = some z) (hd : decode cc pc = .ok (.ireturn, 1)) : bsVY p l e R s m args below meth c 0 0 (MQ below (bsQiY ρ cA dC dI Rz z s.heap.size) args s 0 0 (bsAY ρ cA Rz s.heap.size)) ρ cA dC dI Rz nL pc lv [.int v] X := by
  intro ls H locs hl hP hD hS
  cases hz
  exact W.zret (v := v) C.1.1 C.1.2.1 C.2.2.2.2.2 hb (fun t ht hW => ⟨⟨v, (), rfl, rfl, bsWp_endY (locs := locs) C hP hD hS ht hW⟩, hS.F ht⟩) hS.2.2 hd C.2.2.2.2.1
theorem bs_blindY {av : List Value} {sz : Nat} : FrameBlind (va_Pc av (fun U => U.heap.size = sz ∧ bsWpY ρ cA dC dI Rz X U)) := fun a U g mk q => by
  obtain ⟨q0, q1, qP, qK, qD, qN, qE⟩ := q
  exact ⟨q0, q1, qP, va_K.moved (u := U) (U := U.calling g mk a) (Vm.Alike.refl U.vm) qK, qD, fun t ht => va_Nw.same rfl rfl (qN t ht), bsEx.go (U := U.calling g mk a) qE (State.WarmedH.refl U) (fun _ _ _ => rfl) (fun _ h => h)⟩
theorem bs_preY {As : List Value} {H : Heap} {locs : List Loc} (C : bsCxY p m c cc nL s args Ts own ρ cA dC dI Rz meth ret) (hP : va_P (dC, dI) vwCl (bsWsY ρ cA X Rz) H) (hD : va_D (bsAY ρ cA Rz s.heap.size) (bsWsY ρ cA X Rz)) (hS : va_S (bsAY ρ cA Rz s.heap.size) s.heap H locs) : PreS s H (va_Pc As (fun U => U.heap.size = H.size ∧ bsWpY ρ cA dC dI Rz X U)) As :=
  ⟨bs_blindY, fun U hU hW => ⟨rfl, by rw [hU], by rw [hU]; exact hP, va_K.moved hW.alike C.2.1, hD.weaken (fun _ _ _ _ => trivial), bsNw.warm hW C.2.2.2.1.1, bsEx.go C.2.2.2.1.2 hW (by rw [hU]; exact hS.2.1) (fun q h => bsA_monoY (by rw [hU]; exact hS.1) h)⟩⟩
theorem bs_backY {X' : bsX} {H1 : Heap} {locs : List Loc} {t : State} {Q2 : State → Prop} {pc2 : Nat} {st2 : List Value} {ls : Array Slot} (hl : lv_has ls nL lv) (ht : t.heap = H1) (hB : bsWpY ρ cA dC dI Rz X' t) (hS : va_S (bsAY ρ cA Rz s.heap.size) s.heap H1 locs) (kk : bsVY p l e R s m args below meth c cells slots Q2 ρ cA dC dI Rz nL pc2 lv st2 X') : W p l e R s m args below meth c H1 locs cells slots Q2 (F0 m pc2 ls st2) := by
  obtain ⟨hP1, -, hD1, -⟩ := hB
  rw [ht] at hP1
  exact kk ls H1 locs hl hP1 (bsD_selfY _ hD1) hS
end BSE
section BST
variable {p : Program} {l : Launch} {e : Env} {R : Room} {s : State} {m : MethodId} {args : Array Value} {below : List Frame} {meth : Method} {c : Code} {cells slots : Nat} {Q : State → Prop} {ρ : bsR} {cA : Nat → ClassId} {dC : Nat → ClassId} {dI : Nat → Nat → Nat} {Rz : va_W} {nL : Nat} {cc : ByteArray} {Ts : List Cond} {own : String} {ret : Option FieldType} {pc : Nat} {lv : List (Nat × Value)} {st : List Value} {X : bsX}
theorem v_sgetVY (C : bsCxY p m c cc nL s args Ts RJ0 ρ cA dC dI Rz meth ret) {t : Nat} (ht : t < 22) (hd : decode cc pc = .ok (.getfield 9, 3)) (k : bsVY p l e R s m args below meth c cells slots Q ρ cA dC dI Rz nL (pc + 3) lv (.ref (ρ 16 1 t) :: st) X) : bsVY p l e R s m args below meth c cells slots Q ρ cA dC dI Rz nL pc lv (.ref (ρ 16 0 t) :: st) X := fun ls H locs hl hP hD hS => vk_getf C.1.1 C.1.2.1 (C.2.2.2.1.2.1.1 t ht).2.2.1 hS C.1.2.2.2.1 (C.1.2.2.2.2 _ (C.2.2.1 _ fl_J0_9)) (fun _ h => h) hd (k ls H locs hl hP hD hS)
theorem v_sgetCY (C : bsCxY p m c cc nL s args Ts RJ0 ρ cA dC dI Rz meth ret) {t : Nat} (ht : t < 22) (hd : decode cc pc = .ok (.getfield 15, 3)) (k : bsVY p l e R s m args below meth c cells slots Q ρ cA dC dI Rz nL (pc + 3) lv (.int 0 :: st) X) : bsVY p l e R s m args below meth c cells slots Q ρ cA dC dI Rz nL pc lv (.ref (ρ 16 0 t) :: st) X := fun ls H locs hl hP hD hS => vk_getf C.1.1 C.1.2.1 (C.2.2.2.1.2.1.1 t ht).2.1 hS C.1.2.2.2.1 (C.1.2.2.2.2 _ (C.2.2.1 _ fl_J0_15)) (fun _ h => h) hd (k ls H locs hl hP hD hS)
theorem v_gsCSY (C : bsCxY p m c cc nL s args Ts RJ0 ρ cA dC dI Rz meth ret) (hd : decode cc pc = .ok (.getstatic 38, 3)) (k : bsVY p l e R s m args below meth c cells slots Q ρ cA dC dI Rz nL (pc + 3) lv (.int 1 :: st) X) : bsVY p l e R s m args below meth c cells slots Q ρ cA dC dI Rz nL pc lv st X := fun ls H locs hl hP hD hS => va_gets C.1.1 C.1.2.1 C.2.2.2.1.2.2.2.1 hS C.1.2.2.2.1 (C.1.2.2.2.2 _ (C.2.2.1 _ fl_J0_38)) (fun _ h => h) hd (k ls H locs hl hP hD hS)
theorem v_slenY (C : bsCxY p m c cc nL s args Ts own ρ cA dC dI Rz meth ret) {t : Nat} (ht : t < 22) (hd : decode cc pc = .ok (.arraylength, 1)) (k : bsVY p l e R s m args below meth c cells slots Q ρ cA dC dI Rz nL (pc + 1) lv (.int (bsLen t) :: st) X) : bsVY p l e R s m args below meth c cells slots Q ρ cA dC dI Rz nL pc lv (.ref (ρ 16 1 t) :: st) X := fun ls H locs hl hP hD hS => va_tlen C.1.1 C.1.2.1 (C.2.2.2.1.2.1.1 t ht).2.2.2 hS rfl hd (k ls H locs hl hP hD hS)
theorem v_callTiY (C : bsCxY p m c cc nL s args Ts own ρ cA dC dI Rz meth ret) {y : MethodName} {b : ByteArray} {nL' index t : Nat} {ret' : Option FieldType} {rm' : Room} {As rest : List Value} {z : Int32 × bsX} (ht : t < 22) (hcls : y.cls = RJ0) (hM : bsMiY l y b nL' ret' rm' ρ cA dC dI Rz (.ref (ρ 16 0 t) :: As) X z)
    (hl0 : Cond.methodLink own index y ∈ bsG) (hw : bsWy y b nL' ret') (hde : (parseMethodDescriptor y.desc).map (fun d => d.parameters.length) = some As.length)
    (hR : rm'.frames + 1 ≤ R.frames ∧ 8 + (nL' + 11) + rm'.locals ≤ R.locals) (hz0 : rm'.cells = 0 ∧ rm'.slots = 0) (hcs : cells ≤ R.cells ∧ slots ≤ R.slots) (hst : st = As.reverse ++ .ref (ρ 16 0 t) :: rest) (hW : (rest.map fun v => v.category).sum ≤ 8) (hd : decode cc pc = .ok (.invokevirtual index, 3))
    (kk : bsVY p l e R s m args below meth c cells slots Q ρ cA dC dI Rz nL (pc + 3) lv (.int z.1 :: rest) z.2) : bsVY p l e R s m args below meth c cells slots Q ρ cA dC dI Rz nL pc lv st X := by
  intro ls H locs hl hP hD hS
  have hpre := bs_preY (As := .ref (ρ 16 0 t) :: As) C hP hD hS
  have hrv := vk_recv C.2.2.2.1.2.1 ht hS
  rw [show "java/lang/String" = y.cls from hcls.symm] at hrv
  refine va_calli (va_runV (As := As) (rest := rest) C.1 (hM H.size) (cwV As.length C.1.2.2.2.2 (bs_goodV C.2.2.1 hl0 hw) rfl hz0.1 hz0.2 ⟨rfl, hw.2.2.2.2.1, hw.2.2.2.2.2, hde⟩ hR) ⟨hpre.1, hrv, hpre.2⟩ rfl rfl hl.1 hst (lv_room hW) hd ⟨hcs.1, hcs.2⟩) hS (fun q _ h => bsA_monoY hS.1 h) (fun q h => bsA_monoY hS.1 h) (fun r u t H1 locs1 ht hvm hr hB hz1 hk1 hS1 => ?_)
  have hr1 : r = z.1 := hr
  subst hr1
  exact bs_backY hl ht hB hS1 kk
end BST
set_option maxHeartbeats 4000000 in
set_option maxRecDepth 100000 in
theorem cJ0_coder_7d493_okY {l : Launch} {ρ : bsR} {cA : Nat → ClassId} {dC : Nat → ClassId} {dI : Nat → Nat → Nat} {Rz : va_W} {X : bsX} {t : Nat} (ht : t < 22) : bsMiY l yJ0_coder_7d493 cJ0_coder_7d493 1 (some .byte) rmJ0_coder_7d493 ρ cA dC dI Rz [.ref (ρ 16 0 t)] X (0, X) := by
  refine bsMi_ofY (by decide +kernel) (Nat.le_of_ble_eq_true rfl) (fun p e s m args below meth c C => ?_)
  have C : bsCxY p m c cJ0_coder_7d493 1 s args (Cond.code yJ0_coder_7d493 cJ0_coder_7d493 1 (some .byte) :: bsG) RJ0 ρ cA dC dI Rz meth (some .byte) := C
  refine v_subY [0] rfl ?_
  refine v_gsCSY C dJ0_coder_7d493_0 ?_
  refine v_if_eqY (tgt := 13) C dJ0_coder_7d493_3 (by decide) (fun h => absurd h (by decide)) (fun _ => ?_)
  refine v_aload_nY C dJ0_coder_7d493_6 rfl rfl ?_
  refine v_sgetCY C ht dJ0_coder_7d493_7 ?_
  refine v_gotoY (tgt := 14) C dJ0_coder_7d493_10 (by decide) ?_
  exact v_xretY C rfl rfl dJ0_coder_7d493_14
set_option maxHeartbeats 4000000 in
set_option maxRecDepth 100000 in
theorem cJ0_length_8abf5_okY {l : Launch} {ρ : bsR} {cA : Nat → ClassId} {dC : Nat → ClassId} {dI : Nat → Nat → Nat} {Rz : va_W} {X : bsX} {t : Nat} (ht : t < 22) : bsMiY l yJ0_length_8abf5 cJ0_length_8abf5 1 (some .int) rmJ0_length_8abf5 ρ cA dC dI Rz [.ref (ρ 16 0 t)] X (bsLen t, X) := by
  refine bsMi_ofY (by decide +kernel) (Nat.le_of_ble_eq_true rfl) (fun p e s m args below meth c C => ?_)
  have C : bsCxY p m c cJ0_length_8abf5 1 s args (Cond.code yJ0_length_8abf5 cJ0_length_8abf5 1 (some .int) :: bsG) RJ0 ρ cA dC dI Rz meth (some .int) := C
  refine v_subY [0] rfl ?_
  refine v_aload_nY C dJ0_length_8abf5_0 rfl rfl ?_
  refine v_sgetVY C ht dJ0_length_8abf5_1 ?_
  refine v_slenY C ht dJ0_length_8abf5_4 ?_
  refine v_aload_nY C dJ0_length_8abf5_5 rfl rfl ?_
  refine v_callTiY (y := yJ0_coder_7d493) (As := []) (rest := [.int (bsLen t)]) C ht rfl (cJ0_coder_7d493_okY ht) ml_J0_335 wyJ0_coder_7d493 dpJ0_coder_7d493 ⟨Nat.le_of_ble_eq_true rfl, Nat.le_of_ble_eq_true rfl⟩ ⟨rfl, rfl⟩ ⟨Nat.zero_le _, Nat.zero_le _⟩ rfl (Nat.le_of_ble_eq_true rfl) dJ0_length_8abf5_6 ?_
  refine v_ishrY C dJ0_length_8abf5_9 ?_
  refine v_iretY C ?_ dJ0_length_8abf5_10
  have h : ∀ t, t < 22 → bsLen t >>> ((0 : Int32) &&& 31) = bsLen t := by decide +kernel
  show some (bsLen t >>> ((0 : Int32) &&& 31), X) = some (bsLen t, X)
  rw [h t ht]
/-- the law's world -/
def xWpY (ρ : bsR) (sc L : Nat) (xs : Nat → Int32) (cA : Nat → ClassId) (dC : Nat → ClassId) (dI : Nat → Nat → Nat) (Rz : va_W) (X : bsX) (U : State) : Prop := bsWpY ρ cA dC dI Rz X U ∧ xEx ρ sc L xs cA (bsAY ρ cA Rz U.heap.size) U U.heap
def xVY (p : Program) (l : Launch) (e : Env) (R : Room) (s : State) (m : MethodId) (args : Array Value) (below : List Frame) (meth : Method) (c : Code) (cells slots : Nat) (Q : State → Prop) (ρ : bsR) (cA : Nat → ClassId) (dC : Nat → ClassId) (dI : Nat → Nat → Nat) (A : Nat → Prop) (Rz : va_W) (nL : Nat) (pc : Nat) (lv : List (Nat × Value)) (st : List Value) (X : bsX) : Prop :=
  ∀ (ls : Array Slot) (H : Heap) (locs : List Loc), lv_has ls nL lv → va_P (dC, dI) vwCl (bsWsY ρ cA X Rz) H → va_D A (bsWsY ρ cA X Rz) → va_S A s.heap H locs → W p l e R s m args below meth c H locs cells slots Q (F0 m pc ls st)
section XV
variable {p : Program} {l : Launch} {e : Env} {R : Room} {s : State} {m : MethodId} {args : Array Value} {below : List Frame} {meth : Method} {c : Code} {cells slots : Nat} {Q : State → Prop} {ρ : bsR} {sc L : Nat} {xs : Nat → Int32} {cA : Nat → ClassId} {dC : Nat → ClassId} {dI : Nat → Nat → Nat} {A : Nat → Prop} {Rz Rz' : va_W} {nL : Nat} {cc : ByteArray} {Ts : List Cond} {own : String} {ret : Option FieldType} {pc : Nat} {lv : List (Nat × Value)} {st : List Value} {X : bsX}
theorem x_iconstY (C : xCx p m c cc nL s args Ts own ρ sc L xs cA dC dI A meth ret) {n : Int} {v : Int32} (hd : decode cc pc = .ok (.iconst n, 1)) (hv : Int32.ofInt n = v) (k : xVY p l e R s m args below meth c cells slots Q ρ cA dC dI A Rz nL (pc + 1) lv (.int v :: st) X) : xVY p l e R s m args below meth c cells slots Q ρ cA dC dI A Rz nL pc lv st X := fun ls H locs hl hP hD hS => lv_iconst C.1.1 C.1.2.1 hd hv (k ls H locs hl hP hD hS)
theorem x_bipushY (C : xCx p m c cc nL s args Ts own ρ sc L xs cA dC dI A meth ret) {n : Int} {v : Int32} (hd : decode cc pc = .ok (.bipush n, 2)) (hv : (Int8.ofInt n).toInt32 = v) (k : xVY p l e R s m args below meth c cells slots Q ρ cA dC dI A Rz nL (pc + 2) lv (.int v :: st) X) : xVY p l e R s m args below meth c cells slots Q ρ cA dC dI A Rz nL pc lv st X := fun ls H locs hl hP hD hS => lv_bipush C.1.1 C.1.2.1 hd hv (k ls H locs hl hP hD hS)
theorem x_sipushY (C : xCx p m c cc nL s args Ts own ρ sc L xs cA dC dI A meth ret) {n : Int} {v : Int32} (hd : decode cc pc = .ok (.sipush n, 3)) (hv : (Int16.ofInt n).toInt32 = v) (k : xVY p l e R s m args below meth c cells slots Q ρ cA dC dI A Rz nL (pc + 3) lv (.int v :: st) X) : xVY p l e R s m args below meth c cells slots Q ρ cA dC dI A Rz nL pc lv st X := fun ls H locs hl hP hD hS => lv_sipush C.1.1 C.1.2.1 hd hv (k ls H locs hl hP hD hS)
theorem x_iload_nY (C : xCx p m c cc nL s args Ts own ρ sc L xs cA dC dI A meth ret) {k : Fin 4} {i : Nat} {x : Int32} (hd : decode cc pc = .ok (.iload_n k, 1)) (hi : (k : Nat) = i) (hx : lv.lookup i = some (.int x)) (k : xVY p l e R s m args below meth c cells slots Q ρ cA dC dI A Rz nL (pc + 1) lv (.int x :: st) X) : xVY p l e R s m args below meth c cells slots Q ρ cA dC dI A Rz nL pc lv st X := fun ls H locs hl hP hD hS => lv_iload_n C.1.1 C.1.2.1 hd hi (bs_lv hl hx) (k ls H locs hl hP hD hS)
theorem x_iloadY (C : xCx p m c cc nL s args Ts own ρ sc L xs cA dC dI A meth ret) {i : Nat} {x : Int32} (hd : decode cc pc = .ok (.iload i, 2)) (hx : lv.lookup i = some (.int x)) (k : xVY p l e R s m args below meth c cells slots Q ρ cA dC dI A Rz nL (pc + 2) lv (.int x :: st) X) : xVY p l e R s m args below meth c cells slots Q ρ cA dC dI A Rz nL pc lv st X := fun ls H locs hl hP hD hS => lv_iload C.1.1 C.1.2.1 hd (bs_lv hl hx) (k ls H locs hl hP hD hS)
theorem x_aload_nY (C : xCx p m c cc nL s args Ts own ρ sc L xs cA dC dI A meth ret) {k : Fin 4} {i : Nat} {x : Nat} (hd : decode cc pc = .ok (.aload_n k, 1)) (hi : (k : Nat) = i) (hx : lv.lookup i = some (.ref x)) (k : xVY p l e R s m args below meth c cells slots Q ρ cA dC dI A Rz nL (pc + 1) lv (.ref x :: st) X) : xVY p l e R s m args below meth c cells slots Q ρ cA dC dI A Rz nL pc lv st X := fun ls H locs hl hP hD hS => lv_aload_n C.1.1 C.1.2.1 hd hi (bs_lv hl hx) (k ls H locs hl hP hD hS)
theorem x_istore_nY (C : xCx p m c cc nL s args Ts own ρ sc L xs cA dC dI A meth ret) {k : Fin 4} {i : Nat} {x : Int32} {lv' : List (Nat × Value)} (hd : decode cc pc = .ok (.istore_n k, 1)) (hi : (k : Nat) = i) (hn : i < nL) (hx : (i, Value.int x) :: lv.filter (fun q => !(q.1 == i) && !(q.1 + 1 == i && q.2.category == 2)) = lv') (k : xVY p l e R s m args below meth c cells slots Q ρ cA dC dI A Rz nL (pc + 1) lv' st X) : xVY p l e R s m args below meth c cells slots Q ρ cA dC dI A Rz nL pc lv (Value.int x :: st) X := fun ls H locs hl hP hD hS => lv_istore_n C.1.1 C.1.2.1 hd hi hl hn hx (fun ls hl => k ls H locs hl hP hD hS)
theorem x_istoreY (C : xCx p m c cc nL s args Ts own ρ sc L xs cA dC dI A meth ret) {i : Nat} {x : Int32} {lv' : List (Nat × Value)} (hd : decode cc pc = .ok (.istore i, 2)) (hn : i < nL) (hx : (i, Value.int x) :: lv.filter (fun q => !(q.1 == i) && !(q.1 + 1 == i && q.2.category == 2)) = lv') (k : xVY p l e R s m args below meth c cells slots Q ρ cA dC dI A Rz nL (pc + 2) lv' st X) : xVY p l e R s m args below meth c cells slots Q ρ cA dC dI A Rz nL pc lv (Value.int x :: st) X := fun ls H locs hl hP hD hS => lv_istore C.1.1 C.1.2.1 hd hl hn hx (fun ls hl => k ls H locs hl hP hD hS)
theorem x_astore_nY (C : xCx p m c cc nL s args Ts own ρ sc L xs cA dC dI A meth ret) {k : Fin 4} {i : Nat} {x : Nat} {lv' : List (Nat × Value)} (hd : decode cc pc = .ok (.astore_n k, 1)) (hi : (k : Nat) = i) (hn : i < nL) (hx : (i, Value.ref x) :: lv.filter (fun q => !(q.1 == i) && !(q.1 + 1 == i && q.2.category == 2)) = lv') (k : xVY p l e R s m args below meth c cells slots Q ρ cA dC dI A Rz nL (pc + 1) lv' st X) : xVY p l e R s m args below meth c cells slots Q ρ cA dC dI A Rz nL pc lv (Value.ref x :: st) X := fun ls H locs hl hP hD hS => lv_astore_n C.1.1 C.1.2.1 hd hi hl hn hx (fun ls hl => k ls H locs hl hP hD hS)
theorem x_iincY (C : xCx p m c cc nL s args Ts own ρ sc L xs cA dC dI A meth ret) {i k0 : Nat} {n : Int} {x v : Int32} {lv' : List (Nat × Value)} (hd : decode cc pc = .ok (.iinc i n, 3)) (hk : lv[k0]? = some (i, .int x)) (hv : x + Int32.ofInt n = v) (hn : i < nL) (hx : (i, Value.int v) :: lv.filter (fun q => !(q.1 == i) && !(q.1 + 1 == i && q.2.category == 2)) = lv') (k : xVY p l e R s m args below meth c cells slots Q ρ cA dC dI A Rz nL (pc + 3) lv' st X) : xVY p l e R s m args below meth c cells slots Q ρ cA dC dI A Rz nL pc lv st X := fun ls H locs hl hP hD hS => lv_iinc C.1.1 C.1.2.1 hd hl hk hv hn hx (fun ls hl => k ls H locs hl hP hD hS)
theorem x_iaddY (C : xCx p m c cc nL s args Ts own ρ sc L xs cA dC dI A meth ret) {x y : Int32} (hd : decode cc pc = .ok (.iadd, 1)) (k : xVY p l e R s m args below meth c cells slots Q ρ cA dC dI A Rz nL (pc + 1) lv (.int (x + y) :: st) X) : xVY p l e R s m args below meth c cells slots Q ρ cA dC dI A Rz nL pc lv (.int y :: .int x :: st) X := fun ls H locs hl hP hD hS => lv_iadd C.1.1 C.1.2.1 hd (k ls H locs hl hP hD hS)
theorem x_isubY (C : xCx p m c cc nL s args Ts own ρ sc L xs cA dC dI A meth ret) {x y : Int32} (hd : decode cc pc = .ok (.isub, 1)) (k : xVY p l e R s m args below meth c cells slots Q ρ cA dC dI A Rz nL (pc + 1) lv (.int (x - y) :: st) X) : xVY p l e R s m args below meth c cells slots Q ρ cA dC dI A Rz nL pc lv (.int y :: .int x :: st) X := fun ls H locs hl hP hD hS => lv_isub C.1.1 C.1.2.1 hd (k ls H locs hl hP hD hS)
theorem x_imulY (C : xCx p m c cc nL s args Ts own ρ sc L xs cA dC dI A meth ret) {x y : Int32} (hd : decode cc pc = .ok (.imul, 1)) (k : xVY p l e R s m args below meth c cells slots Q ρ cA dC dI A Rz nL (pc + 1) lv (.int (x * y) :: st) X) : xVY p l e R s m args below meth c cells slots Q ρ cA dC dI A Rz nL pc lv (.int y :: .int x :: st) X := fun ls H locs hl hP hD hS => lv_imul C.1.1 C.1.2.1 hd (k ls H locs hl hP hD hS)
theorem x_iandY (C : xCx p m c cc nL s args Ts own ρ sc L xs cA dC dI A meth ret) {x y : Int32} (hd : decode cc pc = .ok (.iand, 1)) (k : xVY p l e R s m args below meth c cells slots Q ρ cA dC dI A Rz nL (pc + 1) lv (.int (x &&& y) :: st) X) : xVY p l e R s m args below meth c cells slots Q ρ cA dC dI A Rz nL pc lv (.int y :: .int x :: st) X := fun ls H locs hl hP hD hS => lv_iand C.1.1 C.1.2.1 hd (k ls H locs hl hP hD hS)
theorem x_ishlY (C : xCx p m c cc nL s args Ts own ρ sc L xs cA dC dI A meth ret) {x y : Int32} (hd : decode cc pc = .ok (.ishl, 1)) (k : xVY p l e R s m args below meth c cells slots Q ρ cA dC dI A Rz nL (pc + 1) lv (.int (x <<< (y &&& 31)) :: st) X) : xVY p l e R s m args below meth c cells slots Q ρ cA dC dI A Rz nL pc lv (.int y :: .int x :: st) X := fun ls H locs hl hP hD hS => lv_ishl C.1.1 C.1.2.1 hd (k ls H locs hl hP hD hS)
theorem x_ishrY (C : xCx p m c cc nL s args Ts own ρ sc L xs cA dC dI A meth ret) {x y : Int32} (hd : decode cc pc = .ok (.ishr, 1)) (k : xVY p l e R s m args below meth c cells slots Q ρ cA dC dI A Rz nL (pc + 1) lv (.int (x >>> (y &&& 31)) :: st) X) : xVY p l e R s m args below meth c cells slots Q ρ cA dC dI A Rz nL pc lv (.int y :: .int x :: st) X := fun ls H locs hl hP hD hS => lv_ishr C.1.1 C.1.2.1 hd (k ls H locs hl hP hD hS)
theorem x_idivY (C : xCx p m c cc nL s args Ts own ρ sc L xs cA dC dI A meth ret) {x y : Int32} (hd : decode cc pc = .ok (.idiv, 1)) (hne : ¬ y = 0) (k : xVY p l e R s m args below meth c cells slots Q ρ cA dC dI A Rz nL (pc + 1) lv (.int (x / y) :: st) X) : xVY p l e R s m args below meth c cells slots Q ρ cA dC dI A Rz nL pc lv (.int y :: .int x :: st) X := fun ls H locs hl hP hD hS => lv_idiv C.1.1 C.1.2.1 hd hne (k ls H locs hl hP hD hS)
theorem x_iremY (C : xCx p m c cc nL s args Ts own ρ sc L xs cA dC dI A meth ret) {x y : Int32} (hd : decode cc pc = .ok (.irem, 1)) (hne : ¬ y = 0) (k : xVY p l e R s m args below meth c cells slots Q ρ cA dC dI A Rz nL (pc + 1) lv (.int (x - x / y * y) :: st) X) : xVY p l e R s m args below meth c cells slots Q ρ cA dC dI A Rz nL pc lv (.int y :: .int x :: st) X := fun ls H locs hl hP hD hS => lv_irem C.1.1 C.1.2.1 hd hne (k ls H locs hl hP hD hS)
theorem x_inegY (C : xCx p m c cc nL s args Ts own ρ sc L xs cA dC dI A meth ret) {x : Int32} (hd : decode cc pc = .ok (.ineg, 1)) (k : xVY p l e R s m args below meth c cells slots Q ρ cA dC dI A Rz nL (pc + 1) lv (.int (-x) :: st) X) : xVY p l e R s m args below meth c cells slots Q ρ cA dC dI A Rz nL pc lv (.int x :: st) X := fun ls H locs hl hP hD hS => lv_ineg C.1.1 C.1.2.1 hd (k ls H locs hl hP hD hS)
theorem x_i2bY (C : xCx p m c cc nL s args Ts own ρ sc L xs cA dC dI A meth ret) {x : Int32} (hd : decode cc pc = .ok (.i2b, 1)) (k : xVY p l e R s m args below meth c cells slots Q ρ cA dC dI A Rz nL (pc + 1) lv (.int x.toInt8.toInt32 :: st) X) : xVY p l e R s m args below meth c cells slots Q ρ cA dC dI A Rz nL pc lv (.int x :: st) X := fun ls H locs hl hP hD hS => lv_i2b C.1.1 C.1.2.1 hd rfl (k ls H locs hl hP hD hS)
theorem x_dupY (C : xCx p m c cc nL s args Ts own ρ sc L xs cA dC dI A meth ret) {v : Value} (hd : decode cc pc = .ok (.dup, 1)) (hv : v.category = 1) (k : xVY p l e R s m args below meth c cells slots Q ρ cA dC dI A Rz nL (pc + 1) lv (v :: v :: st) X) : xVY p l e R s m args below meth c cells slots Q ρ cA dC dI A Rz nL pc lv (v :: st) X := fun ls H locs hl hP hD hS => lv_dup C.1.1 C.1.2.1 hd hv (k ls H locs hl hP hD hS)
theorem x_popY (C : xCx p m c cc nL s args Ts own ρ sc L xs cA dC dI A meth ret) {v : Value} (hd : decode cc pc = .ok (.pop, 1)) (hv : v.category = 1) (k : xVY p l e R s m args below meth c cells slots Q ρ cA dC dI A Rz nL (pc + 1) lv st X) : xVY p l e R s m args below meth c cells slots Q ρ cA dC dI A Rz nL pc lv (v :: st) X := fun ls H locs hl hP hD hS => lv_pop C.1.1 C.1.2.1 hd hv (k ls H locs hl hP hD hS)
theorem x_if_eqY (C : xCx p m c cc nL s args Ts own ρ sc L xs cA dC dI A meth ret) {x : Int32} {off : Int} {tgt : Nat} (hd : decode cc pc = .ok (.ifCond .eq off, 3)) (ht : (pc : Int) + off = (tgt : Int)) (kt : x = 0 → xVY p l e R s m args below meth c cells slots Q ρ cA dC dI A Rz nL tgt lv st X) (kf : ¬ (x = 0) → xVY p l e R s m args below meth c cells slots Q ρ cA dC dI A Rz nL (pc + 3) lv st X) : xVY p l e R s m args below meth c cells slots Q ρ cA dC dI A Rz nL pc lv (.int x :: st) X := fun ls H locs hl hP hD hS => lv_if_eq C.1.1 C.1.2.1 hd ht (fun h => kt h ls H locs hl hP hD hS) (fun h => kf h ls H locs hl hP hD hS)
theorem x_icmp_eqY (C : xCx p m c cc nL s args Ts own ρ sc L xs cA dC dI A meth ret) {x y : Int32} {off : Int} {tgt : Nat} (hd : decode cc pc = .ok (.if_icmp .eq off, 3)) (ht : (pc : Int) + off = (tgt : Int)) (kt : x = y → xVY p l e R s m args below meth c cells slots Q ρ cA dC dI A Rz nL tgt lv st X) (kf : ¬ (x = y) → xVY p l e R s m args below meth c cells slots Q ρ cA dC dI A Rz nL (pc + 3) lv st X) : xVY p l e R s m args below meth c cells slots Q ρ cA dC dI A Rz nL pc lv (.int y :: .int x :: st) X := fun ls H locs hl hP hD hS => lv_icmp_eq C.1.1 C.1.2.1 hd ht (fun h => kt h ls H locs hl hP hD hS) (fun h => kf h ls H locs hl hP hD hS)
theorem x_if_neY (C : xCx p m c cc nL s args Ts own ρ sc L xs cA dC dI A meth ret) {x : Int32} {off : Int} {tgt : Nat} (hd : decode cc pc = .ok (.ifCond .ne off, 3)) (ht : (pc : Int) + off = (tgt : Int)) (kt : ¬ x = 0 → xVY p l e R s m args below meth c cells slots Q ρ cA dC dI A Rz nL tgt lv st X) (kf : x = 0 → xVY p l e R s m args below meth c cells slots Q ρ cA dC dI A Rz nL (pc + 3) lv st X) : xVY p l e R s m args below meth c cells slots Q ρ cA dC dI A Rz nL pc lv (.int x :: st) X := fun ls H locs hl hP hD hS => lv_if_ne C.1.1 C.1.2.1 hd ht (fun h => kt h ls H locs hl hP hD hS) (fun h => kf h ls H locs hl hP hD hS)
theorem x_icmp_neY (C : xCx p m c cc nL s args Ts own ρ sc L xs cA dC dI A meth ret) {x y : Int32} {off : Int} {tgt : Nat} (hd : decode cc pc = .ok (.if_icmp .ne off, 3)) (ht : (pc : Int) + off = (tgt : Int)) (kt : ¬ x = y → xVY p l e R s m args below meth c cells slots Q ρ cA dC dI A Rz nL tgt lv st X) (kf : x = y → xVY p l e R s m args below meth c cells slots Q ρ cA dC dI A Rz nL (pc + 3) lv st X) : xVY p l e R s m args below meth c cells slots Q ρ cA dC dI A Rz nL pc lv (.int y :: .int x :: st) X := fun ls H locs hl hP hD hS => lv_icmp_ne C.1.1 C.1.2.1 hd ht (fun h => kt h ls H locs hl hP hD hS) (fun h => kf h ls H locs hl hP hD hS)
theorem x_if_ltY (C : xCx p m c cc nL s args Ts own ρ sc L xs cA dC dI A meth ret) {x : Int32} {off : Int} {tgt : Nat} (hd : decode cc pc = .ok (.ifCond .lt off, 3)) (ht : (pc : Int) + off = (tgt : Int)) (kt : x < 0 → xVY p l e R s m args below meth c cells slots Q ρ cA dC dI A Rz nL tgt lv st X) (kf : ¬ (x < 0) → xVY p l e R s m args below meth c cells slots Q ρ cA dC dI A Rz nL (pc + 3) lv st X) : xVY p l e R s m args below meth c cells slots Q ρ cA dC dI A Rz nL pc lv (.int x :: st) X := fun ls H locs hl hP hD hS => lv_if_lt C.1.1 C.1.2.1 hd ht (fun h => kt h ls H locs hl hP hD hS) (fun h => kf h ls H locs hl hP hD hS)
theorem x_if_geY (C : xCx p m c cc nL s args Ts own ρ sc L xs cA dC dI A meth ret) {x : Int32} {off : Int} {tgt : Nat} (hd : decode cc pc = .ok (.ifCond .ge off, 3)) (ht : (pc : Int) + off = (tgt : Int)) (kt : 0 ≤ x → xVY p l e R s m args below meth c cells slots Q ρ cA dC dI A Rz nL tgt lv st X) (kf : ¬ (0 ≤ x) → xVY p l e R s m args below meth c cells slots Q ρ cA dC dI A Rz nL (pc + 3) lv st X) : xVY p l e R s m args below meth c cells slots Q ρ cA dC dI A Rz nL pc lv (.int x :: st) X := fun ls H locs hl hP hD hS => lv_if_ge C.1.1 C.1.2.1 hd ht (fun h => kt h ls H locs hl hP hD hS) (fun h => kf h ls H locs hl hP hD hS)
theorem x_icmp_geY (C : xCx p m c cc nL s args Ts own ρ sc L xs cA dC dI A meth ret) {x y : Int32} {off : Int} {tgt : Nat} (hd : decode cc pc = .ok (.if_icmp .ge off, 3)) (ht : (pc : Int) + off = (tgt : Int)) (kt : y ≤ x → xVY p l e R s m args below meth c cells slots Q ρ cA dC dI A Rz nL tgt lv st X) (kf : ¬ (y ≤ x) → xVY p l e R s m args below meth c cells slots Q ρ cA dC dI A Rz nL (pc + 3) lv st X) : xVY p l e R s m args below meth c cells slots Q ρ cA dC dI A Rz nL pc lv (.int y :: .int x :: st) X := fun ls H locs hl hP hD hS => lv_icmp_ge C.1.1 C.1.2.1 hd ht (fun h => kt h ls H locs hl hP hD hS) (fun h => kf h ls H locs hl hP hD hS)
theorem x_icmp_gtY (C : xCx p m c cc nL s args Ts own ρ sc L xs cA dC dI A meth ret) {x y : Int32} {off : Int} {tgt : Nat} (hd : decode cc pc = .ok (.if_icmp .gt off, 3)) (ht : (pc : Int) + off = (tgt : Int)) (kt : y < x → xVY p l e R s m args below meth c cells slots Q ρ cA dC dI A Rz nL tgt lv st X) (kf : ¬ (y < x) → xVY p l e R s m args below meth c cells slots Q ρ cA dC dI A Rz nL (pc + 3) lv st X) : xVY p l e R s m args below meth c cells slots Q ρ cA dC dI A Rz nL pc lv (.int y :: .int x :: st) X := fun ls H locs hl hP hD hS => lv_icmp_gt C.1.1 C.1.2.1 hd ht (fun h => kt h ls H locs hl hP hD hS) (fun h => kf h ls H locs hl hP hD hS)
theorem x_if_leY (C : xCx p m c cc nL s args Ts own ρ sc L xs cA dC dI A meth ret) {x : Int32} {off : Int} {tgt : Nat} (hd : decode cc pc = .ok (.ifCond .le off, 3)) (ht : (pc : Int) + off = (tgt : Int)) (kt : x ≤ 0 → xVY p l e R s m args below meth c cells slots Q ρ cA dC dI A Rz nL tgt lv st X) (kf : ¬ (x ≤ 0) → xVY p l e R s m args below meth c cells slots Q ρ cA dC dI A Rz nL (pc + 3) lv st X) : xVY p l e R s m args below meth c cells slots Q ρ cA dC dI A Rz nL pc lv (.int x :: st) X := fun ls H locs hl hP hD hS => lv_if_le C.1.1 C.1.2.1 hd ht (fun h => kt h ls H locs hl hP hD hS) (fun h => kf h ls H locs hl hP hD hS)
theorem x_icmp_leY (C : xCx p m c cc nL s args Ts own ρ sc L xs cA dC dI A meth ret) {x y : Int32} {off : Int} {tgt : Nat} (hd : decode cc pc = .ok (.if_icmp .le off, 3)) (ht : (pc : Int) + off = (tgt : Int)) (kt : x ≤ y → xVY p l e R s m args below meth c cells slots Q ρ cA dC dI A Rz nL tgt lv st X) (kf : ¬ (x ≤ y) → xVY p l e R s m args below meth c cells slots Q ρ cA dC dI A Rz nL (pc + 3) lv st X) : xVY p l e R s m args below meth c cells slots Q ρ cA dC dI A Rz nL pc lv (.int y :: .int x :: st) X := fun ls H locs hl hP hD hS => lv_icmp_le C.1.1 C.1.2.1 hd ht (fun h => kt h ls H locs hl hP hD hS) (fun h => kf h ls H locs hl hP hD hS)
theorem x_gotoY (C : xCx p m c cc nL s args Ts own ρ sc L xs cA dC dI A meth ret) {off : Int} {tgt : Nat} (hd : decode cc pc = .ok (.goto off, 3)) (ht : (pc : Int) + off = (tgt : Int)) (k : xVY p l e R s m args below meth c cells slots Q ρ cA dC dI A Rz nL tgt lv st X) : xVY p l e R s m args below meth c cells slots Q ρ cA dC dI A Rz nL pc lv st X := fun ls H locs hl hP hD hS => lv_goto C.1.1 C.1.2.1 hd ht (k ls H locs hl hP hD hS)
theorem x_subY {lv' : List (Nat × Value)} (ks : List Nat) (h : lv_pick lv ks = lv') (k : xVY p l e R s m args below meth c cells slots Q ρ cA dC dI A Rz nL pc lv' st X) : xVY p l e R s m args below meth c cells slots Q ρ cA dC dI A Rz nL pc lv st X := fun ls H locs hl hP hD hS => k ls H locs (lv_sub hl ks h) hP hD hS
theorem x_mmaxY (C : xCx p m c cc nL s args Ts own ρ sc L xs cA dC dI A meth ret) {x y : Int32} {index : Nat} (hf : 1 ≤ R.frames) (hlo : (st.map fun v => v.category).sum + 13 ≤ R.locals) (hc : cells ≤ R.cells) (hs : slots ≤ R.slots) (hlink : Cond.methodLink own index Lib.Math.max.name ∈ bsG) (hd : decode cc pc = .ok (.invokestatic index, 3)) (k : xVY p l e R s m args below meth c cells slots Q ρ cA dC dI A Rz nL (pc + 3) lv (.int (bsMax x y) :: st) X) : xVY p l e R s m args below meth c cells slots Q ρ cA dC dI A Rz nL pc lv (.int y :: .int x :: st) X := by
  intro ls H locs hl hP hD hS
  have W9 := fun w (h : w ∈ bsG) => C.1.2.2.2.2 w (C.2.2.1 w h)
  exact va_mmax C.1.1 C.1.2.1 (C.1.2.2.1.trans hl.1.symm) C.1.2.2.2.1 (W9 _ hlink) (W9 _ mm_max.1) (W9 _ mm_max.2.1) (W9 _ mm_max.2.2) hf hlo hc hs hd (k ls H locs hl hP hD hS)
theorem x_mminY (C : xCx p m c cc nL s args Ts own ρ sc L xs cA dC dI A meth ret) {x y : Int32} {index : Nat} (hf : 1 ≤ R.frames) (hlo : (st.map fun v => v.category).sum + 13 ≤ R.locals) (hc : cells ≤ R.cells) (hs : slots ≤ R.slots) (hlink : Cond.methodLink own index Lib.Math.min.name ∈ bsG) (hd : decode cc pc = .ok (.invokestatic index, 3)) (k : xVY p l e R s m args below meth c cells slots Q ρ cA dC dI A Rz nL (pc + 3) lv (.int (bsMin x y) :: st) X) : xVY p l e R s m args below meth c cells slots Q ρ cA dC dI A Rz nL pc lv (.int y :: .int x :: st) X := by
  intro ls H locs hl hP hD hS
  have W9 := fun w (h : w ∈ bsG) => C.1.2.2.2.2 w (C.2.2.1 w h)
  exact va_mmin C.1.1 C.1.2.1 (C.1.2.2.1.trans hl.1.symm) C.1.2.2.2.1 (W9 _ hlink) (W9 _ mm_min.1) (W9 _ mm_min.2.1) (W9 _ mm_min.2.2) hf hlo hc hs hd (k ls H locs hl hP hD hS)
theorem x_widenY {k n : Nat} (h1 : cells ≤ k) (h2 : slots ≤ n) (kk : xVY p l e R s m args below meth c k n Q ρ cA dC dI A Rz nL pc lv st X) : xVY p l e R s m args below meth c cells slots Q ρ cA dC dI A Rz nL pc lv st X := fun ls H locs hl hP hD hS => W.widen h1 h2 (kk ls H locs hl hP hD hS)
theorem x_ldcY (C : xCx p m c cc nL s args Ts own ρ sc L xs cA dC dI A meth ret) {index : Nat} {v : Int32} (h : Cond.constant own index v ∈ bsG) (hd : decode cc pc = .ok (.ldc index, 2)) (k : xVY p l e R s m args below meth c cells slots Q ρ cA dC dI A Rz nL (pc + 2) lv (.int v :: st) X) : xVY p l e R s m args below meth c cells slots Q ρ cA dC dI A Rz nL pc lv st X := fun ls H locs hl hP hD hS => lv_ldc C.1.1 C.1.2.1 C.1.2.2.2.1 (C.1.2.2.2.2 _ (C.2.2.1 _ h)) hd (k ls H locs hl hP hD hS)
theorem x_ldcSY (C : xCx p m c cc nL s args Ts own ρ sc L xs cA dC dI A meth ret) {tx : String} {t index : Nat} (h : (own, index, tx, t) ∈ bsSR) (hd : decode cc pc = .ok (.ldc index, 2)) (k : xVY p l e R s m args below meth c cells slots Q ρ cA dC dI A Rz nL (pc + 2) lv (.ref (ρ 16 0 t) :: st) X) : xVY p l e R s m args below meth c cells slots Q ρ cA dC dI A Rz nL pc lv st X := fun ls H locs hl hP hD hS => va_ldcS C.1.1 C.1.2.1 C.1.2.2.2.1 (C.2.2.2.1.2.1.2.1 _ h) hd (k ls H locs hl hP hD hS)
theorem xW_atY (k : Nat) : (bsWsY ρ cA X Rz)[bsKeysY.length + k]? = Rz[k]? := by
  have h : (bsKeysY.map (fun t => (ρ t.1 t.2.1 t.2.2, bsCell ρ cA t.1 t.2.1 t.2.2 (X t.1 t.2.1 t.2.2)))).length = bsKeysY.length := List.length_map _
  rw [bsWsY, List.getElem?_append_right (by omega), h, Nat.add_sub_cancel_left]
theorem xW_setY (k : Nat) (x : Nat × va_E) : (bsWsY ρ cA X Rz).set (bsKeysY.length + k) x = bsWsY ρ cA X (Rz.set k x) := by
  have h : (bsKeysY.map (fun t => (ρ t.1 t.2.1 t.2.2, bsCell ρ cA t.1 t.2.1 t.2.2 (X t.1 t.2.1 t.2.2)))).length = bsKeysY.length := List.length_map _
  rw [bsWsY, bsWsY, List.set_append, if_neg (by omega), h, Nat.add_sub_cancel_left]
theorem xW_appY (Y : va_W) : bsWsY ρ cA X Rz ++ Y = bsWsY ρ cA X (Rz ++ Y) := by rw [bsWsY, bsWsY, List.append_assoc]
theorem x_getY (C : xCx p m c cc nL s args Ts own ρ sc L xs cA dC dI A meth ret) {q0 a ci index N k : Nat} {Cn ref : String} {T : u_T} {fs : List Value} {v : Value} (he : Rz[q0]? = some (a, .inr (ci, fs))) (hci : vwCl[ci]? = some (Cn, T, N)) (hin : ∀ w ∈ u_ws Cn T N, w ∈ bsG) (hkN : k < N) (hlink : Cond.fieldLink own index ref (T k).2.1 (T k).2.2.1 ∈ bsG) (hsame : (T k).1 = ref) (hv : fs[k]? = some v) (hd : decode cc pc = .ok (.getfield index, 3)) (kk : xVY p l e R s m args below meth c cells slots Q ρ cA dC dI A Rz nL (pc + 3) lv (v :: st) X) : xVY p l e R s m args below meth c cells slots Q ρ cA dC dI A Rz nL pc lv (.ref a :: st) X := by
  intro ls H locs hl hP hD hS
  exact va_get C.1.1 C.1.2.1 C.1.2.2.2.2 (fun w h => C.2.2.1 w (hin w h)) C.1.2.2.2.1 C.2.1 hP (bsKeysY.length + q0) ((xW_atY q0).trans he) hci k hkN (C.1.2.2.2.2 _ (C.2.2.1 _ hlink)) (fun x h => by rw [← hsame]; exact h) hv hd (kk ls H locs hl hP hD hS)
theorem x_getNY (C : xCx p m c cc nL s args Ts own ρ sc L xs cA dC dI A meth ret) {q0 a ci index N k : Nat} {Cn ref : String} {T : u_T} {fs : List Value} {host : String} {v : Value} (he : Rz[q0]? = some (a, .inr (ci, fs))) (hci : vwCl[ci]? = some (Cn, T, N)) (hin : ∀ w ∈ u_ws Cn T N, w ∈ bsG) (hkN : k < N) (hlink : (own, index, ref, (T k).2.1, (T k).2.2.1, host) ∈ bsNF) (hsame : (T k).1 = ref) (hv : fs[k]? = some v) (hd : decode cc pc = .ok (.getfield index, 3)) (kk : xVY p l e R s m args below meth c cells slots Q ρ cA dC dI A Rz nL (pc + 3) lv (v :: st) X) : xVY p l e R s m args below meth c cells slots Q ρ cA dC dI A Rz nL pc lv (.ref a :: st) X := by
  intro ls H locs hl hP hD hS
  exact va_getN C.1.1 C.1.2.1 C.1.2.2.2.2 (fun w h => C.2.2.1 w (hin w h)) C.1.2.2.2.1 C.2.1 hP (bsKeysY.length + q0) ((xW_atY q0).trans he) hci k hkN (va_Nw.use rfl (C.2.2.2.1.1 _ hlink)) (fun x h => by rw [← hsame]; exact h) hv hd (kk ls H locs hl hP hD hS)
theorem x_putY (C : xCx p m c cc nL s args Ts own ρ sc L xs cA dC dI A meth ret) {q0 a ci index N k : Nat} {Cn ref : String} {T : u_T} {fs : List Value} {v : Value} {ty : FieldType} (he : Rz[q0]? = some (a, .inr (ci, fs))) (hci : vwCl[ci]? = some (Cn, T, N)) (hin : ∀ w ∈ u_ws Cn T N, w ∈ bsG) (ty0 : Nat → FieldType) (hty : ∀ k, k < N → parseFieldDescriptor (T k).2.2.1 = some (ty0 k)) (hnm : ∀ a, a < N → ∀ b, b < N → a ≠ b → (T a).2.1 ≠ (T b).2.1) (hkN : k < N) (hlink : Cond.fieldLink own index ref (T k).2.1 (T k).2.2.1 ∈ bsG) (hsame : (T k).1 = ref) (hfin : (T k).2.2.2 = false) (htk : ty0 k = ty) (hn : narrow ty v = v) (hf : fits ty v = true) (hlen : k < fs.length) (hR : Rz.set q0 (a, .inr (ci, fs.set k v)) = Rz') (hd : decode cc pc = .ok (.putfield index, 3)) (kk : xVY p l e R s m args below meth c cells slots Q ρ cA dC dI A Rz' nL (pc + 3) lv st X) : xVY p l e R s m args below meth c cells slots Q ρ cA dC dI A Rz nL pc lv (v :: .ref a :: st) X := by
  intro ls H locs hl hP hD hS
  refine va_put (D := (dC, dI)) C.1.1 C.1.2.1 C.1.2.2.2.2 (fun w h => C.2.2.1 w (hin w h)) ty0 hty hnm C.1.2.2.2.1 C.2.1 hP hD hS (bsKeysY.length + q0) ((xW_atY q0).trans he) hci k hkN (C.1.2.2.2.2 _ (C.2.2.1 _ hlink)) (fun x h => by rw [← hsame]; exact h) hfin (by rw [← htk]; exact hty k hkN) hn hf hlen hd (fun H locs hP hD hS => ?_)
  rw [xW_setY, hR] at hP hD
  exact kk ls H locs hl hP hD hS
theorem x_putNY (C : xCx p m c cc nL s args Ts own ρ sc L xs cA dC dI A meth ret) {q0 a ci index N k : Nat} {Cn ref : String} {T : u_T} {fs : List Value} {v : Value} {ty : FieldType} (he : Rz[q0]? = some (a, .inr (ci, fs))) (hci : vwCl[ci]? = some (Cn, T, N)) (hin : ∀ w ∈ u_ws Cn T N, w ∈ bsG) (ty0 : Nat → FieldType) (hty : ∀ k, k < N → parseFieldDescriptor (T k).2.2.1 = some (ty0 k)) (hnm : ∀ a, a < N → ∀ b, b < N → a ≠ b → (T a).2.1 ≠ (T b).2.1) (hkN : k < N) {host : String} (hlink : (own, index, ref, (T k).2.1, (T k).2.2.1, host) ∈ bsNF) (hsame : (T k).1 = ref) (hfin : (T k).2.2.2 = false) (htk : ty0 k = ty) (hn : narrow ty v = v) (hf : fits ty v = true) (hlen : k < fs.length) (hR : Rz.set q0 (a, .inr (ci, fs.set k v)) = Rz') (hd : decode cc pc = .ok (.putfield index, 3)) (kk : xVY p l e R s m args below meth c cells slots Q ρ cA dC dI A Rz' nL (pc + 3) lv st X) : xVY p l e R s m args below meth c cells slots Q ρ cA dC dI A Rz nL pc lv (v :: .ref a :: st) X := by
  intro ls H locs hl hP hD hS
  refine va_putN (D := (dC, dI)) C.1.1 C.1.2.1 C.1.2.2.2.2 (fun w h => C.2.2.1 w (hin w h)) ty0 hty hnm C.1.2.2.2.1 C.2.1 hP hD hS (bsKeysY.length + q0) ((xW_atY q0).trans he) hci k hkN (va_Nw.use rfl (C.2.2.2.1.1 _ hlink)) (fun x h => by rw [← hsame]; exact h) hfin (by rw [← htk]; exact hty k hkN) hn hf hlen hd (fun H locs hP hD hS => ?_)
  rw [xW_setY, hR] at hP hD
  exact kk ls H locs hl hP hD hS
theorem x_ialdY (C : xCx p m c cc nL s args Ts own ρ sc L xs cA dC dI A meth ret) {q0 a n : Nat} {f : Nat → Int32} {i : Int32} (he : Rz[q0]? = some (a, .inl (cA 0, n, .inl f))) (hin : bsIn i n) (hd : decode cc pc = .ok (.iaload, 1)) (kk : xVY p l e R s m args below meth c cells slots Q ρ cA dC dI A Rz nL (pc + 1) lv (.int (f (bsIx i)) :: st) X) : xVY p l e R s m args below meth c cells slots Q ρ cA dC dI A Rz nL pc lv (.int i :: .ref a :: st) X := by
  intro ls H locs hl hP hD hS
  exact va_iald C.1.1 C.1.2.1 C.2.1 hP (bsKeysY.length + q0) 0 ((xW_atY q0).trans he) rfl (vp_in_iff.mpr hin) hd (kk ls H locs hl hP hD hS)
theorem x_iastY (C : xCx p m c cc nL s args Ts own ρ sc L xs cA dC dI A meth ret) {q0 a n : Nat} {f : Nat → Int32} {i x : Int32} (he : Rz[q0]? = some (a, .inl (cA 0, n, .inl f))) (hin : bsIn i n) (hR : Rz.set q0 (a, .inl (cA 0, n, .inl (upd f (bsIx i) x))) = Rz') (hd : decode cc pc = .ok (.iastore, 1)) (kk : xVY p l e R s m args below meth c cells slots Q ρ cA dC dI A Rz' nL (pc + 1) lv st X) : xVY p l e R s m args below meth c cells slots Q ρ cA dC dI A Rz nL pc lv (.int x :: .int i :: .ref a :: st) X := by
  intro ls H locs hl hP hD hS
  refine va_iast C.1.1 C.1.2.1 C.2.1 hP hD hS (bsKeysY.length + q0) 0 ((xW_atY q0).trans he) rfl (vp_in_iff.mpr hin) hd (fun H locs hP hD hS => ?_)
  rw [xW_setY, show (upd f i.toNatClampNeg x) = upd f (bsIx i) x from rfl, hR] at hP hD
  exact kk ls H locs hl hP hD hS
theorem x_bastY (C : xCx p m c cc nL s args Ts own ρ sc L xs cA dC dI A meth ret) {q0 a n : Nat} {f : Nat → Int32} {i x : Int32} (he : Rz[q0]? = some (a, .inl (cA 1, n, .inl f))) (hin : bsIn i n) (hR : Rz.set q0 (a, .inl (cA 1, n, .inl (upd f (bsIx i) (vp_nar .byte x)))) = Rz') (hd : decode cc pc = .ok (.bastore, 1)) (kk : xVY p l e R s m args below meth c cells slots Q ρ cA dC dI A Rz' nL (pc + 1) lv st X) : xVY p l e R s m args below meth c cells slots Q ρ cA dC dI A Rz nL pc lv (.int x :: .int i :: .ref a :: st) X := by
  intro ls H locs hl hP hD hS
  refine va_bast C.1.1 C.1.2.1 C.2.1 hP hD hS (bsKeysY.length + q0) 1 ((xW_atY q0).trans he) rfl (vp_in_iff.mpr hin) hd (fun H locs hP hD hS => ?_)
  rw [xW_setY, show (upd f i.toNatClampNeg (vp_nar .byte x)) = upd f (bsIx i) (vp_nar .byte x) from rfl, hR] at hP hD
  exact kk ls H locs hl hP hD hS
theorem x_alenY (C : xCx p m c cc nL s args Ts own ρ sc L xs cA dC dI A meth ret) {q0 a t0 : Nat} {x : vp_A} {ty : FieldType} {v : Int32} (he : Rz[q0]? = some (a, .inl (cA t0, x))) (ht : (bsTys cA)[t0]? = some (cA t0, ty)) (hv : nI x.1 = v) (hd : decode cc pc = .ok (.arraylength, 1)) (kk : xVY p l e R s m args below meth c cells slots Q ρ cA dC dI A Rz nL (pc + 1) lv (.int v :: st) X) : xVY p l e R s m args below meth c cells slots Q ρ cA dC dI A Rz nL pc lv (.ref a :: st) X := by
  intro ls H locs hl hP hD hS
  exact va_alen C.1.1 C.1.2.1 C.2.1 hP (bsKeysY.length + q0) t0 ((xW_atY q0).trans he) ht hv hd (kk ls H locs hl hP hD hS)
theorem x_aaldY (C : xCx p m c cc nL s args Ts own ρ sc L xs cA dC dI A meth ret) {q0 a n t0 : Nat} {i : Int32} {ty : FieldType} {f : Nat → Option Nat} {b : Nat} (he : Rz[q0]? = some (a, .inl (cA t0, n, .inr (.inr (.inr (.inr f)))))) (ht : (bsTys cA)[t0]? = some (cA t0, ty)) (hty : ty.isReference = true) (hin : bsIn i n) (hf : f (bsIx i) = some b) (hd : decode cc pc = .ok (.aaload, 1)) (kk : xVY p l e R s m args below meth c cells slots Q ρ cA dC dI A Rz nL (pc + 1) lv (.ref b :: st) X) : xVY p l e R s m args below meth c cells slots Q ρ cA dC dI A Rz nL pc lv (.int i :: .ref a :: st) X := by
  intro ls H locs hl hP hD hS
  have hlt : i.toNatClampNeg < n := Nat.not_le.mp fun q => (vp_in_iff.mpr hin) (Or.inr q)
  refine W.aald (v := va_rf (f i.toNatClampNeg)) (ty := ty) C.1.1 C.1.2.1 (hP (bsKeysY.length + q0) _ ((xW_atY q0).trans he)) ((C.2.1.2 t0 _ ht).1 n (fun j => va_rf (f j))) hty (fun q => by cases q) (by show ¬ (i < 0 ∨ (arrV _ _ _).slots.size ≤ _); rw [arrV_size]; exact (vp_in_iff.mpr hin)) (by show (arrV _ _ _).slots[_]? = _; rw [arrV_read _ _ hlt]) rfl rfl hd ?_
  rw [show f i.toNatClampNeg = some b from hf]
  exact kk ls H locs hl hP hD hS
theorem x_newaY (C : xCx p m c cc nL s args Ts own ρ sc L xs cA dC dI A meth ret) {atype : ArrayType} {ty : FieldType} {n : Int32} {N t0 : Nat} {a0 : vp_A} (harr : Cond.arrayClass (newarray.typeOf atype) ∈ bsG) (hty : newarray.typeOf atype = ty) (ht : (bsTys cA)[t0]? = some (cA t0, ty)) (hra : va_RA s (cA t0) ty → s.vm.findClass ("[" ++ ty.toString) = some (cA t0)) (hrb : ∀ c1 : ClassId, va_RA s c1 ty → s.vm.findClass ("[" ++ ty.toString) = some c1) (ha : ∀ c0 : ClassId, vp_cell c0 a0 = arrV c0 N (fun _ => defaultValue ty)) (hn : ¬ n < 0) (hN : n.toNatClampNeg = N) (hby : N * componentBytes ty ≤ 536870912) (hR : cells + 1 ≤ R.cells ∧ slots + N ≤ R.slots) (hd : decode cc pc = .ok (.newarray atype, 2)) (kk : ∀ q : Nat, xVY p l e R s m args below meth c (cells + 1) (slots + N) Q ρ cA dC dI A (Rz ++ [(q, .inl (cA t0, a0))]) nL (pc + 2) lv (.ref q :: st) X) : xVY p l e R s m args below meth c cells slots Q ρ cA dC dI A Rz nL pc lv (.int n :: st) X := by
  intro ls H locs hl hP hD hS
  have W9 := fun w (h : w ∈ bsG) => C.1.2.2.2.2 w (C.2.2.1 w h)
  refine va_newa C.1.1 C.1.2.1 (atype := atype) (W9 _ harr) hty C.2.1 hP hD hS C.2.2.2.2.2.2 ha hn hN hby hR.1 hR.2 hd (fun q c1 H1 hK hP hD hS => ?_)
  have e1 : (bsTys cA ++ [(c1, ty)])[9]? = some (c1, ty) := rfl
  have e2 : c1 = cA t0 := Option.some.inj ((hrb _ (hK.2 9 _ e1).2).symm.trans (hra (C.2.1.2 t0 _ ht).2))
  subst e2
  rw [xW_appY] at hP hD
  exact kk q ls H1 locs hl hP hD hS
theorem x_newiY (C : xCx p m c cc nL s args Ts own ρ sc L xs cA dC dI A meth ret) {n : Int32} {N : Nat} (hn : ¬ n < 0) (hN : n.toNatClampNeg = N) (hby : N ≤ 100000) (hR : cells + 1 ≤ R.cells ∧ slots + N ≤ R.slots) (hd : decode cc pc = .ok (.newarray .int, 2)) (kk : ∀ q : Nat, xVY p l e R s m args below meth c (cells + 1) (slots + N) Q ρ cA dC dI A (Rz ++ [(q, .inl (cA 0, N, .inl (fun _ => (0 : Int32))))]) nL (pc + 2) lv (.ref q :: st) X) : xVY p l e R s m args below meth c cells slots Q ρ cA dC dI A Rz nL pc lv (.int n :: st) X := x_newaY C (ty := .int) (t0 := 0) (by decide +kernel) rfl rfl (fun h => h) (fun _ h => h) (fun _ => rfl) hn hN (by show N * 4 ≤ 536870912; omega) hR hd kk
theorem x_newbY (C : xCx p m c cc nL s args Ts own ρ sc L xs cA dC dI A meth ret) {n : Int32} {N : Nat} (hn : ¬ n < 0) (hN : n.toNatClampNeg = N) (hby : N ≤ 100000) (hR : cells + 1 ≤ R.cells ∧ slots + N ≤ R.slots) (hd : decode cc pc = .ok (.newarray .byte, 2)) (kk : ∀ q : Nat, xVY p l e R s m args below meth c (cells + 1) (slots + N) Q ρ cA dC dI A (Rz ++ [(q, .inl (cA 1, N, .inl (fun _ => (0 : Int32))))]) nL (pc + 2) lv (.ref q :: st) X) : xVY p l e R s m args below meth c cells slots Q ρ cA dC dI A Rz nL pc lv (.int n :: st) X := x_newaY C (ty := .byte) (t0 := 1) (by decide +kernel) rfl rfl (fun h => h) (fun _ h => h) (fun _ => rfl) hn hN (by show N * 1 ≤ 536870912; omega) hR hd kk
theorem x_newY (C : xCx p m c cc nL s args Ts own ρ sc L xs cA dC dI A meth ret) {ci index N : Nat} {Cn : String} {T : u_T} {fs : List Value} (hin : ∀ w ∈ u_ws Cn T N, w ∈ bsG) (ty0 : Nat → FieldType) (hty : ∀ k, k < N → parseFieldDescriptor (T k).2.2.1 = some (ty0 k)) (hcl : Cond.classLink own index Cn ∈ bsG) (hinst : Cond.instantiable Cn N ∈ bsG) (hini : Cond.initialized Cn ∈ bsG) (hci : vwCl[ci]? = some (Cn, T, N)) (hfs : ∀ j, j < N → defaultValue (ty0 j) = vp_V fs j) (hR : cells + 1 ≤ R.cells ∧ slots + N ≤ R.slots) (hd : decode cc pc = .ok (.new index, 3)) (kk : ∀ q : Nat, xVY p l e R s m args below meth c (cells + 1) (slots + N) Q ρ cA dC dI A (Rz ++ [(q, .inr (ci, fs))]) nL (pc + 3) lv (.ref q :: st) X) : xVY p l e R s m args below meth c cells slots Q ρ cA dC dI A Rz nL pc lv st X := by
  intro ls H locs hl hP hD hS
  have W9 := fun w (h : w ∈ bsG) => C.1.2.2.2.2 w (C.2.2.1 w h)
  refine va_new C.1.1 C.1.2.1 C.1.2.2.2.2 (fun w h => C.2.2.1 w (hin w h)) ty0 hty C.1.2.2.2.1 (W9 _ hcl) (W9 _ hinst) (W9 _ hini) C.2.1 hP hD hS C.2.2.2.2.2.2 hci hfs hR.1 hR.2 hd (fun q H1 hP hD hS => ?_)
  rw [xW_appY] at hP hD
  exact kk q ls H1 locs hl hP hD hS
/-- the cells in another order, or fewer of them -/
theorem x_memY (h : ∀ q ∈ Rz', q ∈ Rz) (hn : (Rz.map Prod.fst).Nodup → (Rz'.map Prod.fst).Nodup) (kk : xVY p l e R s m args below meth c cells slots Q ρ cA dC dI A Rz' nL pc lv st X) : xVY p l e R s m args below meth c cells slots Q ρ cA dC dI A Rz nL pc lv st X := by
  intro ls H locs hl hP hD hS
  have hm : ∀ q ∈ bsWsY ρ cA X Rz', q ∈ bsWsY ρ cA X Rz := fun q hq => by
    rcases List.mem_append.mp hq with z | z
    · exact List.mem_append_left _ z
    · exact List.mem_append_right _ (h q z)
  have hD1 := xD_iff.mp hD
  refine kk ls H locs hl (xP_iff.mpr fun q hq => xP_iff.mp hP q (hm q hq)) (xD_iff.mpr ⟨?_, fun q hq => hD1.2 q (hm q hq)⟩) hS
  have h1 := hD1.1
  rw [bsWsY, List.map_append, List.nodup_append] at h1
  rw [bsWsY, List.map_append, List.nodup_append]
  refine ⟨h1.1, hn h1.2.1, fun a ha b hb => ?_⟩
  obtain ⟨q, hq, rfl⟩ := List.mem_map.mp hb
  exact h1.2.2 a ha q.1 (List.mem_map.mpr ⟨q, h q hq, rfl⟩)
theorem x_sublY (h : List.Sublist Rz' Rz) (kk : xVY p l e R s m args below meth c cells slots Q ρ cA dC dI A Rz' nL pc lv st X) : xVY p l e R s m args below meth c cells slots Q ρ cA dC dI A Rz nL pc lv st X := x_memY (fun q hq => h.subset hq) (fun hn => hn.sublist (h.map _)) kk
theorem x_permY (h : List.Perm Rz' Rz) (kk : xVY p l e R s m args below meth c cells slots Q ρ cA dC dI A Rz' nL pc lv st X) : xVY p l e R s m args below meth c cells slots Q ρ cA dC dI A Rz nL pc lv st X := x_memY (fun q hq => h.subset hq) (fun hn => (h.map Prod.fst).nodup_iff.mpr hn) kk
theorem x_eqY (h : Rz = Rz') (kk : xVY p l e R s m args below meth c cells slots Q ρ cA dC dI A Rz' nL pc lv st X) : xVY p l e R s m args below meth c cells slots Q ρ cA dC dI A Rz nL pc lv st X := by rw [h]; exact kk
end XV
def xBY (ρ : bsR) (cA : Nat → ClassId) (dC : Nat → ClassId) (dI : Nat → Nat → Nat) (A : Nat → Prop) (u : bsX × va_W) (t : State) : Prop := va_P (dC, dI) vwCl (bsWsY ρ cA u.1 u.2) t.heap ∧ va_D A (bsWsY ρ cA u.1 u.2)
def xQiY (ρ : bsR) (cA : Nat → ClassId) (dC : Nat → ClassId) (dI : Nat → Nat → Nat) (A : Nat → Prop) (P : Int32 → bsX → va_W → Prop) : Array Value → State → Outcome → State → Prop := va_Qi (fun (r : Int32) (u : bsX × va_W) => P r u.1 u.2) (fun u t => xBY ρ cA dC dI A u t) A
def xQvY (ρ : bsR) (cA : Nat → ClassId) (dC : Nat → ClassId) (dI : Nat → Nat → Nat) (A : Nat → Prop) (P : bsX → va_W → Prop) : Array Value → State → Outcome → State → Prop := va_Qv (fun (u : bsX × va_W) => P u.1 u.2) (fun u t => xBY ρ cA dC dI A u t) A
def xQrY (ρ : bsR) (cA : Nat → ClassId) (dC : Nat → ClassId) (dI : Nat → Nat → Nat) (A : Nat → Prop) (P : Nat → bsX → va_W → Prop) : Array Value → State → Outcome → State → Prop := va_Qr (fun (_ : bsX × va_W) => True) (fun u a t => P a u.1 u.2 ∧ xBY ρ cA dC dI A u t) A
def xMiY (l : Launch) (y : MethodName) (b : ByteArray) (nL : Nat) (ret : Option FieldType) (rm : Room) (ρ : bsR) (sc L : Nat) (xs : Nat → Int32) (cA : Nat → ClassId) (dC : Nat → ClassId) (dI : Nat → Nat → Nat) (As : List Value) (X : bsX) (Rz : va_W) (P : Int32 → bsX → va_W → Prop) : Prop :=
  ∀ sz : Nat, Met l y (Cond.code y b nL ret :: bsG) rm (va_Pc As (fun U => U.heap.size = sz ∧ xWpY ρ sc L xs cA dC dI Rz X U)) (xQiY ρ cA dC dI (bsAY ρ cA Rz sz) P) rm.cells rm.slots (bsAY ρ cA Rz sz)
theorem xMi_ofY {l : Launch} {y : MethodName} {b : ByteArray} {nL : Nat} {ret : Option FieldType} {rm : Room} {ρ : bsR} {sc L : Nat} {xs : Nat → Int32} {cA : Nat → ClassId} {dC : Nat → ClassId} {dI : Nat → Nat → Nat} {As : List Value} {X : bsX} {Rz : va_W} {P : Int32 → bsX → va_W → Prop} (hy : plainName y.cls = true) (hlen : (lg_sl As).length ≤ nL)
    (body : ∀ (p : Program) (e : Env) (s : State) (m : MethodId) (args : Array Value) (below : List Frame) (meth : Method) (c : Code), xCx p m c b nL s args (Cond.code y b nL ret :: bsG) y.cls ρ sc L xs cA dC dI (bsAY ρ cA Rz s.heap.size) meth ret →
      xVY p l e rm s m args below meth c 0 0 (MQ below (xQiY ρ cA dC dI (bsAY ρ cA Rz s.heap.size) P) args s rm.cells rm.slots (bsAY ρ cA Rz s.heap.size)) ρ cA dC dI (bsAY ρ cA Rz s.heap.size) Rz nL 0 (lv_args 0 As) [] X) : xMiY l y b nL ret rm ρ sc L xs cA dC dI As X Rz P := by
  intro sz
  refine Met.ofW (cc := b) (maxL := nL) (ret := ret) hy rfl ?_
  intro p e s m args below meth c s₁ B hml hv
  obtain ⟨rfl, hsz, ⟨hP, hK, hD0, hN, hE⟩, hE2⟩ := hv
  subst hsz
  have hts := atoms_spec (ws := Cond.code y b nL ret :: bsG) B.pre
  have hown : s.vm.findClass y.cls = some m.cls := findClass_of_methodNamed B.named
  have hl := lv_entry As hlen
  rw [lg_entry_eq]
  exact body p e s m _ below meth c ⟨⟨B.exec, B.bytes, hml, hown, hts⟩, hK, fun w h => List.mem_cons_of_mem _ h, ⟨hN, hE, hE2⟩, B.notSynchronized, B.returns, fun q hq => bsA_leY hq⟩ _ _ _ hl hP (bsD_selfY _ hD0) va_S.rf
def xMvY (l : Launch) (y : MethodName) (b : ByteArray) (nL : Nat) (ret : Option FieldType) (rm : Room) (ρ : bsR) (sc L : Nat) (xs : Nat → Int32) (cA : Nat → ClassId) (dC : Nat → ClassId) (dI : Nat → Nat → Nat) (As : List Value) (X : bsX) (Rz : va_W) (P : bsX → va_W → Prop) : Prop :=
  ∀ sz : Nat, Met l y (Cond.code y b nL ret :: bsG) rm (va_Pc As (fun U => U.heap.size = sz ∧ xWpY ρ sc L xs cA dC dI Rz X U)) (xQvY ρ cA dC dI (bsAY ρ cA Rz sz) P) rm.cells rm.slots (bsAY ρ cA Rz sz)
theorem xMv_ofY {l : Launch} {y : MethodName} {b : ByteArray} {nL : Nat} {ret : Option FieldType} {rm : Room} {ρ : bsR} {sc L : Nat} {xs : Nat → Int32} {cA : Nat → ClassId} {dC : Nat → ClassId} {dI : Nat → Nat → Nat} {As : List Value} {X : bsX} {Rz : va_W} {P : bsX → va_W → Prop} (hy : plainName y.cls = true) (hlen : (lg_sl As).length ≤ nL)
    (body : ∀ (p : Program) (e : Env) (s : State) (m : MethodId) (args : Array Value) (below : List Frame) (meth : Method) (c : Code), xCx p m c b nL s args (Cond.code y b nL ret :: bsG) y.cls ρ sc L xs cA dC dI (bsAY ρ cA Rz s.heap.size) meth ret →
      xVY p l e rm s m args below meth c 0 0 (MQ below (xQvY ρ cA dC dI (bsAY ρ cA Rz s.heap.size) P) args s rm.cells rm.slots (bsAY ρ cA Rz s.heap.size)) ρ cA dC dI (bsAY ρ cA Rz s.heap.size) Rz nL 0 (lv_args 0 As) [] X) : xMvY l y b nL ret rm ρ sc L xs cA dC dI As X Rz P := by
  intro sz
  refine Met.ofW (cc := b) (maxL := nL) (ret := ret) hy rfl ?_
  intro p e s m args below meth c s₁ B hml hv
  obtain ⟨rfl, hsz, ⟨hP, hK, hD0, hN, hE⟩, hE2⟩ := hv
  subst hsz
  have hts := atoms_spec (ws := Cond.code y b nL ret :: bsG) B.pre
  have hown : s.vm.findClass y.cls = some m.cls := findClass_of_methodNamed B.named
  have hl := lv_entry As hlen
  rw [lg_entry_eq]
  exact body p e s m _ below meth c ⟨⟨B.exec, B.bytes, hml, hown, hts⟩, hK, fun w h => List.mem_cons_of_mem _ h, ⟨hN, hE, hE2⟩, B.notSynchronized, B.returns, fun q hq => bsA_leY hq⟩ _ _ _ hl hP (bsD_selfY _ hD0) va_S.rf
def xMrY (l : Launch) (y : MethodName) (b : ByteArray) (nL : Nat) (ret : Option FieldType) (rm : Room) (ρ : bsR) (sc L : Nat) (xs : Nat → Int32) (cA : Nat → ClassId) (dC : Nat → ClassId) (dI : Nat → Nat → Nat) (As : List Value) (X : bsX) (Rz : va_W) (P : Nat → bsX → va_W → Prop) : Prop :=
  ∀ sz : Nat, Met l y (Cond.code y b nL ret :: bsG) rm (va_Pc As (fun U => U.heap.size = sz ∧ xWpY ρ sc L xs cA dC dI Rz X U)) (xQrY ρ cA dC dI (bsAY ρ cA Rz sz) P) rm.cells rm.slots (bsAY ρ cA Rz sz)
theorem xMr_ofY {l : Launch} {y : MethodName} {b : ByteArray} {nL : Nat} {ret : Option FieldType} {rm : Room} {ρ : bsR} {sc L : Nat} {xs : Nat → Int32} {cA : Nat → ClassId} {dC : Nat → ClassId} {dI : Nat → Nat → Nat} {As : List Value} {X : bsX} {Rz : va_W} {P : Nat → bsX → va_W → Prop} (hy : plainName y.cls = true) (hlen : (lg_sl As).length ≤ nL)
    (body : ∀ (p : Program) (e : Env) (s : State) (m : MethodId) (args : Array Value) (below : List Frame) (meth : Method) (c : Code), xCx p m c b nL s args (Cond.code y b nL ret :: bsG) y.cls ρ sc L xs cA dC dI (bsAY ρ cA Rz s.heap.size) meth ret →
      xVY p l e rm s m args below meth c 0 0 (MQ below (xQrY ρ cA dC dI (bsAY ρ cA Rz s.heap.size) P) args s rm.cells rm.slots (bsAY ρ cA Rz s.heap.size)) ρ cA dC dI (bsAY ρ cA Rz s.heap.size) Rz nL 0 (lv_args 0 As) [] X) : xMrY l y b nL ret rm ρ sc L xs cA dC dI As X Rz P := by
  intro sz
  refine Met.ofW (cc := b) (maxL := nL) (ret := ret) hy rfl ?_
  intro p e s m args below meth c s₁ B hml hv
  obtain ⟨rfl, hsz, ⟨hP, hK, hD0, hN, hE⟩, hE2⟩ := hv
  subst hsz
  have hts := atoms_spec (ws := Cond.code y b nL ret :: bsG) B.pre
  have hown : s.vm.findClass y.cls = some m.cls := findClass_of_methodNamed B.named
  have hl := lv_entry As hlen
  rw [lg_entry_eq]
  exact body p e s m _ below meth c ⟨⟨B.exec, B.bytes, hml, hown, hts⟩, hK, fun w h => List.mem_cons_of_mem _ h, ⟨hN, hE, hE2⟩, B.notSynchronized, B.returns, fun q hq => bsA_leY hq⟩ _ _ _ hl hP (bsD_selfY _ hD0) va_S.rf
section XC
variable {p : Program} {l : Launch} {e : Env} {R : Room} {s : State} {m : MethodId} {args : Array Value} {below : List Frame} {meth : Method} {c : Code} {cells slots : Nat} {Q : State → Prop} {ρ : bsR} {sc L : Nat} {xs : Nat → Int32} {cA : Nat → ClassId} {dC : Nat → ClassId} {dI : Nat → Nat → Nat} {A : Nat → Prop} {Rz Rz' : va_W} {nL : Nat} {cc : ByteArray} {Ts : List Cond} {own : String} {ret : Option FieldType} {pc : Nat} {lv : List (Nat × Value)} {st : List Value} {X : bsX} {mc ms : Nat}
theorem x_iretY (C : xCx p m c cc nL s args Ts own ρ sc L xs cA dC dI A meth (some .int)) {v : Int32} {P : Int32 → bsX → va_W → Prop} (hz : P v X Rz) (h1 : cells ≤ mc) (h2 : slots ≤ ms) (hd : decode cc pc = .ok (.ireturn, 1)) : xVY p l e R s m args below meth c cells slots (MQ below (xQiY ρ cA dC dI A P) args s mc ms A) ρ cA dC dI A Rz nL pc lv [.int v] X := by
  intro ls H locs hl hP hD hS
  exact W.widen h1 h2 (W.iret (v := v) C.1.1 C.1.2.1 C.2.2.2.2.2.1 (fun t ht hW => ⟨⟨v, (X, Rz), rfl, hz, by rw [ht]; exact hP, hD⟩, hS.F ht⟩) hS.2.2 hd C.2.2.2.2.1)
theorem x_xretY {ty : FieldType} (C : xCx p m c cc nL s args Ts own ρ sc L xs cA dC dI A meth (some ty)) {v : Int32} {P : Int32 → bsX → va_W → Prop} (hb : narrow ty (.int v) = .int v) (hz : P v X Rz) (h1 : cells ≤ mc) (h2 : slots ≤ ms) (hd : decode cc pc = .ok (.ireturn, 1)) : xVY p l e R s m args below meth c cells slots (MQ below (xQiY ρ cA dC dI A P) args s mc ms A) ρ cA dC dI A Rz nL pc lv [.int v] X := by
  intro ls H locs hl hP hD hS
  exact W.widen h1 h2 (W.zret (v := v) C.1.1 C.1.2.1 C.2.2.2.2.2.1 hb (fun t ht hW => ⟨⟨v, (X, Rz), rfl, hz, by rw [ht]; exact hP, hD⟩, hS.F ht⟩) hS.2.2 hd C.2.2.2.2.1)
theorem x_vretY (C : xCx p m c cc nL s args Ts own ρ sc L xs cA dC dI A meth none) {P : bsX → va_W → Prop} (hz : P X Rz) (h1 : cells ≤ mc) (h2 : slots ≤ ms) (hd : decode cc pc = .ok (.return_, 1)) : xVY p l e R s m args below meth c cells slots (MQ below (xQvY ρ cA dC dI A P) args s mc ms A) ρ cA dC dI A Rz nL pc lv [] X := by
  intro ls H locs hl hP hD hS
  exact W.widen h1 h2 (W.vret C.1.1 C.1.2.1 C.2.2.2.2.2.1 (fun t ht hW => ⟨⟨(X, Rz), rfl, hz, by rw [ht]; exact hP, hD⟩, hS.F ht⟩) hS.2.2 hd C.2.2.2.2.1)
theorem x_aretY {rt : FieldType} (C : xCx p m c cc nL s args Ts own ρ sc L xs cA dC dI A meth (some rt)) (hrt : (∃ n, rt = .object n) ∨ ∃ t, rt = .array t) {a : Nat} {P : Nat → bsX → va_W → Prop} (hz : P a X Rz) (h1 : cells ≤ mc) (h2 : slots ≤ ms) (hd : decode cc pc = .ok (.areturn, 1)) : xVY p l e R s m args below meth c cells slots (MQ below (xQrY ρ cA dC dI A P) args s mc ms A) ρ cA dC dI A Rz nL pc lv [.ref a] X := by
  intro ls H locs hl hP hD hS
  exact W.widen h1 h2 (W.aret (v := .ref a) C.1.1 C.1.2.1 C.2.2.2.2.2.1 hrt (Or.inr ⟨a, rfl⟩) (fun t ht hW => ⟨⟨(X, Rz), a, rfl, trivial, hz, by rw [ht]; exact hP, hD⟩, hS.F ht⟩) hS.2.2 hd C.2.2.2.2.1)
theorem xA_subY {H : Heap} {locs : List Loc} (C : xCx p m c cc nL s args Ts own ρ sc L xs cA dC dI A meth ret) (hD : va_D A (bsWsY ρ cA X Rz)) (hS : va_S A s.heap H locs) : ∀ q, bsAY ρ cA Rz H.size q → A q := by
  intro q h
  rcases h with ⟨k, e9, h⟩ | h
  · obtain ⟨e2, h2⟩ := bs_ad_at (bsWs_adY ρ cA (fun _ _ _ _ => 0) X Rz) h
    exact hD.2 k _ h2
  · exact C.2.2.2.2.2.2 q (Nat.le_trans hS.1 h)
theorem x_blindY {av : List Value} {sz : Nat} : FrameBlind (va_Pc av (fun U => U.heap.size = sz ∧ xWpY ρ sc L xs cA dC dI Rz X U)) := fun a U g mk q => by
  obtain ⟨q0, q1, q2, q3⟩ := q
  have hb := bs_blindY (av := av) (sz := sz) a U g mk ⟨q0, q1, q2⟩
  exact ⟨q0, q1, hb.2.2, q3.go (U := U.calling g mk a) (State.WarmedH.refl U) (fun _ _ _ => rfl) (fun _ h => h)⟩
theorem x_preY {As : List Value} {H : Heap} {locs : List Loc} (C : xCx p m c cc nL s args Ts own ρ sc L xs cA dC dI A meth ret) (hP : va_P (dC, dI) vwCl (bsWsY ρ cA X Rz) H) (hD : va_D A (bsWsY ρ cA X Rz)) (hS : va_S A s.heap H locs) : PreS s H (va_Pc As (fun U => U.heap.size = H.size ∧ xWpY ρ sc L xs cA dC dI Rz X U)) As :=
  ⟨x_blindY, fun U hU hW => ⟨rfl, by rw [hU], ⟨by rw [hU]; exact hP, va_K.moved hW.alike C.2.1, hD.weaken (fun _ _ _ _ => trivial), bsNw.warm hW C.2.2.2.1.1, bsEx.go C.2.2.2.1.2.1 hW (by rw [hU]; exact hS.2.1) (by rw [hU]; exact xA_subY C hD hS)⟩, C.2.2.2.1.2.2.go hW (by rw [hU]; exact hS.2.1) (by rw [hU]; exact xA_subY C hD hS)⟩⟩
theorem x_preBY {As : List Value} {H : Heap} {locs : List Loc} (C : xCx p m c cc nL s args Ts own ρ sc L xs cA dC dI A meth ret) (hP : va_P (dC, dI) vwCl (bsWsY ρ cA X Rz) H) (hD : va_D A (bsWsY ρ cA X Rz)) (hS : va_S A s.heap H locs) : PreS s H (va_Pc As (fun U => U.heap.size = H.size ∧ bsWpY ρ cA dC dI Rz X U)) As :=
  ⟨bs_blindY, fun U hU hW => ⟨rfl, by rw [hU], by rw [hU]; exact hP, va_K.moved hW.alike C.2.1, hD.weaken (fun _ _ _ _ => trivial), bsNw.warm hW C.2.2.2.1.1, bsEx.go C.2.2.2.1.2.1 hW (by rw [hU]; exact hS.2.1) (by rw [hU]; exact xA_subY C hD hS)⟩⟩
theorem x_backY {H1 : Heap} {locs : List Loc} {t : State} {u : bsX × va_W} {Q2 : State → Prop} {pc2 : Nat} {st2 : List Value} {ls : Array Slot} {A1 : Nat → Prop} (hl : lv_has ls nL lv) (ht : t.heap = H1) (hB : xBY ρ cA dC dI A1 u t) (hA : ∀ q, A1 q → A q) (hS : va_S A s.heap H1 locs) (kk : xVY p l e R s m args below meth c cells slots Q2 ρ cA dC dI A u.2 nL pc2 lv st2 u.1) : W p l e R s m args below meth c H1 locs cells slots Q2 (F0 m pc2 ls st2) := by
  obtain ⟨hP1, hD1⟩ := hB
  rw [ht] at hP1
  exact kk ls H1 locs hl hP1 (hD1.weaken (fun _ _ _ h => hA _ h)) hS
theorem x_callViY (C : xCx p m c cc nL s args Ts own ρ sc L xs cA dC dI A meth ret) {y : MethodName} {b : ByteArray} {nL' index : Nat} {ret' : Option FieldType} {rm' : Room} {As rest : List Value} {q0 a ci N : Nat} {fs : List Value} {T : u_T} {P : Int32 → bsX → va_W → Prop} (hM : xMiY l y b nL' ret' rm' ρ sc L xs cA dC dI (.ref a :: As) X Rz P) (hl0 : Cond.methodLink own index y ∈ bsG) (hw : bsWy y b nL' ret') (he : Rz[q0]? = some (a, .inr (ci, fs))) (hci : vwCl[ci]? = some (y.cls, T, N)) (hde : (parseMethodDescriptor y.desc).map (fun d => d.parameters.length) = some As.length)
    (hR : rm'.frames + 1 ≤ R.frames ∧ 8 + (nL' + 11) + rm'.locals ≤ R.locals) (hcs : cells + rm'.cells ≤ R.cells ∧ slots + rm'.slots ≤ R.slots) (hst : st = As.reverse ++ .ref a :: rest) (hW : (rest.map fun v => v.category).sum ≤ 8) (hd : decode cc pc = .ok (.invokevirtual index, 3))
    (kk : ∀ (r : Int32) (X' : bsX) (Rz' : va_W), P r X' Rz' → xVY p l e R s m args below meth c (cells + rm'.cells) (slots + rm'.slots) Q ρ cA dC dI A Rz' nL (pc + 3) lv (.int r :: rest) X') : xVY p l e R s m args below meth c cells slots Q ρ cA dC dI A Rz nL pc lv st X := by
  intro ls H locs hl hP hD hS
  have hpre := x_preY (As := .ref a :: As) C hP hD hS
  exact va_calli (va_runV (As := As) (rest := rest) C.1 (hM H.size) (cwV As.length C.1.2.2.2.2 (bs_goodV C.2.2.1 hl0 hw) rfl rfl rfl ⟨rfl, hw.2.2.2.2.1, hw.2.2.2.2.2, hde⟩ hR) ⟨hpre.1, va_recv C.2.1 hP hci ((xW_atY q0).trans he), hpre.2⟩ rfl rfl hl.1 hst (lv_room hW) hd hcs) hS (fun q _ h => xA_subY C hD hS q h) (fun q h => xA_subY C hD hS q h) (fun r u t H1 locs1 ht hvm hr hB hz1 hk1 hS1 => x_backY hl ht hB (xA_subY C hD hS) hS1 (kk r u.1 u.2 hr))
theorem x_callSiY (C : xCx p m c cc nL s args Ts own ρ sc L xs cA dC dI A meth ret) {y : MethodName} {b : ByteArray} {nL' index : Nat} {ret' : Option FieldType} {rm' : Room} {As rest : List Value} {P : Int32 → bsX → va_W → Prop} (hM : xMiY l y b nL' ret' rm' ρ sc L xs cA dC dI As X Rz P) (hl0 : Cond.methodLink own index y ∈ bsG) (hw : bsWz y b nL' ret') (hde : (parseMethodDescriptor y.desc).map (fun d => d.parameters.length) = some As.length)
    (hR : rm'.frames + 1 ≤ R.frames ∧ 8 + (nL' + 11) + rm'.locals ≤ R.locals) (hcs : cells + rm'.cells ≤ R.cells ∧ slots + rm'.slots ≤ R.slots) (hst : st = As.reverse ++ rest) (hW : (rest.map fun v => v.category).sum ≤ 8) (hd : decode cc pc = .ok (.invokestatic index, 3))
    (kk : ∀ (r : Int32) (X' : bsX) (Rz' : va_W), P r X' Rz' → xVY p l e R s m args below meth c (cells + rm'.cells) (slots + rm'.slots) Q ρ cA dC dI A Rz' nL (pc + 3) lv (.int r :: rest) X') : xVY p l e R s m args below meth c cells slots Q ρ cA dC dI A Rz nL pc lv st X := by
  intro ls H locs hl hP hD hS
  exact va_calli (va_runS (As := As) (rest := rest) C.1 (hM H.size) ⟨callB_of As.length C.1.2.2.2.2 (bs_goodC C.2.2.1 hw.2.2.1) rfl rfl rfl (C.1.2.2.2.2 _ (C.2.2.1 _ hw.2.1)) (C.1.2.2.2.2 _ (C.2.2.1 _ hl0)) ⟨hw.2.2.2.1, hw.2.2.2.2, hde⟩ hR, C.1.2.2.2.2 _ (C.2.2.1 _ hw.1)⟩ (x_preY C hP hD hS) rfl rfl hl.1 hst (lv_room hW) hd hcs) hS (fun q _ h => xA_subY C hD hS q h) (fun q h => xA_subY C hD hS q h) (fun r u t H1 locs1 ht hvm hr hB hz1 hk1 hS1 => x_backY hl ht hB (xA_subY C hD hS) hS1 (kk r u.1 u.2 hr))
theorem x_callVrY (C : xCx p m c cc nL s args Ts own ρ sc L xs cA dC dI A meth ret) {y : MethodName} {b : ByteArray} {nL' index : Nat} {ret' : Option FieldType} {rm' : Room} {As rest : List Value} {q0 a ci N : Nat} {fs : List Value} {T : u_T} {P : Nat → bsX → va_W → Prop} (hM : xMrY l y b nL' ret' rm' ρ sc L xs cA dC dI (.ref a :: As) X Rz P) (hl0 : Cond.methodLink own index y ∈ bsG) (hw : bsWy y b nL' ret') (he : Rz[q0]? = some (a, .inr (ci, fs))) (hci : vwCl[ci]? = some (y.cls, T, N)) (hde : (parseMethodDescriptor y.desc).map (fun d => d.parameters.length) = some As.length)
    (hR : rm'.frames + 1 ≤ R.frames ∧ 8 + (nL' + 11) + rm'.locals ≤ R.locals) (hcs : cells + rm'.cells ≤ R.cells ∧ slots + rm'.slots ≤ R.slots) (hst : st = As.reverse ++ .ref a :: rest) (hW : (rest.map fun v => v.category).sum ≤ 8) (hd : decode cc pc = .ok (.invokevirtual index, 3))
    (kk : ∀ (r : Nat) (X' : bsX) (Rz' : va_W), P r X' Rz' → xVY p l e R s m args below meth c (cells + rm'.cells) (slots + rm'.slots) Q ρ cA dC dI A Rz' nL (pc + 3) lv (.ref r :: rest) X') : xVY p l e R s m args below meth c cells slots Q ρ cA dC dI A Rz nL pc lv st X := by
  intro ls H locs hl hP hD hS
  have hpre := x_preY (As := .ref a :: As) C hP hD hS
  exact va_callr (va_runV (As := As) (rest := rest) C.1 (hM H.size) (cwV As.length C.1.2.2.2.2 (bs_goodV C.2.2.1 hl0 hw) rfl rfl rfl ⟨rfl, hw.2.2.2.2.1, hw.2.2.2.2.2, hde⟩ hR) ⟨hpre.1, va_recv C.2.1 hP hci ((xW_atY q0).trans he), hpre.2⟩ rfl rfl hl.1 hst (lv_room hW) hd hcs) hS (fun q _ h => xA_subY C hD hS q h) (fun q h => xA_subY C hD hS q h) (fun u ra t H1 locs1 ht hvm hr hB hz1 hk1 hS1 => x_backY hl ht hB.2 (xA_subY C hD hS) hS1 (kk ra u.1 u.2 hB.1))
theorem x_callSrY (C : xCx p m c cc nL s args Ts own ρ sc L xs cA dC dI A meth ret) {y : MethodName} {b : ByteArray} {nL' index : Nat} {ret' : Option FieldType} {rm' : Room} {As rest : List Value} {P : Nat → bsX → va_W → Prop} (hM : xMrY l y b nL' ret' rm' ρ sc L xs cA dC dI As X Rz P) (hl0 : Cond.methodLink own index y ∈ bsG) (hw : bsWz y b nL' ret') (hde : (parseMethodDescriptor y.desc).map (fun d => d.parameters.length) = some As.length)
    (hR : rm'.frames + 1 ≤ R.frames ∧ 8 + (nL' + 11) + rm'.locals ≤ R.locals) (hcs : cells + rm'.cells ≤ R.cells ∧ slots + rm'.slots ≤ R.slots) (hst : st = As.reverse ++ rest) (hW : (rest.map fun v => v.category).sum ≤ 8) (hd : decode cc pc = .ok (.invokestatic index, 3))
    (kk : ∀ (r : Nat) (X' : bsX) (Rz' : va_W), P r X' Rz' → xVY p l e R s m args below meth c (cells + rm'.cells) (slots + rm'.slots) Q ρ cA dC dI A Rz' nL (pc + 3) lv (.ref r :: rest) X') : xVY p l e R s m args below meth c cells slots Q ρ cA dC dI A Rz nL pc lv st X := by
  intro ls H locs hl hP hD hS
  exact va_callr (va_runS (As := As) (rest := rest) C.1 (hM H.size) ⟨callB_of As.length C.1.2.2.2.2 (bs_goodC C.2.2.1 hw.2.2.1) rfl rfl rfl (C.1.2.2.2.2 _ (C.2.2.1 _ hw.2.1)) (C.1.2.2.2.2 _ (C.2.2.1 _ hl0)) ⟨hw.2.2.2.1, hw.2.2.2.2, hde⟩ hR, C.1.2.2.2.2 _ (C.2.2.1 _ hw.1)⟩ (x_preY C hP hD hS) rfl rfl hl.1 hst (lv_room hW) hd hcs) hS (fun q _ h => xA_subY C hD hS q h) (fun q h => xA_subY C hD hS q h) (fun u ra t H1 locs1 ht hvm hr hB hz1 hk1 hS1 => x_backY hl ht hB.2 (xA_subY C hD hS) hS1 (kk ra u.1 u.2 hB.1))
theorem x_callIY (C : xCx p m c cc nL s args Ts own ρ sc L xs cA dC dI A meth ret) {y : MethodName} {b : ByteArray} {nL' index : Nat} {rm' : Room} {As rest : List Value} {a : Nat} {P : bsX → va_W → Prop} (hM : xMvY l y b nL' none rm' ρ sc L xs cA dC dI (.ref a :: As) X Rz P) (hl0 : Cond.methodLink own index y ∈ bsG) (hw : xWi y b nL') (hde : (parseMethodDescriptor y.desc).map (fun d => d.parameters.length) = some As.length)
    (hR : rm'.frames + 1 ≤ R.frames ∧ 8 + (nL' + 11) + rm'.locals ≤ R.locals) (hcs : cells + rm'.cells ≤ R.cells ∧ slots + rm'.slots ≤ R.slots) (hst : st = As.reverse ++ .ref a :: rest) (hW : (rest.map fun v => v.category).sum ≤ 8) (hd : decode cc pc = .ok (.invokespecial index, 3))
    (kk : ∀ (X' : bsX) (Rz' : va_W), P X' Rz' → xVY p l e R s m args below meth c (cells + rm'.cells) (slots + rm'.slots) Q ρ cA dC dI A Rz' nL (pc + 3) lv rest X') : xVY p l e R s m args below meth c cells slots Q ρ cA dC dI A Rz nL pc lv st X := by
  intro ls H locs hl hP hD hS
  exact va_callv (va_runI (As := As) (rest := rest) C.1 (hM H.size) (cwI As.length C.1.2.2.2.2 (bs_goodC C.2.2.1 hw.2.2.1) rfl rfl rfl (C.1.2.2.2.2 _ (C.2.2.1 _ hw.2.1)) (C.1.2.2.2.2 _ (C.2.2.1 _ hl0)) (C.1.2.2.2.2 _ (C.2.2.1 _ hw.1)) hw.2.2.2.2 ⟨hw.2.2.2.1.1, hw.2.2.2.1.2, hde⟩ hR) (x_preY (As := .ref a :: As) C hP hD hS) rfl rfl hl.1 hst (lv_room hW) hd hcs) hS (fun q _ h => xA_subY C hD hS q h) (fun q h => xA_subY C hD hS q h) (fun u t H1 locs1 ht hvm hr hB hz1 hk1 hS1 => x_backY hl ht hB (xA_subY C hD hS) hS1 (kk u.1 u.2 hr))
theorem x_callINY (C : xCx p m c cc nL s args Ts own ρ sc L xs cA dC dI A meth ret) {y : MethodName} {b : ByteArray} {nL' index : Nat} {rm' : Room} {As rest : List Value} {a : Nat} {host : String} {P : bsX → va_W → Prop} (hM : xMvY l y b nL' none rm' ρ sc L xs cA dC dI (.ref a :: As) X Rz P) (hl0 : (own, index, y, host) ∈ xLk) (hw : xWi y b nL') (hde : (parseMethodDescriptor y.desc).map (fun d => d.parameters.length) = some As.length)
    (hR : rm'.frames + 1 ≤ R.frames ∧ 8 + (nL' + 11) + rm'.locals ≤ R.locals) (hcs : cells + rm'.cells ≤ R.cells ∧ slots + rm'.slots ≤ R.slots) (hst : st = As.reverse ++ .ref a :: rest) (hW : (rest.map fun v => v.category).sum ≤ 8) (hd : decode cc pc = .ok (.invokespecial index, 3))
    (kk : ∀ (X' : bsX) (Rz' : va_W), P X' Rz' → xVY p l e R s m args below meth c (cells + rm'.cells) (slots + rm'.slots) Q ρ cA dC dI A Rz' nL (pc + 3) lv rest X') : xVY p l e R s m args below meth c cells slots Q ρ cA dC dI A Rz nL pc lv st X := by
  intro ls H locs hl hP hD hS
  exact va_callv (va_runIN (As := As) (rest := rest) C.1 (hM H.size) ⟨va_cnB As.length C.1.2.2.2.2 (bs_goodC C.2.2.1 hw.2.2.1) rfl rfl rfl (C.2.2.2.1.2.2.2.2.1 _ hl0) (C.1.2.2.2.2 _ (C.2.2.1 _ hw.2.1)) ⟨hw.2.2.2.1.1, hw.2.2.2.1.2, hde⟩ hR, hw.2.2.2.2, C.1.2.2.2.2 _ (C.2.2.1 _ hw.1)⟩ (x_preY (As := .ref a :: As) C hP hD hS) rfl rfl hl.1 hst (lv_room hW) hd hcs) hS (fun q _ h => xA_subY C hD hS q h) (fun q h => xA_subY C hD hS q h) (fun u t H1 locs1 ht hvm hr hB hz1 hk1 hS1 => x_backY hl ht hB (xA_subY C hD hS) hS1 (kk u.1 u.2 hr))
theorem x_backBY {X' : bsX} {H1 : Heap} {locs : List Loc} {t : State} {Q2 : State → Prop} {pc2 : Nat} {st2 : List Value} {ls : Array Slot} (hl : lv_has ls nL lv) (ht : t.heap = H1) (hB : bsWpY ρ cA dC dI Rz X' t) (hD : va_D A (bsWsY ρ cA X Rz)) (hS : va_S A s.heap H1 locs) (kk : xVY p l e R s m args below meth c cells slots Q2 ρ cA dC dI A Rz nL pc2 lv st2 X') : W p l e R s m args below meth c H1 locs cells slots Q2 (F0 m pc2 ls st2) := by
  have hP1 := hB.1
  rw [ht] at hP1
  exact kk ls H1 locs hl hP1 (bsD_of (bsWs_adY ρ cA X X' Rz) hD) hS
end XC
section XF
variable {p : Program} {l : Launch} {e : Env} {R : Room} {s : State} {m : MethodId} {args : Array Value} {below : List Frame} {meth : Method} {c : Code} {cells slots : Nat} {Q : State → Prop} {ρ : bsR} {sc L : Nat} {xs : Nat → Int32} {cA : Nat → ClassId} {dC : Nat → ClassId} {dI : Nat → Nat → Nat} {A : Nat → Prop} {Rz Rz' : va_W} {nL : Nat} {cc : ByteArray} {Ts : List Cond} {own : String} {ret : Option FieldType} {pc : Nat} {lv : List (Nat × Value)} {st : List Value} {X : bsX} {σ θ : xA2} {Z : pY} {F : va_W}
theorem xg_X11_60Y (C : xCx p m c cc nL s args Ts RX11 ρ sc L xs cA dC dI A meth ret) (hd : decode cc pc = .ok (.getfield 60, 3)) (kk : xVY p l e R s m args below meth c cells slots Q ρ cA dC dI A (lwWs σ θ cA Z ++ F) nL (pc + 3) lv (.ref (σ 9 0) :: st) X) : xVY p l e R s m args below meth c cells slots Q ρ cA dC dI A (lwWs σ θ cA Z ++ F) nL pc lv (.ref (σ 0 0) :: st) X := by
  obtain ⟨q0, -, he⟩ := lw_at (σ := σ) (θ := θ) (cA := cA) (Z := Z) (K := 0) (j := 0) (lwK_mem.mpr (Or.inl ⟨by decide, rfl⟩)) F
  exact x_getY C (N := 15) (k := 0) (T := TX11) (Cn := RX11) (ref := "BootSlotsLaw$World") (fs := (lwF0 σ θ Z)) he rfl bsin_X11 (by decide) (bsG_in 722 (by decide +kernel) rfl) rfl rfl hd kk
theorem xg_X11_66Y (C : xCx p m c cc nL s args Ts RX11 ρ sc L xs cA dC dI A meth ret) (hd : decode cc pc = .ok (.getfield 66, 3)) (kk : xVY p l e R s m args below meth c cells slots Q ρ cA dC dI A (lwWs σ θ cA Z ++ F) nL (pc + 3) lv (.ref (σ 2 0) :: st) X) : xVY p l e R s m args below meth c cells slots Q ρ cA dC dI A (lwWs σ θ cA Z ++ F) nL pc lv (.ref (σ 0 0) :: st) X := by
  obtain ⟨q0, -, he⟩ := lw_at (σ := σ) (θ := θ) (cA := cA) (Z := Z) (K := 0) (j := 0) (lwK_mem.mpr (Or.inl ⟨by decide, rfl⟩)) F
  exact x_getY C (N := 15) (k := 10) (T := TX11) (Cn := RX11) (ref := "BootSlotsLaw$World") (fs := (lwF0 σ θ Z)) he rfl bsin_X11 (by decide) (bsG_in 742 (by decide +kernel) rfl) rfl rfl hd kk
theorem xg_X11_76Y (C : xCx p m c cc nL s args Ts RX11 ρ sc L xs cA dC dI A meth ret) {j : Nat} (hj : j < ln Z) (hd : decode cc pc = .ok (.getfield 76, 3)) (kk : xVY p l e R s m args below meth c cells slots Q ρ cA dC dI A (lwWs σ θ cA Z ++ F) nL (pc + 3) lv (.ref (θ 6 j) :: st) X) : xVY p l e R s m args below meth c cells slots Q ρ cA dC dI A (lwWs σ θ cA Z ++ F) nL pc lv (.ref (σ 5 j) :: st) X := by
  obtain ⟨q0, -, he⟩ := lw_at (σ := σ) (θ := θ) (cA := cA) (Z := Z) (K := 5) (j := j) (lwK_mem.mpr (Or.inr (Or.inl ⟨rfl, hj⟩))) F
  exact x_getNY C (N := 8) (k := 0) (T := TX10) (Cn := RX10) (ref := "BootSlotsLaw$Place") (host := "BootSlotsLaw") (fs := (lwF5 θ Z j)) he rfl bsin_X10 (by decide) (by decide +kernel) rfl rfl hd kk
theorem xg_X11_79Y (C : xCx p m c cc nL s args Ts RX11 ρ sc L xs cA dC dI A meth ret) {j : Nat} (hj : j < ln Z) (hd : decode cc pc = .ok (.getfield 79, 3)) (kk : xVY p l e R s m args below meth c cells slots Q ρ cA dC dI A (lwWs σ θ cA Z ++ F) nL (pc + 3) lv (.int (Z 5 j 2) :: st) X) : xVY p l e R s m args below meth c cells slots Q ρ cA dC dI A (lwWs σ θ cA Z ++ F) nL pc lv (.ref (σ 5 j) :: st) X := by
  obtain ⟨q0, -, he⟩ := lw_at (σ := σ) (θ := θ) (cA := cA) (Z := Z) (K := 5) (j := j) (lwK_mem.mpr (Or.inr (Or.inl ⟨rfl, hj⟩))) F
  exact x_getNY C (N := 8) (k := 1) (T := TX10) (Cn := RX10) (ref := "BootSlotsLaw$Place") (host := "BootSlotsLaw") (fs := (lwF5 θ Z j)) he rfl bsin_X10 (by decide) (by decide +kernel) rfl rfl hd kk
theorem xp_X11_79Y (C : xCx p m c cc nL s args Ts RX11 ρ sc L xs cA dC dI A meth ret) {j : Nat} (hj : j < ln Z) {x : Int32} (hd : decode cc pc = .ok (.putfield 79, 3)) (kk : xVY p l e R s m args below meth c cells slots Q ρ cA dC dI A (lwWs σ θ cA (wr Z 5 j 2 x) ++ F) nL (pc + 3) lv st X) : xVY p l e R s m args below meth c cells slots Q ρ cA dC dI A (lwWs σ θ cA Z ++ F) nL pc lv (.int x :: .ref (σ 5 j) :: st) X := by
  obtain ⟨q0, hq, he⟩ := lw_at (σ := σ) (θ := θ) (cA := cA) (Z := Z) (K := 5) (j := j) (lwK_mem.mpr (Or.inr (Or.inl ⟨rfl, hj⟩))) F
  refine x_putNY C (N := 8) (k := 1) (T := TX10) (Cn := RX10) (ref := "BootSlotsLaw$Place") (host := "BootSlotsLaw") (fs := (lwF5 θ Z j)) (ty := .int) he rfl bsin_X10 tyX10 tyX10_ok nmX10 (by decide) (by decide +kernel) rfl rfl rfl rfl rfl (Nat.le_of_ble_eq_true rfl) (lw_set F hq ?_ ?_ ?_ (fun a b hm hne => lw_oth (K := 5) (j := j) (Or.inr (Or.inr (Or.inr (Or.inl ⟨rfl, rfl, rfl⟩)))) (fun h => absurd h (by decide)) hm hne)) hd kk
  · unfold ln; rw [wr_no (by omega)]
  · unfold lm; rw [wr_no (by omega)]
  · simp [lwC, wr]
theorem xg_X11_82Y (C : xCx p m c cc nL s args Ts RX11 ρ sc L xs cA dC dI A meth ret) {j : Nat} (hj : j < ln Z) (hd : decode cc pc = .ok (.getfield 82, 3)) (kk : xVY p l e R s m args below meth c cells slots Q ρ cA dC dI A (lwWs σ θ cA Z ++ F) nL (pc + 3) lv (.int (Z 5 j 3) :: st) X) : xVY p l e R s m args below meth c cells slots Q ρ cA dC dI A (lwWs σ θ cA Z ++ F) nL pc lv (.ref (σ 5 j) :: st) X := by
  obtain ⟨q0, -, he⟩ := lw_at (σ := σ) (θ := θ) (cA := cA) (Z := Z) (K := 5) (j := j) (lwK_mem.mpr (Or.inr (Or.inl ⟨rfl, hj⟩))) F
  exact x_getNY C (N := 8) (k := 2) (T := TX10) (Cn := RX10) (ref := "BootSlotsLaw$Place") (host := "BootSlotsLaw") (fs := (lwF5 θ Z j)) he rfl bsin_X10 (by decide) (by decide +kernel) rfl rfl hd kk
theorem xp_X11_82Y (C : xCx p m c cc nL s args Ts RX11 ρ sc L xs cA dC dI A meth ret) {j : Nat} (hj : j < ln Z) {x : Int32} (hd : decode cc pc = .ok (.putfield 82, 3)) (kk : xVY p l e R s m args below meth c cells slots Q ρ cA dC dI A (lwWs σ θ cA (wr Z 5 j 3 x) ++ F) nL (pc + 3) lv st X) : xVY p l e R s m args below meth c cells slots Q ρ cA dC dI A (lwWs σ θ cA Z ++ F) nL pc lv (.int x :: .ref (σ 5 j) :: st) X := by
  obtain ⟨q0, hq, he⟩ := lw_at (σ := σ) (θ := θ) (cA := cA) (Z := Z) (K := 5) (j := j) (lwK_mem.mpr (Or.inr (Or.inl ⟨rfl, hj⟩))) F
  refine x_putNY C (N := 8) (k := 2) (T := TX10) (Cn := RX10) (ref := "BootSlotsLaw$Place") (host := "BootSlotsLaw") (fs := (lwF5 θ Z j)) (ty := .int) he rfl bsin_X10 tyX10 tyX10_ok nmX10 (by decide) (by decide +kernel) rfl rfl rfl rfl rfl (Nat.le_of_ble_eq_true rfl) (lw_set F hq ?_ ?_ ?_ (fun a b hm hne => lw_oth (K := 5) (j := j) (Or.inr (Or.inr (Or.inr (Or.inl ⟨rfl, rfl, rfl⟩)))) (fun h => absurd h (by decide)) hm hne)) hd kk
  · unfold ln; rw [wr_no (by omega)]
  · unfold lm; rw [wr_no (by omega)]
  · simp [lwC, wr]
theorem xg_X11_93Y (C : xCx p m c cc nL s args Ts RX11 ρ sc L xs cA dC dI A meth ret) {j : Nat} (hj : j < ln Z) (hd : decode cc pc = .ok (.getfield 93, 3)) (kk : xVY p l e R s m args below meth c cells slots Q ρ cA dC dI A (lwWs σ θ cA Z ++ F) nL (pc + 3) lv (.int (Z 5 j 4) :: st) X) : xVY p l e R s m args below meth c cells slots Q ρ cA dC dI A (lwWs σ θ cA Z ++ F) nL pc lv (.ref (σ 5 j) :: st) X := by
  obtain ⟨q0, -, he⟩ := lw_at (σ := σ) (θ := θ) (cA := cA) (Z := Z) (K := 5) (j := j) (lwK_mem.mpr (Or.inr (Or.inl ⟨rfl, hj⟩))) F
  exact x_getNY C (N := 8) (k := 7) (T := TX10) (Cn := RX10) (ref := "BootSlotsLaw$Place") (host := "BootSlotsLaw") (fs := (lwF5 θ Z j)) he rfl bsin_X10 (by decide) (by decide +kernel) rfl rfl hd kk
theorem xp_X11_93Y (C : xCx p m c cc nL s args Ts RX11 ρ sc L xs cA dC dI A meth ret) {j : Nat} (hj : j < ln Z) {x : Int32} (hb : x = 0 ∨ x = 1) (hd : decode cc pc = .ok (.putfield 93, 3)) (kk : xVY p l e R s m args below meth c cells slots Q ρ cA dC dI A (lwWs σ θ cA (wr Z 5 j 4 x) ++ F) nL (pc + 3) lv st X) : xVY p l e R s m args below meth c cells slots Q ρ cA dC dI A (lwWs σ θ cA Z ++ F) nL pc lv (.int x :: .ref (σ 5 j) :: st) X := by
  obtain ⟨q0, hq, he⟩ := lw_at (σ := σ) (θ := θ) (cA := cA) (Z := Z) (K := 5) (j := j) (lwK_mem.mpr (Or.inr (Or.inl ⟨rfl, hj⟩))) F
  refine x_putNY C (N := 8) (k := 7) (T := TX10) (Cn := RX10) (ref := "BootSlotsLaw$Place") (host := "BootSlotsLaw") (fs := (lwF5 θ Z j)) (ty := .boolean) he rfl bsin_X10 tyX10 tyX10_ok nmX10 (by decide) (by decide +kernel) rfl rfl rfl (bsZ01 hb).1 (bsZ01 hb).2 (Nat.le_of_ble_eq_true rfl) (lw_set F hq ?_ ?_ ?_ (fun a b hm hne => lw_oth (K := 5) (j := j) (Or.inr (Or.inr (Or.inr (Or.inl ⟨rfl, rfl, rfl⟩)))) (fun h => absurd h (by decide)) hm hne)) hd kk
  · unfold ln; rw [wr_no (by omega)]
  · unfold lm; rw [wr_no (by omega)]
  · simp [lwC, wr]
theorem xl_imgY (C : xCx p m c cc nL s args Ts own ρ sc L xs cA dC dI A meth ret) {j : Nat} (hj : j < ln Z) {i : Int32} (hin : bsIn i 5) (hd : decode cc pc = .ok (.iaload, 1)) (kk : xVY p l e R s m args below meth c cells slots Q ρ cA dC dI A (lwWs σ θ cA Z ++ F) nL (pc + 1) lv (.int (Z 6 j (bsIx i + 1)) :: st) X) : xVY p l e R s m args below meth c cells slots Q ρ cA dC dI A (lwWs σ θ cA Z ++ F) nL pc lv (.int i :: .ref (θ 6 j) :: st) X := by
  obtain ⟨q0, -, he⟩ := lw_at (σ := σ) (θ := θ) (cA := cA) (Z := Z) (K := 6) (j := j) (lwK_mem.mpr (Or.inr (Or.inr (Or.inl ⟨rfl, hj⟩)))) F
  exact x_ialdY C he hin hd kk
theorem xn_plcY (C : xCx p m c cc nL s args Ts own ρ sc L xs cA dC dI A meth ret) (hd : decode cc pc = .ok (.arraylength, 1)) (kk : xVY p l e R s m args below meth c cells slots Q ρ cA dC dI A (lwWs σ θ cA Z ++ F) nL (pc + 1) lv (.int (nI (ln Z)) :: st) X) : xVY p l e R s m args below meth c cells slots Q ρ cA dC dI A (lwWs σ θ cA Z ++ F) nL pc lv (.ref (σ 2 0) :: st) X := by
  obtain ⟨q0, -, he⟩ := lw_at (σ := σ) (θ := θ) (cA := cA) (Z := Z) (lwK_mem.mpr (Or.inl ⟨by decide, rfl⟩) : (2, 0) ∈ lwK (ln Z) (lm Z)) F
  exact x_alenY C (t0 := 7) he rfl rfl hd kk
theorem xa_plcY (C : xCx p m c cc nL s args Ts own ρ sc L xs cA dC dI A meth ret) {i : Int32} (hin : bsIn i (ln Z)) (hd : decode cc pc = .ok (.aaload, 1)) (kk : xVY p l e R s m args below meth c cells slots Q ρ cA dC dI A (lwWs σ θ cA Z ++ F) nL (pc + 1) lv (.ref (σ 5 (bsIx i)) :: st) X) : xVY p l e R s m args below meth c cells slots Q ρ cA dC dI A (lwWs σ θ cA Z ++ F) nL pc lv (.int i :: .ref (σ 2 0) :: st) X := by
  obtain ⟨q0, -, he⟩ := lw_at (σ := σ) (θ := θ) (cA := cA) (Z := Z) (lwK_mem.mpr (Or.inl ⟨by decide, rfl⟩) : (2, 0) ∈ lwK (ln Z) (lm Z)) F
  exact x_aaldY C (t0 := 7) he rfl rfl hin rfl hd kk
end XF
section XU
variable {p : Program} {l : Launch} {e : Env} {R : Room} {s : State} {m : MethodId} {args : Array Value} {below : List Frame} {meth : Method} {c : Code} {cells slots : Nat} {Q : State → Prop} {ρ : bsR} {sc L : Nat} {xs : Nat → Int32} {cA : Nat → ClassId} {dC : Nat → ClassId} {dI : Nat → Nat → Nat} {A : Nat → Prop} {Rz Rz' : va_W} {nL : Nat} {cc : ByteArray} {Ts : List Cond} {own : String} {ret : Option FieldType} {pc : Nat} {lv : List (Nat × Value)} {st : List Value} {X : bsX} {B F T T' : va_W} {c1 s1 : Nat}
theorem xu_stY (C : xCx p m c cc nL s args Ts own ρ sc L xs cA dC dI A meth ret) (k0 : Nat) {a n : Nat} {f : Nat → Int32} {i x : Int32} (he : T[k0]? = some (a, .inl (cA 0, n, .inl f))) (hin : bsIn i n) (hT : T.set k0 (a, .inl (cA 0, n, .inl (upd f (bsIx i) x))) = T') (hd : decode cc pc = .ok (.iastore, 1)) (kk : xVY p l e R s m args below meth c cells slots Q ρ cA dC dI A (B ++ (F ++ T')) nL (pc + 1) lv st X) : xVY p l e R s m args below meth c cells slots Q ρ cA dC dI A (B ++ (F ++ T)) nL pc lv (.int x :: .int i :: .ref a :: st) X := x_iastY C ((xu_at B F T k0).trans he) hin (by rw [xu_set, hT]) hd kk
theorem xu_newiY (C : xCx p m c cc nL s args Ts own ρ sc L xs cA dC dI A meth ret) {n : Int32} {N : Nat} (hn : ¬ n < 0) (hN : n.toNatClampNeg = N) (hby : N ≤ 100000) (hR : c1 ≤ R.cells ∧ s1 ≤ R.slots) (hc1 : cells + 1 ≤ c1) (hs1 : slots + N ≤ s1) (hd : decode cc pc = .ok (.newarray .int, 2)) (kk : ∀ q : Nat, xVY p l e R s m args below meth c c1 s1 Q ρ cA dC dI A (B ++ (F ++ (T ++ [(q, .inl (cA 0, N, .inl (fun _ => (0 : Int32))))]))) nL (pc + 2) lv (.ref q :: st) X) : xVY p l e R s m args below meth c cells slots Q ρ cA dC dI A (B ++ (F ++ T)) nL pc lv (.int n :: st) X := x_newiY C hn hN hby ⟨Nat.le_trans hc1 hR.1, Nat.le_trans hs1 hR.2⟩ hd (fun q => x_eqY (xu_app B F T _) (x_widenY hc1 hs1 (kk q)))
theorem x_sameY {q0 a : Nat} {c0 : ClassId} {x y : vp_A} (he : Rz[q0]? = some (a, .inl (c0, x))) (hc : vp_cell c0 x = vp_cell c0 y) (hR : Rz.set q0 (a, .inl (c0, y)) = Rz') (kk : xVY p l e R s m args below meth c cells slots Q ρ cA dC dI A Rz' nL pc lv st X) : xVY p l e R s m args below meth c cells slots Q ρ cA dC dI A Rz nL pc lv st X := by
  intro ls H locs hl hP hD hS
  have he' := (xW_atY (ρ := ρ) (cA := cA) (X := X) q0).trans he
  have hP1 := hP.set hD he' (e := .inl (c0, y)) (H1 := H) (by
    have h1 := hP _ _ he'
    show H[a]? = some (vp_cell c0 y)
    rw [← hc]
    exact h1) (fun _ _ => rfl)
  have hD1 := hD.set (e := .inl (c0, y)) he'
  rw [xW_setY, hR] at hP1 hD1
  exact kk ls H locs hl hP1 hD1 hS
theorem xu_sameY (k0 : Nat) {a : Nat} {c0 : ClassId} {x y : vp_A} (he : T[k0]? = some (a, .inl (c0, x))) (hc : vp_cell c0 x = vp_cell c0 y) (hT : T.set k0 (a, .inl (c0, y)) = T') (kk : xVY p l e R s m args below meth c cells slots Q ρ cA dC dI A (B ++ (F ++ T')) nL pc lv st X) : xVY p l e R s m args below meth c cells slots Q ρ cA dC dI A (B ++ (F ++ T)) nL pc lv st X := x_sameY ((xu_at B F T k0).trans he) hc (by rw [xu_set, hT]) kk
end XU
section XA
variable {p : Program} {l : Launch} {e : Env} {R : Room} {s : State} {m : MethodId} {args : Array Value} {below : List Frame} {meth : Method} {c : Code} {cells slots : Nat} {Q : State → Prop} {ρ : bsR} {sc L : Nat} {xs : Nat → Int32} {cA : Nat → ClassId} {dC : Nat → ClassId} {dI : Nat → Nat → Nat} {A : Nat → Prop} {Rz Rz' : va_W} {nL : Nat} {cc : ByteArray} {Ts : List Cond} {own : String} {ret : Option FieldType} {pc : Nat} {lv : List (Nat × Value)} {st : List Value} {X : bsX}
theorem x_anewAY (C : xCx p m c cc nL s args Ts own ρ sc L xs cA dC dI A meth ret) {index : Nat} {n : Int32} {N : Nat} (hcl : Cond.classLink own index "[I" ∈ bsG) (hn : ¬ n < 0) (hN : n.toNatClampNeg = N) (hby : N * 4 ≤ 536870912) (hR : cells + 1 ≤ R.cells ∧ slots + N ≤ R.slots) (hd : decode cc pc = .ok (.anewarray index, 3)) (kk : ∀ q : Nat, xVY p l e R s m args below meth c (cells + 1) (slots + N) Q ρ cA dC dI A (Rz ++ [(q, .inl (cA 8, N, (.inr (.inr (.inr (.inr (fun _ => none)))))))]) nL (pc + 3) lv (.ref q :: st) X) : xVY p l e R s m args below meth c cells slots Q ρ cA dC dI A Rz nL pc lv (.int n :: st) X := by
  intro ls H locs hl hP hD hS
  subst hN
  refine W.anewA (t := .int) C.1.1 C.1.2.1 C.1.2.2.2.1 (by rw [xt_AI]; exact C.1.2.2.2.2 _ (C.2.2.1 _ hcl)) (xAA.use C.2.2.2.1.2.2.2.2.2.2.1) rfl hd rfl hn hby hR.1 hR.2 fun c1 kA comp f1 f2 f3 f4 => ?_
  have ec : c1 = cA 8 := Option.some.inj (f1.symm.trans (x_RA8 C))
  subst ec
  generalize hH1 : H.push ({ cls := cA 8, slots := Array.replicate n.toNatClampNeg .null, vm := .none } : Cell) = H1
  have z1 : H1.size = H.size + 1 := by rw [← hH1, Array.size_push]
  have e1 : H1[H.size]? = some (arrV (cA 8) n.toNatClampNeg (fun _ => .null)) := by rw [← hH1, Array.getElem?_push_size, ← arrV_new]
  have o1 : ∀ q : Nat, q < H.size → H1[q]? = H[q]? := fun q hq => by rw [← hH1, Array.getElem?_push, if_neg (Nat.ne_of_lt hq)]
  have hk : ∀ (k : Nat) (x : Nat × va_E), (bsWsY ρ cA X Rz)[k]? = some x → H1[x.1]? = H[x.1]? := fun k x hx => o1 x.1 ((hP k x hx).lt)
  have hP1 := (hP.kept hk).app (w2 := [(H.size, .inl (cA 8, n.toNatClampNeg, (.inr (.inr (.inr (.inr (fun _ => none)))))))]) (fun k x hx => by
    have hz : k < 1 := (List.getElem?_eq_some_iff.mp hx).1
    rw [show k = 0 by omega] at hx
    cases hx
    show H1[H.size]? = some (vp_cell _ _)
    rw [vp_cell_q]
    exact e1)
  have hD1 := hD.push (e := .inl (cA 8, n.toNatClampNeg, (.inr (.inr (.inr (.inr (fun _ => none))))))) hP rfl (C.2.2.2.2.2.2 _ hS.1)
  rw [xW_appY] at hP1 hD1
  exact kk H.size ls H1 locs hl hP1 hD1 ⟨Nat.le_trans hS.1 (by omega), fun x h1 h2 => (o1 x (Nat.lt_of_lt_of_le h1 hS.1)).trans (hS.2.1 x h1 h2), hS.2.2⟩
/-- the keyed cells over again, some of them now out of T -/
theorem x_reY {ks ks' : List (Nat × Nat)} {A0 A1 : Nat × Nat → Nat} {e0 e1 : Nat × Nat → va_E} {F T : va_W} (hR : Rz = ks.map (fun t => (A0 t, e0 t)) ++ (F ++ T)) (hR' : Rz' = ks'.map (fun t => (A1 t, e1 t)) ++ F) (hk : ks'.Nodup) (new : Nat × Nat → Prop)
    (h1 : ∀ t ∈ ks', (t ∈ ks ∧ A1 t = A0 t ∧ e1 t = e0 t) ∨ (new t ∧ (A1 t, e1 t) ∈ T)) (h2 : (T.map Prod.fst).Nodup → ∀ t ∈ ks', ∀ t' ∈ ks', new t → new t' → A1 t = A1 t' → t = t') (hks : ks.Nodup) (kk : xVY p l e R s m args below meth c cells slots Q ρ cA dC dI A Rz' nL pc lv st X) : xVY p l e R s m args below meth c cells slots Q ρ cA dC dI A Rz nL pc lv st X := by
  subst hR hR'
  refine x_memY (fun q hq => ?_) (fun hn => ?_) kk
  · rcases List.mem_append.mp hq with h | h
    · obtain ⟨t, ht, rfl⟩ := List.mem_map.mp h
      rcases h1 t ht with ⟨h3, h4, h5⟩ | ⟨-, h3⟩
      · exact List.mem_append_left _ (List.mem_map.mpr ⟨t, h3, by rw [h4, h5]⟩)
      · exact List.mem_append_right _ (List.mem_append_right _ h3)
    · exact List.mem_append_right _ (List.mem_append_left _ h)
  · rw [List.map_append, List.map_append, List.nodup_append, List.nodup_append] at hn
    obtain ⟨n1, ⟨n2, n3, n4⟩, n5⟩ := hn
    have hin0 : ∀ t ∈ ks, ∀ t' ∈ ks, A0 t = A0 t' → t = t' := by
      intro t ht t' ht' he
      obtain ⟨i, hi⟩ := List.getElem?_of_mem ht
      obtain ⟨j, hj⟩ := List.getElem?_of_mem ht'
      have hi' : ((ks.map (fun t => (A0 t, e0 t))).map Prod.fst)[i]? = some (A0 t) := by rw [List.getElem?_map, List.getElem?_map, hi]; rfl
      have hj' : ((ks.map (fun t => (A0 t, e0 t))).map Prod.fst)[j]? = some (A0 t') := by rw [List.getElem?_map, List.getElem?_map, hj]; rfl
      have : i = j := (List.getElem?_inj (List.getElem?_eq_some_iff.mp hi').1 n1).mp (by rw [hi', hj', he])
      subst this
      exact Option.some.inj (hi.symm.trans hj)
    have mA : ∀ t ∈ ks, A0 t ∈ (ks.map (fun t => (A0 t, e0 t))).map Prod.fst := fun t ht => List.mem_map.mpr ⟨(A0 t, e0 t), List.mem_map.mpr ⟨t, ht, rfl⟩, rfl⟩
    have mT : ∀ t, (A1 t, e1 t) ∈ T → A1 t ∈ T.map Prod.fst := fun t ht => List.mem_map.mpr ⟨_, ht, rfl⟩
    have inj : ∀ t ∈ ks', ∀ t' ∈ ks', A1 t = A1 t' → t = t' := by
      intro t ht t' ht' he
      rcases h1 t ht with ⟨a1, a2, -⟩ | ⟨a9, a1⟩ <;> rcases h1 t' ht' with ⟨b1, b2, -⟩ | ⟨b9, b1⟩
      · exact hin0 t a1 t' b1 (by rw [← a2, ← b2, he])
      · exact absurd (by rw [← a2, he] : A0 t = A1 t') (n5 _ (mA t a1) _ (List.mem_append_right _ (mT t' b1)))
      · exact absurd (by rw [← b2, he] : A0 t' = A1 t) (n5 _ (mA t' b1) _ (List.mem_append_right _ (mT t a1)))
      · exact h2 n3 t ht t' ht' a9 b9 he
    rw [List.map_append, List.nodup_append]
    refine ⟨?_, n2, ?_⟩
    · rw [List.map_map, List.nodup_iff_pairwise_ne, List.pairwise_map]
      exact List.Pairwise.imp_of_mem (fun ha hb hne he => hne (inj _ ha _ hb he)) (List.nodup_iff_pairwise_ne.mp hk)
    · intro x hx y hy
      obtain ⟨q, hq, rfl⟩ := List.mem_map.mp hx
      obtain ⟨t, ht, rfl⟩ := List.mem_map.mp hq
      rcases h1 t ht with ⟨a1, a2, -⟩ | ⟨-, a1⟩
      · show A1 t ≠ y
        rw [a2]
        exact n5 _ (mA t a1) y (List.mem_append_left _ hy)
      · exact fun he => n4 y hy _ (mT t a1) he.symm
end XA
section X310a
variable {p : Program} {l : Launch} {e : Env} {R : Room} {s : State} {m : MethodId} {args : Array Value} {below : List Frame} {meth : Method} {c : Code} {cells slots : Nat} {Q : State → Prop} {ρ : bsR} {sc L : Nat} {xs : Nat → Int32} {cA : Nat → ClassId} {dC : Nat → ClassId} {dI : Nat → Nat → Nat} {A : Nat → Prop} {Rz Rz' : va_W} {nL : Nat} {cc : ByteArray} {Ts : List Cond} {own : String} {ret : Option FieldType} {pc : Nat} {lv : List (Nat × Value)} {st : List Value} {X : bsX}
theorem x_sclY (C : xCx p m c cc nL s args Ts own ρ sc L xs cA dC dI A meth ret) (hd : decode cc pc = .ok (.arraylength, 1)) (kk : xVY p l e R s m args below meth c cells slots Q ρ cA dC dI A Rz nL (pc + 1) lv (.int (nI L) :: st) X) : xVY p l e R s m args below meth c cells slots Q ρ cA dC dI A Rz nL pc lv (.ref sc :: st) X := fun ls H locs hl hP hD hS => va_tlen C.1.1 C.1.2.1 C.2.2.2.1.2.2.1.1 hS rfl hd (kk ls H locs hl hP hD hS)
theorem x_scdY (C : xCx p m c cc nL s args Ts own ρ sc L xs cA dC dI A meth ret) {i : Nat} (hi : i < L) (hb : i < 2147483648) (hd : decode cc pc = .ok (.iaload, 1)) (kk : xVY p l e R s m args below meth c cells slots Q ρ cA dC dI A Rz nL (pc + 1) lv (.int (xs i) :: st) X) : xVY p l e R s m args below meth c cells slots Q ρ cA dC dI A Rz nL pc lv (.int (nI i) :: .ref sc :: st) X := fun ls H locs hl hP hD hS => va_ti C.1.1 C.1.2.1 C.2.2.2.1.2.2.1.1 hS (vp_in_iff.mpr ((pu_in i L hb).mpr hi)) (by show Value.int (xs (bsIx (nI i))) = _; rw [pu_ix i hb]) hd (kk ls H locs hl hP hD hS)
end X310a
set_option maxHeartbeats 4000000 in
set_option maxRecDepth 100000 in
theorem qX9_next_28Y {p : Program} {l : Launch} {e : Env} {s : State} {m : MethodId} {args : Array Value} {below : List Frame} {meth : Method} {c : Code} {ρ : bsR} {sc L : Nat} {xs : Nat → Int32} {cA : Nat → ClassId} {dC : Nat → ClassId} {dI : Nat → Nat → Nat} {A : Nat → Prop} {Ts : List Cond} {X : bsX} {Rz : va_W} {q0 δ at0 : Nat} {lo hi v : Int32} (C : xCx p m c cX9_next 4 s args Ts RX9 ρ sc L xs cA dC dI A meth (some .int)) (he : Rz[q0]? = some (δ, dCell sc at0)) (hne : ¬ hi - lo + 1 = 0) (hv : v = if at0 < L then xs at0 &&& (2147483647 : Int32) else 0) : xVY p l e rmX9_next s m args below meth c 0 0 (MQ below (xQiY ρ cA dC dI A (fun r X' R' => r = dVal xs L at0 lo hi ∧ X' = X ∧ R' = Rz.set q0 (δ, dCell sc (at0 + 1)))) args s 0 0 A) ρ cA dC dI A Rz 4 28 [(0, .ref δ), (1, .int lo), (2, .int hi)] [.int v] X := by
  refine x_istore_nY (lv' := [(3, .int v), (0, .ref δ), (1, .int lo), (2, .int hi)]) C dX9_next_28 rfl (by decide) rfl ?_
  refine x_aload_nY C dX9_next_29 rfl rfl ?_
  refine x_dupY C dX9_next_30 rfl ?_
  refine x_getY C (N := 2) (k := 1) (T := TX9) (Cn := RX9) (ref := "BootSlotsLaw$Draws") he rfl bsin_X9 (by decide) (bsG_in 444 (by decide +kernel) rfl) rfl rfl dX9_next_31 ?_
  refine x_iconstY (v := 1) C dX9_next_34 (by decide) ?_
  refine x_iaddY C dX9_next_35 ?_
  rw [show (nI at0 + (1 : Int32)) = nI (at0 + 1) from pu_succ at0]
  refine x_putY C (N := 2) (k := 1) (T := TX9) (Cn := RX9) (ref := "BootSlotsLaw$Draws") (ty := .int) he rfl bsin_X9 tyX9 tyX9_ok nmX9 (by decide) (bsG_in 444 (by decide +kernel) rfl) rfl rfl rfl rfl rfl (Nat.le_of_ble_eq_true rfl) rfl dX9_next_36 ?_
  refine x_iload_nY C dX9_next_39 rfl rfl ?_
  refine x_iload_nY C dX9_next_40 rfl rfl ?_
  refine x_iload_nY C dX9_next_41 rfl rfl ?_
  refine x_iload_nY C dX9_next_42 rfl rfl ?_
  refine x_isubY C dX9_next_43 ?_
  refine x_iconstY (v := 1) C dX9_next_44 (by decide) ?_
  refine x_iaddY C dX9_next_45 ?_
  refine x_iremY C dX9_next_46 hne ?_
  refine x_iaddY C dX9_next_47 ?_
  exact x_iretY C ⟨by rw [hv]; rfl, rfl, rfl⟩ (Nat.le_refl _) (Nat.le_refl _) dX9_next_48
set_option maxHeartbeats 4000000 in
set_option maxRecDepth 100000 in
theorem cX9_next_okY {l : Launch} {ρ : bsR} {sc L : Nat} {xs : Nat → Int32} {cA : Nat → ClassId} {dC : Nat → ClassId} {dI : Nat → Nat → Nat} {X : bsX} {Rz : va_W} {q0 δ at0 : Nat} {lo hi : Int32} (he : Rz[q0]? = some (δ, dCell sc at0)) (hne : ¬ hi - lo + 1 = 0) (hat : at0 < 1000000) : xMiY l yX9_next cX9_next 4 (some .int) rmX9_next ρ sc L xs cA dC dI [.ref δ, .int lo, .int hi] X Rz (fun r X' R' => r = dVal xs L at0 lo hi ∧ X' = X ∧ R' = Rz.set q0 (δ, dCell sc (at0 + 1))) := by
  refine xMi_ofY (by decide) (Nat.le_of_ble_eq_true rfl) (fun p e s m args below meth c C => ?_)
  have C : xCx p m c cX9_next 4 s args (Cond.code yX9_next cX9_next 4 (some .int) :: bsG) RX9 ρ sc L xs cA dC dI (bsAY ρ cA Rz s.heap.size) meth (some .int) := C
  generalize (bsAY ρ cA Rz s.heap.size) = A at C ⊢
  have hT := C.2.2.2.1.2.2.1
  refine x_subY [0, 1, 2] rfl ?_
  refine x_aload_nY C dX9_next_0 rfl rfl ?_
  refine x_getY C (N := 2) (k := 1) (T := TX9) (Cn := RX9) (ref := "BootSlotsLaw$Draws") he rfl bsin_X9 (by decide) (bsG_in 444 (by decide +kernel) rfl) rfl rfl dX9_next_1 ?_
  refine x_aload_nY C dX9_next_4 rfl rfl ?_
  refine x_getY C (N := 2) (k := 0) (T := TX9) (Cn := RX9) (ref := "BootSlotsLaw$Draws") he rfl bsin_X9 (by decide) (bsG_in 443 (by decide +kernel) rfl) rfl rfl dX9_next_5 ?_
  refine x_sclY C dX9_next_8 ?_
  refine x_icmp_geY (tgt := 27) C dX9_next_9 (by decide) (fun h => ?_) (fun h => ?_)
  · refine x_iconstY (v := 0) C dX9_next_27 (by decide) ?_
    exact qX9_next_28Y C he hne (by rw [if_neg]; have := (dN_le hat hT.2).mp h; omega)
  · have hlt : at0 < L := by
      rcases Nat.lt_or_ge at0 L with z | z
      · exact z
      · exact absurd ((dN_le hat hT.2).mpr z) h
    refine x_aload_nY C dX9_next_12 rfl rfl ?_
    refine x_getY C (N := 2) (k := 0) (T := TX9) (Cn := RX9) (ref := "BootSlotsLaw$Draws") he rfl bsin_X9 (by decide) (bsG_in 443 (by decide +kernel) rfl) rfl rfl dX9_next_13 ?_
    refine x_aload_nY C dX9_next_16 rfl rfl ?_
    refine x_getY C (N := 2) (k := 1) (T := TX9) (Cn := RX9) (ref := "BootSlotsLaw$Draws") he rfl bsin_X9 (by decide) (bsG_in 444 (by decide +kernel) rfl) rfl rfl dX9_next_17 ?_
    refine x_scdY (i := at0) C hlt (by omega) dX9_next_20 ?_
    refine x_ldcY (v := 2147483647) C (bsG_in 454 (by decide +kernel) rfl) dX9_next_21 ?_
    refine x_iandY C dX9_next_23 ?_
    refine x_gotoY (tgt := 28) C dX9_next_24 (by decide) ?_
    exact qX9_next_28Y C he hne (by rw [if_pos hlt])
section X310
variable {p : Program} {l : Launch} {e : Env} {R : Room} {s : State} {m : MethodId} {args : Array Value} {below : List Frame} {meth : Method} {c : Code} {cells slots : Nat} {Q : State → Prop} {ρ : bsR} {sc L : Nat} {xs : Nat → Int32} {cA : Nat → ClassId} {dC : Nat → ClassId} {dI : Nat → Nat → Nat} {A : Nat → Prop} {Rz Rz' : va_W} {nL : Nat} {cc : ByteArray} {Ts : List Cond} {own : String} {ret : Option FieldType} {pc : Nat} {lv : List (Nat × Value)} {st : List Value} {X : bsX} {B F T T' : va_W}
theorem xu_nextY (C : xCx p m c cc nL s args Ts own ρ sc L xs cA dC dI A meth ret) {index : Nat} {As rest : List Value} {δ at0 : Nat} {lo hi : Int32} (k0 : Nat) (he : T[k0]? = some (δ, dCell sc at0)) (hT : T.set k0 (δ, dCell sc (at0 + 1)) = T') (hne : ¬ hi - lo + 1 = 0) (hat : at0 < 1000000) (hl0 : Cond.methodLink own index yX9_next ∈ bsG) (hAs : As = [.int lo, .int hi]) (hR : 1 ≤ R.frames ∧ 23 ≤ R.locals) (hcs : cells ≤ R.cells ∧ slots ≤ R.slots) (hst : st = As.reverse ++ .ref δ :: rest) (hW : (rest.map fun v => v.category).sum ≤ 8) (hd : decode cc pc = .ok (.invokevirtual index, 3)) (kk : xVY p l e R s m args below meth c cells slots Q ρ cA dC dI A (B ++ (F ++ T')) nL (pc + 3) lv (.int (dVal xs L at0 lo hi) :: rest) X) : xVY p l e R s m args below meth c cells slots Q ρ cA dC dI A (B ++ (F ++ T)) nL pc lv st X := by
  subst hAs
  refine x_callViY (y := yX9_next) (As := [.int lo, .int hi]) (rest := rest) C (cX9_next_okY ((xu_at B F T k0).trans he) hne hat) hl0 wyX9_next ((xu_at B F T k0).trans he) rfl dpX9_next hR hcs hst hW hd (fun r X' R' hp => ?_)
  obtain ⟨rfl, rfl, rfl⟩ := hp
  rw [xu_set, hT]
  exact kk
end X310
/-- a new image put in place j: the array at a takes the key (6, j) -/
theorem x_newImgY {p : Program} {l : Launch} {e : Env} {R : Room} {s : State} {m : MethodId} {args : Array Value} {below : List Frame} {meth : Method} {c : Code} {cells slots : Nat} {Q : State → Prop} {ρ : bsR} {cA : Nat → ClassId} {dC : Nat → ClassId} {dI : Nat → Nat → Nat} {A : Nat → Prop} {nL pc : Nat} {lv : List (Nat × Value)} {st : List Value} {X : bsX} {σ θ : xA2} {Z Z' : pY} {F : va_W} {j a q0 : Nat} {f : Nat → Int32} (hj : j < ln Z) (hq : (lwK (ln Z) (lm Z))[q0]? = some (5, j)) (h1 : ln Z' = ln Z) (h2 : lm Z' = lm Z) (hf : (fun i => Z' 6 j (i + 1)) = f) (hs : ∀ K k i, ¬ (K = 6 ∧ k = j) → Z' K k i = Z K k i)
    (kk : ∀ θ' : xA2, xVY p l e R s m args below meth c cells slots Q ρ cA dC dI A (lwWs σ θ' cA Z' ++ F) nL pc lv st X) : xVY p l e R s m args below meth c cells slots Q ρ cA dC dI A ((lwWs σ θ cA Z).set q0 (σ 5 j, .inr (12, (lwF5 θ Z j).set 0 (.ref a))) ++ (F ++ [(a, .inl (cA 0, 5, .inl f))])) nL pc lv st X := by
  have hlen : q0 < (lwK (ln Z) (lm Z)).length := (List.getElem?_eq_some_iff.mp hq).1
  refine x_reY (ks := lwK (ln Z) (lm Z)) (ks' := lwK (ln Z) (lm Z)) (A0 := fun t => lwA σ θ t.1 t.2) (A1 := fun t => lwA σ (fun K k => if K = 6 ∧ k = j then a else θ K k) t.1 t.2)
    (e0 := fun t => if t = (5, j) then .inr (12, (lwF5 θ Z j).set 0 (.ref a)) else lwC σ θ cA Z t.1 t.2) (e1 := fun t => lwC σ (fun K k => if K = 6 ∧ k = j then a else θ K k) cA Z' t.1 t.2) (F := F) (T := [(a, .inl (cA 0, 5, .inl f))]) (Rz' := lwWs σ (fun K k => if K = 6 ∧ k = j then a else θ K k) cA Z' ++ F) ?_ (by unfold lwWs; rw [h1, h2]) (lwK_nd _ _) (fun t => t = (6, j)) ?_ (fun _ t _ t' _ e e' _ => e.trans e'.symm) (lwK_nd _ _) (kk _)
  · congr 1
    refine List.ext_getElem? fun n => ?_
    rw [List.getElem?_set]
    by_cases hn : q0 = n
    · subst hn
      rw [if_pos rfl, if_pos (by simpa [lwWs] using hlen), List.getElem?_map, hq]
      simp [lwA]
    · rw [if_neg hn, lwWs, List.getElem?_map, List.getElem?_map]
      cases ht : (lwK (ln Z) (lm Z))[n]? with
      | none => rfl
      | some t =>
        have hne : t ≠ (5, j) := fun e => hn (by
          subst e
          exact (List.getElem?_inj hlen (lwK_nd _ _)).mp (by rw [hq, ht]))
        simp only [Option.map_some, if_neg hne]
  · rintro ⟨K, k⟩ ht
    by_cases h6 : K = 6 ∧ k = j
    · obtain ⟨rfl, rfl⟩ := h6
      refine Or.inr ⟨rfl, ?_⟩
      have e1 : (fun i => Z' 6 k (i + 1)) = f := hf
      simp [lwA, lwC, e1]
    · refine Or.inl ⟨ht, ?_, ?_⟩
      · have hm := lwK_mem.mp ht
        rcases hm with ⟨h, rfl⟩ | ⟨rfl, h⟩ | ⟨rfl, h⟩ | ⟨rfl, h⟩
        · have : K = 0 ∨ K = 1 ∨ K = 2 ∨ K = 3 ∨ K = 4 := by omega
          rcases this with rfl | rfl | rfl | rfl | rfl <;> simp [lwA]
        · simp [lwA]
        · have hk : ¬ k = j := fun e => h6 ⟨rfl, e⟩
          simp [lwA, hk]
        · simp [lwA]
      · have hz : ∀ K k i, K ≠ 6 → Z' K k i = Z K k i := fun K k i h => hs K k i (fun e => h e.1)
        have hm := lwK_mem.mp ht
        rcases hm with ⟨h, rfl⟩ | ⟨rfl, h⟩ | ⟨rfl, h⟩ | ⟨rfl, h⟩
        · have : K = 0 ∨ K = 1 ∨ K = 2 ∨ K = 3 ∨ K = 4 := by omega
          rcases this with rfl | rfl | rfl | rfl | rfl
          · rw [if_neg (fun e => absurd (Prod.mk.inj e).1 (by decide))]
            simp only [lwC, lwF0]
            simp [hz]
          · rw [if_neg (fun e => absurd (Prod.mk.inj e).1 (by decide))]
            have e1 : (fun i => Z' 11 0 i) = fun i => Z 11 0 i := funext fun i => hz 11 0 i (by decide)
            simp only [lwC, e1]
          · rw [if_neg (fun e => absurd (Prod.mk.inj e).1 (by decide))]
            simp only [lwC, h1]
          · rw [if_neg (fun e => absurd (Prod.mk.inj e).1 (by decide))]
            simp [lwC, h2]
          · rw [if_neg (fun e => absurd (Prod.mk.inj e).1 (by decide))]
            have e1 : (fun i => Z' 13 0 (i + 1)) = fun i => Z 13 0 (i + 1) := funext fun i => hz 13 0 (i + 1) (by decide)
            simp only [lwC, e1]
        · by_cases hk : k = j
          · subst hk
            rw [if_pos rfl]
            simp [lwC, lwF5, hz]
          · rw [if_neg (fun e => hk (Prod.mk.inj e).2)]
            simp [lwC, lwF5, hz, hk]
        · have hk : ¬ k = j := fun e => h6 ⟨rfl, e⟩
          rw [if_neg (fun e => absurd (Prod.mk.inj e).1 (by decide))]
          have e1 : (fun i => Z' 6 k (i + 1)) = fun i => Z 6 k (i + 1) := funext fun i => hs 6 k (i + 1) (fun e => hk e.2)
          simp only [lwC, e1]
        · rw [if_neg (fun e => absurd (Prod.mk.inj e).1 (by decide))]
          have e1 : (fun i => Z' 12 k i) = fun i => Z 12 k i := funext fun i => hz 12 k i (by decide)
          simp only [lwC, e1]
section JDK0
variable {p : Program} {l : Launch} {e : Env} {R : Room} {s : State} {m : MethodId} {args : Array Value} {below : List Frame} {meth : Method} {c : Code} {cells slots : Nat} {Q : State → Prop} {ρ : bsR} {sc L : Nat} {xs : Nat → Int32} {cA : Nat → ClassId} {dC : Nat → ClassId} {dI : Nat → Nat → Nat} {A : Nat → Prop} {Rz Rz' : va_W} {nL : Nat} {cc : ByteArray} {Ts : List Cond} {own : String} {ret : Option FieldType} {pc : Nat} {lv : List (Nat × Value)} {st : List Value} {X : bsX} {mc ms : Nat}
theorem x_topiY {x y : Int32} (h : x = y) (k : xVY p l e R s m args below meth c cells slots Q ρ cA dC dI A Rz nL pc lv (.int y :: st) X) : xVY p l e R s m args below meth c cells slots Q ρ cA dC dI A Rz nL pc lv (.int x :: st) X := by rw [h]; exact k
theorem x_nonnullY (C : xCx p m c cc nL s args Ts own ρ sc L xs cA dC dI A meth ret) {a tgt : Nat} {off : Int} (hd : decode cc pc = .ok (.ifnonnull off, 3)) (ht : (pc : Int) + off = (tgt : Int)) (k : xVY p l e R s m args below meth c cells slots Q ρ cA dC dI A Rz nL tgt lv st X) : xVY p l e R s m args below meth c cells slots Q ρ cA dC dI A Rz nL pc lv (.ref a :: st) X := fun ls H locs hl hP hD hS => lv_ifnonnull C.1.1 C.1.2.1 hd ht (k ls H locs hl hP hD hS)
theorem x_dup_x1Y (C : xCx p m c cc nL s args Ts own ρ sc L xs cA dC dI A meth ret) {va vb : Value} (hd : decode cc pc = .ok (.dup_x1, 1)) (hva : va.category = 1) (hvb : vb.category = 1) (k : xVY p l e R s m args below meth c cells slots Q ρ cA dC dI A Rz nL (pc + 1) lv (va :: vb :: va :: st) X) : xVY p l e R s m args below meth c cells slots Q ρ cA dC dI A Rz nL pc lv (va :: vb :: st) X := fun ls H locs hl hP hD hS => lv_dup_x1 C.1.1 C.1.2.1 hd hva hvb (k ls H locs hl hP hD hS)
theorem x_gsCSY (C : xCx p m c cc nL s args Ts own ρ sc L xs cA dC dI A meth ret) {index : Nat} (hf : Cond.fieldLink own index "java/lang/String" "COMPACT_STRINGS" "Z" ∈ bsG) (hd : decode cc pc = .ok (.getstatic index, 3)) (k : xVY p l e R s m args below meth c cells slots Q ρ cA dC dI A Rz nL (pc + 3) lv (.int 1 :: st) X) : xVY p l e R s m args below meth c cells slots Q ρ cA dC dI A Rz nL pc lv st X := fun ls H locs hl hP hD hS => va_gets C.1.1 C.1.2.1 C.2.2.2.1.2.1.2.2.1 hS C.1.2.2.2.1 (C.1.2.2.2.2 _ (C.2.2.1 _ hf)) (fun _ h => h) hd (k ls H locs hl hP hD hS)
theorem x_gsDOY (C : xCx p m c cc nL s args Ts own ρ sc L xs cA dC dI A meth ret) {index : Nat} (hf : Cond.fieldLink own index "java/lang/Integer" "DigitOnes" "[B" ∈ bsG) (hd : decode cc pc = .ok (.getstatic index, 3)) (k : xVY p l e R s m args below meth c cells slots Q ρ cA dC dI A Rz nL (pc + 3) lv (.ref (ρ 17 0 0) :: st) X) : xVY p l e R s m args below meth c cells slots Q ρ cA dC dI A Rz nL pc lv st X := fun ls H locs hl hP hD hS => va_gets C.1.1 C.1.2.1 C.2.2.2.1.2.2.2.1.1.1 hS C.1.2.2.2.1 (C.1.2.2.2.2 _ (C.2.2.1 _ hf)) (fun _ h => h) hd (k ls H locs hl hP hD hS)
theorem x_gsDTY (C : xCx p m c cc nL s args Ts own ρ sc L xs cA dC dI A meth ret) {index : Nat} (hf : Cond.fieldLink own index "java/lang/Integer" "DigitTens" "[B" ∈ bsG) (hd : decode cc pc = .ok (.getstatic index, 3)) (k : xVY p l e R s m args below meth c cells slots Q ρ cA dC dI A Rz nL (pc + 3) lv (.ref (ρ 17 1 0) :: st) X) : xVY p l e R s m args below meth c cells slots Q ρ cA dC dI A Rz nL pc lv st X := fun ls H locs hl hP hD hS => va_gets C.1.1 C.1.2.1 C.2.2.2.1.2.2.2.1.2.1 hS C.1.2.2.2.1 (C.1.2.2.2.2 _ (C.2.2.1 _ hf)) (fun _ h => h) hd (k ls H locs hl hP hD hS)
theorem x_DOY (C : xCx p m c cc nL s args Ts own ρ sc L xs cA dC dI A meth ret) {j : Nat} (hj : j < 100) (hd : decode cc pc = .ok (.baload, 1)) (k : xVY p l e R s m args below meth c cells slots Q ρ cA dC dI A Rz nL (pc + 1) lv (.int (nI (48 + j % 10)) :: st) X) : xVY p l e R s m args below meth c cells slots Q ρ cA dC dI A Rz nL pc lv (.int (nI j) :: .ref (ρ 17 0 0) :: st) X := fun ls H locs hl hP hD hS => va_tb C.1.1 C.1.2.1 C.2.2.2.1.2.2.2.1.1.2 hS (vp_in_nI hj (by decide)) (by rw [nI_clamp (by omega)]) hd (k ls H locs hl hP hD hS)
theorem x_DTY (C : xCx p m c cc nL s args Ts own ρ sc L xs cA dC dI A meth ret) {j : Nat} (hj : j < 100) (hd : decode cc pc = .ok (.baload, 1)) (k : xVY p l e R s m args below meth c cells slots Q ρ cA dC dI A Rz nL (pc + 1) lv (.int (nI (48 + j / 10)) :: st) X) : xVY p l e R s m args below meth c cells slots Q ρ cA dC dI A Rz nL pc lv (.int (nI j) :: .ref (ρ 17 1 0) :: st) X := fun ls H locs hl hP hD hS => va_tb C.1.1 C.1.2.1 C.2.2.2.1.2.2.2.1.2.2 hS (vp_in_nI hj (by decide)) (by rw [nI_clamp (by omega)]) hd (k ls H locs hl hP hD hS)
theorem x_sgetVY (C : xCx p m c cc nL s args Ts own ρ sc L xs cA dC dI A meth ret) {t index : Nat} (ht : t < 22) (hf : Cond.fieldLink own index "java/lang/String" "value" "[B" ∈ bsG) (hd : decode cc pc = .ok (.getfield index, 3)) (k : xVY p l e R s m args below meth c cells slots Q ρ cA dC dI A Rz nL (pc + 3) lv (.ref (ρ 16 1 t) :: st) X) : xVY p l e R s m args below meth c cells slots Q ρ cA dC dI A Rz nL pc lv (.ref (ρ 16 0 t) :: st) X := fun ls H locs hl hP hD hS => vk_getf C.1.1 C.1.2.1 (C.2.2.2.1.2.1.1.1 t ht).2.2.1 hS C.1.2.2.2.1 (C.1.2.2.2.2 _ (C.2.2.1 _ hf)) (fun _ h => h) hd (k ls H locs hl hP hD hS)
theorem x_slenY (C : xCx p m c cc nL s args Ts own ρ sc L xs cA dC dI A meth ret) {t : Nat} (ht : t < 22) (hd : decode cc pc = .ok (.arraylength, 1)) (k : xVY p l e R s m args below meth c cells slots Q ρ cA dC dI A Rz nL (pc + 1) lv (.int (bsLen t) :: st) X) : xVY p l e R s m args below meth c cells slots Q ρ cA dC dI A Rz nL pc lv (.ref (ρ 16 1 t) :: st) X := fun ls H locs hl hP hD hS => va_tlen C.1.1 C.1.2.1 (C.2.2.2.1.2.1.1.1 t ht).2.2.2 hS rfl hd (k ls H locs hl hP hD hS)
theorem x_callTiY (C : xCx p m c cc nL s args Ts own ρ sc L xs cA dC dI A meth ret) {y : MethodName} {b : ByteArray} {nL' index t : Nat} {ret' : Option FieldType} {rm' : Room} {As rest : List Value} {z : Int32 × bsX} (ht : t < 22) (hcls : y.cls = RJ0) (hM : bsMiY l y b nL' ret' rm' ρ cA dC dI Rz (.ref (ρ 16 0 t) :: As) X z)
    (hl0 : Cond.methodLink own index y ∈ bsG) (hw : bsWy y b nL' ret') (hde : (parseMethodDescriptor y.desc).map (fun d => d.parameters.length) = some As.length)
    (hR : rm'.frames + 1 ≤ R.frames ∧ 8 + (nL' + 11) + rm'.locals ≤ R.locals) (hz0 : rm'.cells = 0 ∧ rm'.slots = 0) (hcs : cells ≤ R.cells ∧ slots ≤ R.slots) (hst : st = As.reverse ++ .ref (ρ 16 0 t) :: rest) (hW : (rest.map fun v => v.category).sum ≤ 8) (hd : decode cc pc = .ok (.invokevirtual index, 3))
    (kk : xVY p l e R s m args below meth c cells slots Q ρ cA dC dI A Rz nL (pc + 3) lv (.int z.1 :: rest) z.2) : xVY p l e R s m args below meth c cells slots Q ρ cA dC dI A Rz nL pc lv st X := by
  intro ls H locs hl hP hD hS
  have hpre := x_preBY (As := .ref (ρ 16 0 t) :: As) C hP hD hS
  have hrv := vk_recv C.2.2.2.1.2.1.1 ht hS
  rw [show "java/lang/String" = y.cls from hcls.symm] at hrv
  refine va_calli (va_runV (As := As) (rest := rest) C.1 (hM H.size) (cwV As.length C.1.2.2.2.2 (bs_goodV C.2.2.1 hl0 hw) rfl hz0.1 hz0.2 ⟨rfl, hw.2.2.2.2.1, hw.2.2.2.2.2, hde⟩ hR) ⟨hpre.1, hrv, hpre.2⟩ rfl rfl hl.1 hst (lv_room hW) hd ⟨hcs.1, hcs.2⟩) hS (fun q _ h => xA_subY C hD hS q h) (fun q h => xA_subY C hD hS q h) (fun r u t H1 locs1 ht hvm hr hB hz1 hk1 hS1 => ?_)
  have hr1 : r = z.1 := hr
  subst hr1
  exact x_backBY hl ht hB hD hS1 kk
theorem x_copyBY (C : xCx p m c cc nL s args Ts own ρ sc L xs cA dC dI A meth ret) {index q0 q1 a0 a n0 n1 : Nat} {f g : Nat → Int32} {sp dp n : Int32} (hlink : Cond.methodLink own index arraycopyName ∈ bsG) (ha0 : Rz[q0]? = some (a0, .inl (cA 1, n0, .inl f))) (ha1 : Rz[q1]? = some (a, .inl (cA 1, n1, .inl g))) (h1 : ¬ sp < 0) (h2 : ¬ dp < 0) (h3 : ¬ n < 0) (h4 : sp.toNatClampNeg + n.toNatClampNeg ≤ n0) (h5 : dp.toNatClampNeg + n.toNatClampNeg ≤ n1) (hfit : ∀ i, i < n.toNatClampNeg → fits .byte (.int (f (sp.toNatClampNeg + i))) = true) (hfr : 1 ≤ R.frames) (hlo : (st.map fun v => v.category).sum + (nativeFrameWords "java/lang/System" "arraycopy" 5 + 11) ≤ R.locals) (hR : Rz.set q1 (a, .inl (cA 1, n1, .inl (va_cpy f g sp.toNatClampNeg dp.toNatClampNeg n.toNatClampNeg))) = Rz') (hd : decode cc pc = .ok (.invokestatic index, 3)) (kk : xVY p l e R s m args below meth c cells slots Q ρ cA dC dI A Rz' nL (pc + 3) lv st X) : xVY p l e R s m args below meth c cells slots Q ρ cA dC dI A Rz nL pc lv (.int n :: .int dp :: .ref a :: .int sp :: .ref a0 :: st) X := by
  intro ls H locs hl hP hD hS
  have W9 := fun w (h : w ∈ bsG) => C.1.2.2.2.2 w (C.2.2.1 w h)
  refine va_copyi C.1.1 C.1.2.1 (C.1.2.2.1.trans hl.1.symm) C.1.2.2.2.1 (W9 _ hlink) (W9 _ ac_ok.1) (W9 _ ac_ok.2.1) (W9 _ ac_ok.2.2) C.2.1 hP hD hS (bsKeysY.length + q0) (bsKeysY.length + q1) 1 1 ((xW_atY q0).trans ha0) ((xW_atY q1).trans ha1) rfl rfl rfl h1 h2 h3 h4 h5 hfit hfr hlo hd (fun H locs hP hD hS => ?_)
  rw [xW_setY, hR] at hP hD
  exact kk ls H locs hl hP hD hS
theorem x_copyTY (C : xCx p m c cc nL s args Ts own ρ sc L xs cA dC dI A meth ret) {index t q1 a n1 : Nat} {g : Nat → Int32} {sp dp n : Int32} (ht : t < 22) (hlink : Cond.methodLink own index arraycopyName ∈ bsG) (ha1 : Rz[q1]? = some (a, .inl (cA 1, n1, .inl g))) (h1 : ¬ sp < 0) (h2 : ¬ dp < 0) (h3 : ¬ n < 0) (h4 : sp.toNatClampNeg + n.toNatClampNeg ≤ bsSl.getD t 0) (h5 : dp.toNatClampNeg + n.toNatClampNeg ≤ n1) (hfit : ∀ i : Nat, i < n.toNatClampNeg → fits .byte (.int ((bsSb.getD t []).getD (sp.toNatClampNeg + i) 0)) = true) (hfr : 1 ≤ R.frames) (hlo : (st.map fun v => v.category).sum + (nativeFrameWords "java/lang/System" "arraycopy" 5 + 11) ≤ R.locals) (hR : Rz.set q1 (a, .inl (cA 1, n1, .inl (va_cpy (fun j => (bsSb.getD t []).getD j 0) g sp.toNatClampNeg dp.toNatClampNeg n.toNatClampNeg))) = Rz') (hd : decode cc pc = .ok (.invokestatic index, 3)) (kk : xVY p l e R s m args below meth c cells slots Q ρ cA dC dI A Rz' nL (pc + 3) lv st X) : xVY p l e R s m args below meth c cells slots Q ρ cA dC dI A Rz nL pc lv (.int n :: .int dp :: .ref a :: .int sp :: .ref (ρ 16 1 t) :: st) X := by
  intro ls H locs hl hP hD hS
  have W9 := fun w (h : w ∈ bsG) => C.1.2.2.2.2 w (C.2.2.1 w h)
  refine vk_copyt C.1.1 C.1.2.1 (C.1.2.2.1.trans hl.1.symm) C.1.2.2.2.1 (W9 _ hlink) (W9 _ ac_ok.1) (W9 _ ac_ok.2.1) (W9 _ ac_ok.2.2) C.2.1 hP hD hS (C.2.2.2.1.2.1.1.1 t ht).2.2.2 (bsKeysY.length + q1) 1 ((xW_atY q1).trans ha1) rfl h1 h2 h3 h4 h5 hfit hfr hlo hd (fun H locs hP hD hS => ?_)
  rw [xW_setY, hR] at hP hD
  exact kk ls H locs hl hP hD hS
theorem x_objInitY (C : xCx p m c cc nL s args Ts own ρ sc L xs cA dC dI A meth ret) {idx a : Nat} (hlink : Cond.methodLink own idx objectInit ∈ bsG) (hd : decode cc pc = .ok (.invokespecial idx, 3)) (hR : 1 ≤ R.frames ∧ (st.map fun v => v.category).sum + 12 ≤ R.locals) (k : xVY p l e R s m args below meth c cells slots Q ρ cA dC dI A Rz nL (pc + 3) lv st X) : xVY p l e R s m args below meth c cells slots Q ρ cA dC dI A Rz nL pc lv (.ref a :: st) X := by
  intro ls H locs hl hP hD hS
  have W9 := fun w (h : w ∈ bsG) => C.1.2.2.2.2 w (C.2.2.1 w h)
  refine W.objInit C.1.1 C.1.2.1 C.1.2.2.2.1 (W9 _ hlink) (W9 _ xoi_1) (W9 _ xoi_2) rfl (by rw [C.1.2.2.1]; exact hl.1) rfl hd hR.1 (by have := hR.2; show 2 * 0 + _ + 12 ≤ _; omega) ?_
  exact W.eq (g2 := F0 m (pc + 3) ls st) rfl (k ls H locs hl hP hD hS)
theorem x_putFY (C : xCx p m c cc nL s args Ts own ρ sc L xs cA dC dI A meth ret) (hin2 : meth.name = "<init>") {q0 a ci index N k : Nat} {Cn ref : String} {T : u_T} {fs : List Value} {v : Value} {ty : FieldType} (he : Rz[q0]? = some (a, .inr (ci, fs))) (hci : vwCl[ci]? = some (Cn, T, N)) (hin : ∀ w ∈ u_ws Cn T N, w ∈ bsG) (ty0 : Nat → FieldType) (hty : ∀ k, k < N → parseFieldDescriptor (T k).2.2.1 = some (ty0 k)) (hnm : ∀ a, a < N → ∀ b, b < N → a ≠ b → (T a).2.1 ≠ (T b).2.1) (hkN : k < N) (hlink : Cond.fieldLink own index ref (T k).2.1 (T k).2.2.1 ∈ bsG) (hsame : (T k).1 = ref) (hfin : (T k).2.2.2 = true) (hdecl : (T k).1 = own) (htk : ty0 k = ty) (hn : narrow ty v = v) (hf : fits ty v = true) (hlen : k < fs.length) (hR : Rz.set q0 (a, .inr (ci, fs.set k v)) = Rz') (hd : decode cc pc = .ok (.putfield index, 3)) (kk : xVY p l e R s m args below meth c cells slots Q ρ cA dC dI A Rz' nL (pc + 3) lv st X) : xVY p l e R s m args below meth c cells slots Q ρ cA dC dI A Rz nL pc lv (v :: .ref a :: st) X := by
  intro ls H locs hl hP hD hS
  refine va_putF (D := (dC, dI)) C.1.1 C.1.2.1 C.1.2.2.2.2 (fun w h => C.2.2.1 w (hin w h)) ty0 hty hnm C.1.2.2.2.1 C.2.1 hP hD hS (bsKeysY.length + q0) ((xW_atY q0).trans he) hci k hkN (C.1.2.2.2.2 _ (C.2.2.1 _ hlink)) (fun x h => by rw [← hsame]; exact h) hfin hin2 hdecl (by rw [← htk]; exact hty k hkN) hn hf hlen hd (fun H locs hP hD hS => ?_)
  rw [xW_setY, hR] at hP hD
  exact kk ls H locs hl hP hD hS
theorem x_callUiY (C : xCx p m c cc nL s args Ts own ρ sc L xs cA dC dI A meth ret) {y : MethodName} {b : ByteArray} {nL' index : Nat} {ret' : Option FieldType} {rm' : Room} {As rest : List Value} {q0 a : Nat} {fs : List Value} {P : Int32 → bsX → va_W → Prop} (hM : xMiY l y b nL' ret' rm' ρ sc L xs cA dC dI (.ref a :: As) X Rz P) (hl0 : Cond.methodLink own index y ∈ bsG) (hw : xWu y b nL' ret') (he : Rz[q0]? = some (a, .inr (1, fs))) (hde : (parseMethodDescriptor y.desc).map (fun d => d.parameters.length) = some As.length) (hR : rm'.frames + 1 ≤ R.frames ∧ 8 + (nL' + 11) + rm'.locals ≤ R.locals) (hcs : cells + rm'.cells ≤ R.cells ∧ slots + rm'.slots ≤ R.slots) (hst : st = As.reverse ++ .ref a :: rest) (hW : (rest.map fun v => v.category).sum ≤ 8) (hd : decode cc pc = .ok (.invokevirtual index, 3))
    (kk : ∀ (r : Int32) (X' : bsX) (Rz' : va_W), P r X' Rz' → xVY p l e R s m args below meth c (cells + rm'.cells) (slots + rm'.slots) Q ρ cA dC dI A Rz' nL (pc + 3) lv (.int r :: rest) X') : xVY p l e R s m args below meth c cells slots Q ρ cA dC dI A Rz nL pc lv st X := by
  intro ls H locs hl hP hD hS
  have hpre := x_preY (As := .ref a :: As) C hP hD hS
  exact va_calli (va_runU (C := RJ4) (As := As) (rest := rest) C.1 (hM H.size) (x_cwU C hl0 hw hde hR) ⟨hpre.1, va_recv (q := (RJ4, TJ4, 4)) C.2.1 hP rfl ((xW_atY q0).trans he), hpre.2⟩ rfl rfl hl.1 hst (lv_room hW) hd hcs) hS (fun q _ h => xA_subY C hD hS q h) (fun q h => xA_subY C hD hS q h) (fun r u t H1 locs1 ht hvm hr hB hz1 hk1 hS1 => x_backY hl ht hB (xA_subY C hD hS) hS1 (kk r u.1 u.2 hr))
theorem x_callUvY (C : xCx p m c cc nL s args Ts own ρ sc L xs cA dC dI A meth ret) {y : MethodName} {b : ByteArray} {nL' index : Nat} {ret' : Option FieldType} {rm' : Room} {As rest : List Value} {q0 a : Nat} {fs : List Value} {P : bsX → va_W → Prop} (hM : xMvY l y b nL' ret' rm' ρ sc L xs cA dC dI (.ref a :: As) X Rz P) (hl0 : Cond.methodLink own index y ∈ bsG) (hw : xWu y b nL' ret') (he : Rz[q0]? = some (a, .inr (1, fs))) (hde : (parseMethodDescriptor y.desc).map (fun d => d.parameters.length) = some As.length) (hR : rm'.frames + 1 ≤ R.frames ∧ 8 + (nL' + 11) + rm'.locals ≤ R.locals) (hcs : cells + rm'.cells ≤ R.cells ∧ slots + rm'.slots ≤ R.slots) (hst : st = As.reverse ++ .ref a :: rest) (hW : (rest.map fun v => v.category).sum ≤ 8) (hd : decode cc pc = .ok (.invokevirtual index, 3))
    (kk : ∀ (X' : bsX) (Rz' : va_W), P X' Rz' → xVY p l e R s m args below meth c (cells + rm'.cells) (slots + rm'.slots) Q ρ cA dC dI A Rz' nL (pc + 3) lv rest X') : xVY p l e R s m args below meth c cells slots Q ρ cA dC dI A Rz nL pc lv st X := by
  intro ls H locs hl hP hD hS
  have hpre := x_preY (As := .ref a :: As) C hP hD hS
  exact va_callv (va_runU (C := RJ4) (As := As) (rest := rest) C.1 (hM H.size) (x_cwU C hl0 hw hde hR) ⟨hpre.1, va_recv (q := (RJ4, TJ4, 4)) C.2.1 hP rfl ((xW_atY q0).trans he), hpre.2⟩ rfl rfl hl.1 hst (lv_room hW) hd hcs) hS (fun q _ h => xA_subY C hD hS q h) (fun q h => xA_subY C hD hS q h) (fun u t H1 locs1 ht hvm hr hB hz1 hk1 hS1 => x_backY hl ht hB (xA_subY C hD hS) hS1 (kk u.1 u.2 hr))
theorem x_callOrY (C : xCx p m c cc nL s args Ts own ρ sc L xs cA dC dI A meth ret) {y : MethodName} {b : ByteArray} {nL' index : Nat} {ret' : Option FieldType} {rm' : Room} {As rest : List Value} {q0 a : Nat} {fs : List Value} {P : Nat → bsX → va_W → Prop} (hM : xMrY l y b nL' ret' rm' ρ sc L xs cA dC dI (.ref a :: As) X Rz P) {x : MethodName} {b0 : ByteArray} {nL0 : Nat} {ret0 : Option FieldType} (hl0 : Cond.methodLink own index x ∈ bsG) (hw : xWo y b nL' ret') (hx : Cond.instanceMethod x ∈ bsG ∧ Cond.code x b0 nL0 ret0 ∈ bsG ∧ Cond.sameMethod x.cls x.cls x.name x.desc ∈ bsG ∧ Cond.selects RJ4 x y ∈ bsG ∧ (x.cls ≠ "java/lang/invoke/MethodHandle" ∧ x.cls ≠ "java/lang/invoke/VarHandle")) (he : Rz[q0]? = some (a, .inr (1, fs))) (hde : (parseMethodDescriptor x.desc).map (fun d => d.parameters.length) = some As.length) (hR : rm'.frames + 1 ≤ R.frames ∧ 8 + (nL' + 11) + rm'.locals ≤ R.locals) (hcs : cells + rm'.cells ≤ R.cells ∧ slots + rm'.slots ≤ R.slots) (hst : st = As.reverse ++ .ref a :: rest) (hW : (rest.map fun v => v.category).sum ≤ 8) (hd : decode cc pc = .ok (.invokevirtual index, 3))
    (kk : ∀ (r : Nat) (X' : bsX) (Rz' : va_W), P r X' Rz' → xVY p l e R s m args below meth c (cells + rm'.cells) (slots + rm'.slots) Q ρ cA dC dI A Rz' nL (pc + 3) lv (.ref r :: rest) X') : xVY p l e R s m args below meth c cells slots Q ρ cA dC dI A Rz nL pc lv st X := by
  intro ls H locs hl hP hD hS
  have hpre := x_preY (As := .ref a :: As) C hP hD hS
  exact va_callr (va_runU (C := RJ4) (As := As) (rest := rest) C.1 (hM H.size) (x_cwO C hl0 hw hx hde hR) ⟨hpre.1, va_recv (q := (RJ4, TJ4, 4)) C.2.1 hP rfl ((xW_atY q0).trans he), hpre.2⟩ rfl rfl hl.1 hst (lv_room hW) hd hcs) hS (fun q _ h => xA_subY C hD hS q h) (fun q h => xA_subY C hD hS q h) (fun u ra t H1 locs1 ht hvm hr hB hz1 hk1 hS1 => x_backY hl ht hB.2 (xA_subY C hD hS) hS1 (kk ra u.1 u.2 hB.1))
theorem x_callSr'Y (C : xCx p m c cc nL s args Ts own ρ sc L xs cA dC dI A meth ret) {y : MethodName} {b : ByteArray} {nL' index : Nat} {ret' : Option FieldType} {rm' : Room} {As rest : List Value} {q0 a : Nat} {fs : List Value} {P : Nat → bsX → va_W → Prop} (hM : xMrY l y b nL' ret' rm' ρ sc L xs cA dC dI (.ref a :: As) X Rz P) (hl0 : Cond.methodLink own index y ∈ bsG) (hw : xWs own y b nL' ret') (he : Rz[q0]? = some (a, .inr (1, fs))) (hde : (parseMethodDescriptor y.desc).map (fun d => d.parameters.length) = some As.length) (hR : rm'.frames + 1 ≤ R.frames ∧ 8 + (nL' + 11) + rm'.locals ≤ R.locals) (hcs : cells + rm'.cells ≤ R.cells ∧ slots + rm'.slots ≤ R.slots) (hst : st = As.reverse ++ .ref a :: rest) (hW : (rest.map fun v => v.category).sum ≤ 8) (hd : decode cc pc = .ok (.invokespecial index, 3))
    (kk : ∀ (r : Nat) (X' : bsX) (Rz' : va_W), P r X' Rz' → xVY p l e R s m args below meth c (cells + rm'.cells) (slots + rm'.slots) Q ρ cA dC dI A Rz' nL (pc + 3) lv (.ref r :: rest) X') : xVY p l e R s m args below meth c cells slots Q ρ cA dC dI A Rz nL pc lv st X := by
  intro ls H locs hl hP hD hS
  have hpre := x_preY (As := .ref a :: As) C hP hD hS
  exact va_callr (va_runSU (C := RJ4) (As := As) (rest := rest) (C.2.1.1 1 (RJ4, TJ4, 4) rfl).2 C.1 (hM H.size) (x_cwSU C hl0 hw hde hR) ⟨hpre.1, va_recv (q := (RJ4, TJ4, 4)) C.2.1 hP rfl ((xW_atY q0).trans he), hpre.2⟩ rfl rfl hl.1 hst (lv_room hW) hd hcs) hS (fun q _ h => xA_subY C hD hS q h) (fun q h => xA_subY C hD hS q h) (fun u ra t H1 locs1 ht hvm hr hB hz1 hk1 hS1 => x_backY hl ht hB.2 (xA_subY C hD hS) hS1 (kk ra u.1 u.2 hB.1))
end JDK0
theorem xMv_ofNY {l : Launch} {y : MethodName} {b : ByteArray} {nL : Nat} {ret : Option FieldType} {rm : Room} {ρ : bsR} {sc L : Nat} {xs : Nat → Int32} {cA : Nat → ClassId} {dC : Nat → ClassId} {dI : Nat → Nat → Nat} {As : List Value} {X : bsX} {Rz : va_W} {P : bsX → va_W → Prop} (hy : plainName y.cls = true) (hin : y.name = "<init>") (hlen : (lg_sl As).length ≤ nL)
    (body : ∀ (p : Program) (e : Env) (s : State) (m : MethodId) (args : Array Value) (below : List Frame) (meth : Method) (c : Code), meth.name = "<init>" → xCx p m c b nL s args (Cond.code y b nL ret :: bsG) y.cls ρ sc L xs cA dC dI (bsAY ρ cA Rz s.heap.size) meth ret →
      xVY p l e rm s m args below meth c 0 0 (MQ below (xQvY ρ cA dC dI (bsAY ρ cA Rz s.heap.size) P) args s rm.cells rm.slots (bsAY ρ cA Rz s.heap.size)) ρ cA dC dI (bsAY ρ cA Rz s.heap.size) Rz nL 0 (lv_args 0 As) [] X) : xMvY l y b nL ret rm ρ sc L xs cA dC dI As X Rz P := by
  intro sz
  refine Met.ofW (cc := b) (maxL := nL) (ret := ret) hy rfl ?_
  intro p e s m args below meth c s₁ B hml hv
  obtain ⟨rfl, hsz, ⟨hP, hK, hD0, hN, hE⟩, hE2⟩ := hv
  subst hsz
  have hts := atoms_spec (ws := Cond.code y b nL ret :: bsG) B.pre
  have hown : s.vm.findClass y.cls = some m.cls := findClass_of_methodNamed B.named
  have hnm : meth.name = "<init>" := (name_of_methodNamed B.named B.method).1.trans hin
  have hl := lv_entry As hlen
  rw [lg_entry_eq]
  exact body p e s m _ below meth c hnm ⟨⟨B.exec, B.bytes, hml, hown, hts⟩, hK, fun w h => List.mem_cons_of_mem _ h, ⟨hN, hE, hE2⟩, B.notSynchronized, B.returns, fun q hq => bsA_leY hq⟩ _ _ _ hl hP (bsD_selfY _ hD0) va_S.rf
set_option maxHeartbeats 4000000 in
set_option maxRecDepth 100000 in
theorem cJ5_isLatin1_aae02_okY {l : Launch} {ρ : bsR} {sc L : Nat} {xs : Nat → Int32} {cA : Nat → ClassId} {dC : Nat → ClassId} {dI : Nat → Nat → Nat} {X : bsX} {q0 b v : Nat} {ml n : Int32} {Rz : va_W} (he : Rz[q0]? = some (b, sbC v ml n)) : xMiY l yJ5_isLatin1_aae02 cJ5_isLatin1_aae02 1 (some .boolean) rmJ5_isLatin1_aae02 ρ sc L xs cA dC dI [.ref b] X (Rz) (fun r X' R' => r = 1 ∧ X' = X ∧ R' = Rz) := by
  refine xMi_ofY (by decide +kernel) (Nat.le_of_ble_eq_true rfl) (fun p e s m args below meth c C => ?_)
  have C : xCx p m c cJ5_isLatin1_aae02 1 s args (Cond.code yJ5_isLatin1_aae02 cJ5_isLatin1_aae02 1 (some .boolean) :: bsG) RJ5 ρ sc L xs cA dC dI (bsAY ρ cA (Rz) s.heap.size) meth (some .boolean) := C
  refine x_subY [0] rfl ?_
  refine x_gsCSY C (bsG_in 550 (by decide +kernel) rfl) dJ5_isLatin1_aae02_0 ?_
  refine x_if_eqY (tgt := 17) C dJ5_isLatin1_aae02_3 (by decide) (fun h => absurd h (by decide)) (fun _ => ?_)
  refine x_aload_nY C dJ5_isLatin1_aae02_6 rfl rfl ?_
  refine x_getY C (T := TJ4) (N := 4) (k := 1) (Cn := RJ4) (ref := "java/lang/AbstractStringBuilder") he rfl bsin_J4 (by decide) (bsG_in 611 (by decide +kernel) rfl) rfl rfl dJ5_isLatin1_aae02_7 ?_
  refine x_if_neY (tgt := 17) C dJ5_isLatin1_aae02_10 (by decide) (fun h => absurd (rfl) h) (fun _ => ?_)
  refine x_iconstY (v := 1) C dJ5_isLatin1_aae02_13 (by decide) ?_
  refine x_gotoY (tgt := 18) C dJ5_isLatin1_aae02_14 (by decide) ?_
  exact x_xretY C (rfl) (⟨rfl, rfl, rfl⟩) (Nat.le_of_ble_eq_true rfl) (Nat.le_of_ble_eq_true rfl) dJ5_isLatin1_aae02_18
set_option maxHeartbeats 4000000 in
set_option maxRecDepth 100000 in
theorem cJ8_newLength_cabcc_okY {l : Launch} {ρ : bsR} {sc L : Nat} {xs : Nat → Int32} {cA : Nat → ClassId} {dC : Nat → ClassId} {dI : Nat → Nat → Nat} {X : bsX} {k d g w : Nat} {Rz : va_W} (h0 : k + (if d < g then g else d) = w) (hd : d < 2 ^ 30) (hp : g < 2 ^ 30) (hw0 : 0 < w) (hw : w ≤ 65536) : xMiY l yJ8_newLength_cabcc cJ8_newLength_cabcc 4 (some .int) rmJ8_newLength_cabcc ρ sc L xs cA dC dI [.int (nI k), .int (nI d), .int (nI g)] X (Rz) (fun r X' R' => r = nI w ∧ X' = X ∧ R' = Rz) := by
  refine xMi_ofY (by decide +kernel) (Nat.le_of_ble_eq_true rfl) (fun p e s m args below meth c C => ?_)
  have C : xCx p m c cJ8_newLength_cabcc 4 s args (Cond.code yJ8_newLength_cabcc cJ8_newLength_cabcc 4 (some .int) :: bsG) RJ8 ρ sc L xs cA dC dI (bsAY ρ cA (Rz) s.heap.size) meth (some .int) := C
  refine x_subY [0, 1, 2] rfl ?_
  refine x_iload_nY C dJ8_newLength_cabcc_0 rfl rfl ?_
  refine x_iload_nY C dJ8_newLength_cabcc_1 rfl rfl ?_
  refine x_iload_nY C dJ8_newLength_cabcc_2 rfl rfl ?_
  refine x_mmaxY C (Nat.le_of_ble_eq_true rfl) (Nat.le_of_ble_eq_true rfl) (Nat.le_of_ble_eq_true rfl) (Nat.le_of_ble_eq_true rfl) (bsG_in 522 (by decide +kernel) rfl) dJ8_newLength_cabcc_3 ?_
  refine x_iaddY C dJ8_newLength_cabcc_6 ?_
  refine x_topiY (y := (nI w)) (jd_len h0 hd hp) ?_
  refine x_istore_nY (lv' := [(3, .int (nI w)), (0, .int (nI k)), (1, .int (nI d)), (2, .int (nI g))]) C dJ8_newLength_cabcc_7 rfl (by decide) rfl ?_
  refine x_iconstY (v := 0) C dJ8_newLength_cabcc_8 (by decide) ?_
  refine x_iload_nY C dJ8_newLength_cabcc_9 rfl rfl ?_
  refine x_icmp_geY (tgt := 21) C dJ8_newLength_cabcc_10 (by decide) (fun h => absurd h (nI_nle hw0 (by omega))) (fun _ => ?_)
  refine x_iload_nY C dJ8_newLength_cabcc_13 rfl rfl ?_
  refine x_ldcY (v := 2147483639) C (bsG_in 525 (by decide +kernel) rfl) dJ8_newLength_cabcc_14 ?_
  refine x_icmp_gtY (tgt := 21) C dJ8_newLength_cabcc_16 (by decide) (fun h => absurd h (show ¬ nI 2147483639 < nI w from nI_nlt (by omega) (by decide))) (fun _ => ?_)
  refine x_iload_nY C dJ8_newLength_cabcc_19 rfl rfl ?_
  exact x_iretY C (⟨rfl, rfl, rfl⟩) (Nat.le_of_ble_eq_true rfl) (Nat.le_of_ble_eq_true rfl) dJ8_newLength_cabcc_20
set_option maxHeartbeats 4000000 in
set_option maxRecDepth 100000 in
theorem cJ5_newCapacity_0f7a4_okY {l : Launch} {ρ : bsR} {sc L : Nat} {xs : Nat → Int32} {cA : Nat → ClassId} {dC : Nat → ClassId} {dI : Nat → Nat → Nat} {X : bsX} {q0 q1 b v k q : Nat} {ml n : Int32} {a : Nat → Int32} {Rz : va_W} (he : Rz[q0]? = some (b, sbC v ml n)) (hv : Rz[q1]? = some (v, byC cA k a)) (hqm : k < q) (hq : q ≤ 512) (hm : k ≤ 1026) : xMiY l yJ5_newCapacity_0f7a4 cJ5_newCapacity_0f7a4 6 (some .int) rmJ5_newCapacity_0f7a4 ρ sc L xs cA dC dI [.ref b, .int (nI q)] X (Rz) (fun r X' R' => r = nI (sb_cap q k) ∧ X' = X ∧ R' = Rz) := by
  refine xMi_ofY (by decide +kernel) (Nat.le_of_ble_eq_true rfl) (fun p e s m args below meth c C => ?_)
  have C : xCx p m c cJ5_newCapacity_0f7a4 6 s args (Cond.code yJ5_newCapacity_0f7a4 cJ5_newCapacity_0f7a4 6 (some .int) :: bsG) RJ5 ρ sc L xs cA dC dI (bsAY ρ cA (Rz) s.heap.size) meth (some .int) := C
  refine x_subY [0, 1] rfl ?_
  refine x_aload_nY C dJ5_newCapacity_0f7a4_0 rfl rfl ?_
  refine x_getY C (T := TJ4) (N := 4) (k := 0) (Cn := RJ4) (ref := "java/lang/AbstractStringBuilder") he rfl bsin_J4 (by decide) (bsG_in 610 (by decide +kernel) rfl) rfl rfl dJ5_newCapacity_0f7a4_1 ?_
  refine x_alenY C (v := nI k) (ty := .byte) hv rfl rfl dJ5_newCapacity_0f7a4_4 ?_
  refine x_istore_nY (lv' := [(2, .int (nI k)), (0, .ref b), (1, .int (nI q))]) C dJ5_newCapacity_0f7a4_5 rfl (by decide) rfl ?_
  refine x_iload_nY C dJ5_newCapacity_0f7a4_6 rfl rfl ?_
  refine x_aload_nY C dJ5_newCapacity_0f7a4_7 rfl rfl ?_
  refine x_getY C (T := TJ4) (N := 4) (k := 1) (Cn := RJ4) (ref := "java/lang/AbstractStringBuilder") he rfl bsin_J4 (by decide) (bsG_in 611 (by decide +kernel) rfl) rfl rfl dJ5_newCapacity_0f7a4_8 ?_
  refine x_ishlY C dJ5_newCapacity_0f7a4_11 ?_
  refine x_topiY (y := (nI q)) (sb_shl0 _) ?_
  refine x_istore_nY (lv' := [(3, .int (nI q)), (2, .int (nI k)), (0, .ref b), (1, .int (nI q))]) C dJ5_newCapacity_0f7a4_12 rfl (by decide) rfl ?_
  refine x_iload_nY C dJ5_newCapacity_0f7a4_13 rfl rfl ?_
  refine x_iload_nY C dJ5_newCapacity_0f7a4_14 rfl rfl ?_
  refine x_isubY C dJ5_newCapacity_0f7a4_15 ?_
  refine x_topiY (y := (nI (q - k))) (pk_sub (by omega)) ?_
  refine x_istoreY (lv' := [(4, .int (nI (q - k))), (3, .int (nI q)), (2, .int (nI k)), (0, .ref b), (1, .int (nI q))]) C dJ5_newCapacity_0f7a4_16 (by decide) rfl ?_
  refine x_iload_nY C dJ5_newCapacity_0f7a4_18 rfl rfl ?_
  refine x_iloadY C dJ5_newCapacity_0f7a4_19 rfl ?_
  refine x_iload_nY C dJ5_newCapacity_0f7a4_21 rfl rfl ?_
  refine x_iconstY (v := 2) C dJ5_newCapacity_0f7a4_22 (by decide) ?_
  refine x_aload_nY C dJ5_newCapacity_0f7a4_23 rfl rfl ?_
  refine x_getY C (T := TJ4) (N := 4) (k := 1) (Cn := RJ4) (ref := "java/lang/AbstractStringBuilder") he rfl bsin_J4 (by decide) (bsG_in 611 (by decide +kernel) rfl) rfl rfl dJ5_newCapacity_0f7a4_24 ?_
  refine x_ishlY C dJ5_newCapacity_0f7a4_27 ?_
  refine x_topiY (y := 2) (sb_shl0 _) ?_
  refine x_iaddY C dJ5_newCapacity_0f7a4_28 ?_
  refine x_topiY (y := (nI (k + 2))) (nI_add k 2) ?_
  refine x_callSiY (y := yJ8_newLength_cabcc) (As := [.int (nI k), .int (nI (q - k)), .int (nI (k + 2))]) (rest := []) C (cJ8_newLength_cabcc_okY (w := sb_cap q k) (jd_cap hqm) (by omega) (by omega) (by have := jd_capb hqm hq hm; omega) (by have := jd_capb hqm hq hm; omega)) (bsG_in 519 (by decide +kernel) rfl) wzJ8_newLength_cabcc dpJ8_newLength_cabcc ⟨Nat.le_of_ble_eq_true rfl, Nat.le_of_ble_eq_true rfl⟩ ⟨Nat.le_of_ble_eq_true rfl, Nat.le_of_ble_eq_true rfl⟩ rfl (Nat.le_of_ble_eq_true rfl) dJ5_newCapacity_0f7a4_29 (fun r X' R' hp => ?_)
  obtain ⟨e1, e2, e3⟩ := hp
  rw [e1, e2, e3]
  clear e1 e2 e3 r X' R'
  refine x_istoreY (lv' := [(5, .int (nI (sb_cap q k))), (4, .int (nI (q - k))), (3, .int (nI q)), (2, .int (nI k)), (0, .ref b), (1, .int (nI q))]) C dJ5_newCapacity_0f7a4_32 (by decide) rfl ?_
  refine x_iloadY C dJ5_newCapacity_0f7a4_34 rfl ?_
  refine x_ldcY (v := 2147483647) C (bsG_in 485 (by decide +kernel) rfl) dJ5_newCapacity_0f7a4_36 ?_
  refine x_icmp_neY (tgt := 51) C dJ5_newCapacity_0f7a4_38 (by decide) (fun _ => ?_) (fun h => absurd h (fun z => by have := jd_capb hqm hq hm; have := (nI_eq (by omega) (by decide)).mp (show nI (sb_cap q k) = nI 2147483647 from z); omega))
  refine x_iloadY C dJ5_newCapacity_0f7a4_51 rfl ?_
  refine x_aload_nY C dJ5_newCapacity_0f7a4_53 rfl rfl ?_
  refine x_getY C (T := TJ4) (N := 4) (k := 1) (Cn := RJ4) (ref := "java/lang/AbstractStringBuilder") he rfl bsin_J4 (by decide) (bsG_in 611 (by decide +kernel) rfl) rfl rfl dJ5_newCapacity_0f7a4_54 ?_
  refine x_ishrY C dJ5_newCapacity_0f7a4_57 ?_
  refine x_topiY (y := (nI (sb_cap q k))) (sb_shr0 _) ?_
  exact x_iretY C (⟨rfl, rfl, rfl⟩) (Nat.le_of_ble_eq_true rfl) (Nat.le_of_ble_eq_true rfl) dJ5_newCapacity_0f7a4_58
set_option maxHeartbeats 4000000 in
set_option maxRecDepth 100000 in
theorem cJ7_copyOf_9075b_okY {l : Launch} {ρ : bsR} {sc L : Nat} {xs : Nat → Int32} {cA : Nat → ClassId} {dC : Nat → ClassId} {dI : Nat → Nat → Nat} {X : bsX} {q1 v k w : Nat} {a : Nat → Int32} {Rz : va_W} (hv : Rz[q1]? = some (v, byC cA k a)) (hf : sb_Fit a) (hkw : k < w) (hw : w ≤ 1026) : xMrY l yJ7_copyOf_9075b cJ7_copyOf_9075b 3 (some (.array .byte)) rmJ7_copyOf_9075b ρ sc L xs cA dC dI [.ref v, .int (nI w)] X (Rz) (fun r X' R' => X' = X ∧ R' = Rz ++ [(r, byC cA w (va_cpy a (fun _ => 0) 0 0 k))]) := by
  refine xMr_ofY (by decide +kernel) (Nat.le_of_ble_eq_true rfl) (fun p e s m args below meth c C => ?_)
  have C : xCx p m c cJ7_copyOf_9075b 3 s args (Cond.code yJ7_copyOf_9075b cJ7_copyOf_9075b 3 (some (.array .byte)) :: bsG) RJ7 ρ sc L xs cA dC dI (bsAY ρ cA (Rz) s.heap.size) meth (some (.array .byte)) := C
  refine x_subY [0, 1] rfl ?_
  refine x_iload_nY C dJ7_copyOf_9075b_0 rfl rfl ?_
  refine x_aload_nY C dJ7_copyOf_9075b_1 rfl rfl ?_
  refine x_alenY C (v := nI k) (ty := .byte) hv rfl rfl dJ7_copyOf_9075b_2 ?_
  refine x_icmp_neY (tgt := 14) C dJ7_copyOf_9075b_3 (by decide) (fun _ => ?_) (fun h => absurd h (fun z => by have := (nI_eq (by omega) (by omega)).mp z; omega))
  refine x_iload_nY C dJ7_copyOf_9075b_14 rfl rfl ?_
  refine x_newbY (N := w) C (pu_neg _ (by omega)) (nI_clamp (by omega)) (by omega) ⟨Nat.le_of_ble_eq_true rfl, by show 0 + w ≤ 1026; omega⟩ dJ7_copyOf_9075b_15 (fun u => ?_)
  refine x_widenY (k := 1) (n := 1026) (Nat.le_of_ble_eq_true rfl) (by show 0 + w ≤ 1026; omega) ?_
  have hv2 := (List.getElem?_append_left (l₂ := [(u, byC cA w (fun _ => (0 : Int32)))]) (List.getElem?_eq_some_iff.mp hv).1).trans hv
  have hu2 : (Rz ++ [(u, byC cA w (fun _ => (0 : Int32)))])[Rz.length + 0]? = some (u, byC cA w (fun _ => (0 : Int32))) := (jd_at Rz _ 0).trans rfl
  refine x_astore_nY (lv' := [(2, .ref u), (0, .ref v), (1, .int (nI w))]) C dJ7_copyOf_9075b_17 rfl (by decide) rfl ?_
  refine x_aload_nY C dJ7_copyOf_9075b_18 rfl rfl ?_
  refine x_iconstY (v := 0) C dJ7_copyOf_9075b_19 (by decide) ?_
  refine x_aload_nY C dJ7_copyOf_9075b_20 rfl rfl ?_
  refine x_iconstY (v := 0) C dJ7_copyOf_9075b_21 (by decide) ?_
  refine x_aload_nY C dJ7_copyOf_9075b_22 rfl rfl ?_
  refine x_alenY C (v := nI k) (ty := .byte) hv2 rfl rfl dJ7_copyOf_9075b_23 ?_
  refine x_iload_nY C dJ7_copyOf_9075b_24 rfl rfl ?_
  refine x_mminY C (Nat.le_of_ble_eq_true rfl) (Nat.le_of_ble_eq_true rfl) (Nat.le_of_ble_eq_true rfl) (Nat.le_of_ble_eq_true rfl) (bsG_in 539 (by decide +kernel) rfl) dJ7_copyOf_9075b_25 ?_
  refine x_topiY (y := (nI k)) (show bsMin (nI k) (nI w) = nI k from if_neg (nI_nlt (by omega) (by omega))) ?_
  refine x_copyBY C (bsG_in 542 (by decide +kernel) rfl) hv2 hu2 (by decide) (by decide) (pu_neg _ (by omega)) (by rw [sb_cl0, nI_clamp (by omega)]; omega) (by rw [sb_cl0, nI_clamp (by omega)]; omega) (fun i _ => hf _) (Nat.le_of_ble_eq_true rfl) (Nat.le_of_ble_eq_true rfl) (jd_set Rz _ 0 _) dJ7_copyOf_9075b_28 ?_
  rw [sb_cl0, nI_clamp (by omega)]
  refine x_aload_nY C dJ7_copyOf_9075b_31 rfl rfl ?_
  exact x_aretY C (Or.inr ⟨_, rfl⟩) (⟨rfl, rfl⟩) (Nat.le_of_ble_eq_true rfl) (Nat.le_of_ble_eq_true rfl) dJ7_copyOf_9075b_32
set_option maxHeartbeats 4000000 in
set_option maxRecDepth 100000 in
theorem cJ5_ensureCapacityInternal_d00df_okY {l : Launch} {ρ : bsR} {sc L : Nat} {xs : Nat → Int32} {cA : Nat → ClassId} {dC : Nat → ClassId} {dI : Nat → Nat → Nat} {X : bsX} {q b v k : Nat} {ml n : Int32} {a : Nat → Int32} {R0 : va_W} (hq : q ≤ 512) (hm : k ≤ 1026) (hf : sb_Fit a) : xMvY l yJ5_ensureCapacityInternal_d00df cJ5_ensureCapacityInternal_d00df 3 none rmJ5_ensureCapacityInternal_d00df ρ sc L xs cA dC dI [.ref b, .int (nI q)] X (R0 ++ [(b, sbC v ml n), (v, byC cA k a)]) (fun X' R' => X' = X ∧ ∃ (v' : Nat) (a' : Nat → Int32), R' = R0 ++ [(b, sbC v' ml n), (v', byC cA (sb_cap q k) a')] ∧ sb_Fit a' ∧ ∀ j, j < k → a' j = a j) := by
  refine xMv_ofY (by decide +kernel) (Nat.le_of_ble_eq_true rfl) (fun p e s m args below meth c C => ?_)
  have C : xCx p m c cJ5_ensureCapacityInternal_d00df 3 s args (Cond.code yJ5_ensureCapacityInternal_d00df cJ5_ensureCapacityInternal_d00df 3 none :: bsG) RJ5 ρ sc L xs cA dC dI (bsAY ρ cA (R0 ++ [(b, sbC v ml n), (v, byC cA k a)]) s.heap.size) meth none := C
  refine x_subY [0, 1] rfl ?_
  have he : (R0 ++ [(b, sbC v ml n), (v, byC cA k a)])[R0.length + 0]? = some (b, sbC v ml n) := (jd_at R0 _ 0).trans rfl
  have hv : (R0 ++ [(b, sbC v ml n), (v, byC cA k a)])[R0.length + 1]? = some (v, byC cA k a) := (jd_at R0 _ 1).trans rfl
  have e1 : (nI q - nI k).toInt = (q : Int) - k := pk_sub_toInt (by omega) (by omega)
  refine x_aload_nY C dJ5_ensureCapacityInternal_d00df_0 rfl rfl ?_
  refine x_getY C (T := TJ4) (N := 4) (k := 0) (Cn := RJ4) (ref := "java/lang/AbstractStringBuilder") he rfl bsin_J4 (by decide) (bsG_in 610 (by decide +kernel) rfl) rfl rfl dJ5_ensureCapacityInternal_d00df_1 ?_
  refine x_alenY C (v := nI k) (ty := .byte) hv rfl rfl dJ5_ensureCapacityInternal_d00df_4 ?_
  refine x_aload_nY C dJ5_ensureCapacityInternal_d00df_5 rfl rfl ?_
  refine x_getY C (T := TJ4) (N := 4) (k := 1) (Cn := RJ4) (ref := "java/lang/AbstractStringBuilder") he rfl bsin_J4 (by decide) (bsG_in 611 (by decide +kernel) rfl) rfl rfl dJ5_ensureCapacityInternal_d00df_6 ?_
  refine x_ishrY C dJ5_ensureCapacityInternal_d00df_9 ?_
  refine x_topiY (y := (nI k)) (sb_shr0 _) ?_
  refine x_istore_nY (lv' := [(2, .int (nI k)), (0, .ref b), (1, .int (nI q))]) C dJ5_ensureCapacityInternal_d00df_10 rfl (by decide) rfl ?_
  refine x_iload_nY C dJ5_ensureCapacityInternal_d00df_11 rfl rfl ?_
  refine x_iload_nY C dJ5_ensureCapacityInternal_d00df_12 rfl rfl ?_
  refine x_isubY C dJ5_ensureCapacityInternal_d00df_13 ?_
  refine x_if_leY (tgt := 38) C dJ5_ensureCapacityInternal_d00df_14 (by decide) (fun hb => ?_) (fun hb => ?_)
  · rw [Int32.le_iff_toInt_le, e1, Int32.toInt_zero] at hb
    have hqk : q ≤ k := by omega
    exact x_vretY C (⟨rfl, v, a, by rw [sb_cap, if_pos hqk], hf, fun _ _ => rfl⟩) (Nat.le_of_ble_eq_true rfl) (Nat.le_of_ble_eq_true rfl) dJ5_ensureCapacityInternal_d00df_38
  · rw [Int32.le_iff_toInt_le, e1, Int32.toInt_zero] at hb
    have hqk : k < q := by omega
    refine x_aload_nY C dJ5_ensureCapacityInternal_d00df_17 rfl rfl ?_
    refine x_aload_nY C dJ5_ensureCapacityInternal_d00df_18 rfl rfl ?_
    refine x_getY C (T := TJ4) (N := 4) (k := 0) (Cn := RJ4) (ref := "java/lang/AbstractStringBuilder") he rfl bsin_J4 (by decide) (bsG_in 610 (by decide +kernel) rfl) rfl rfl dJ5_ensureCapacityInternal_d00df_19 ?_
    refine x_aload_nY C dJ5_ensureCapacityInternal_d00df_22 rfl rfl ?_
    refine x_iload_nY C dJ5_ensureCapacityInternal_d00df_23 rfl rfl ?_
    refine x_callUiY (y := yJ5_newCapacity_0f7a4) (As := [.int (nI q)]) (rest := [.ref v, .ref b]) C (cJ5_newCapacity_0f7a4_okY he hv hqk hq hm) (bsG_in 515 (by decide +kernel) rfl) wuJ5_newCapacity_0f7a4 he dpJ5_newCapacity_0f7a4 ⟨Nat.le_of_ble_eq_true rfl, Nat.le_of_ble_eq_true rfl⟩ ⟨Nat.le_of_ble_eq_true rfl, Nat.le_of_ble_eq_true rfl⟩ rfl (Nat.le_of_ble_eq_true rfl) dJ5_ensureCapacityInternal_d00df_24 (fun r X' R' hp => ?_)
    obtain ⟨e1, e2, e3⟩ := hp
    rw [e1, e2, e3]
    clear e1 e2 e3 r X' R'
    refine x_aload_nY C dJ5_ensureCapacityInternal_d00df_27 rfl rfl ?_
    refine x_getY C (T := TJ4) (N := 4) (k := 1) (Cn := RJ4) (ref := "java/lang/AbstractStringBuilder") he rfl bsin_J4 (by decide) (bsG_in 611 (by decide +kernel) rfl) rfl rfl dJ5_ensureCapacityInternal_d00df_28 ?_
    refine x_ishlY C dJ5_ensureCapacityInternal_d00df_31 ?_
    refine x_topiY (y := (nI (sb_cap q k))) (sb_shl0 _) ?_
    have hB := jd_capb hqk hq hm
    refine x_callSrY (y := yJ7_copyOf_9075b) (As := [.ref v, .int (nI (sb_cap q k))]) (rest := [.ref b]) C (cJ7_copyOf_9075b_okY hv hf hB.2.2 hB.2.1) (bsG_in 529 (by decide +kernel) rfl) wzJ7_copyOf_9075b dpJ7_copyOf_9075b ⟨Nat.le_of_ble_eq_true rfl, Nat.le_of_ble_eq_true rfl⟩ ⟨Nat.le_of_ble_eq_true rfl, Nat.le_of_ble_eq_true rfl⟩ rfl (Nat.le_of_ble_eq_true rfl) dJ5_ensureCapacityInternal_d00df_32 (fun r X' R' hp => ?_)
    obtain ⟨e2, e3⟩ := hp
    rw [e2, e3]
    clear e2 e3 X' R'
    refine x_eqY (Rz' := R0 ++ [(b, sbC v ml n), (v, byC cA k a), (r, byC cA (sb_cap q k) (va_cpy a (fun _ => 0) 0 0 k))]) (by rw [List.append_assoc]; rfl) ?_
    have he3 : (R0 ++ [(b, sbC v ml n), (v, byC cA k a), (r, byC cA (sb_cap q k) (va_cpy a (fun _ => 0) 0 0 k))])[R0.length + 0]? = some (b, sbC v ml n) := (jd_at R0 _ 0).trans rfl
    refine x_putY (Rz' := R0 ++ [(b, sbC r ml n), (v, byC cA k a), (r, byC cA (sb_cap q k) (va_cpy a (fun _ => 0) 0 0 k))]) C (T := TJ4) (N := 4) (k := 0) (Cn := RJ4) (ref := "java/lang/AbstractStringBuilder") (ty := .array .byte) he3 rfl bsin_J4 tyJ4 tyJ4_ok nmJ4 (by decide) (bsG_in 610 (by decide +kernel) rfl) rfl rfl rfl rfl rfl (Nat.le_of_ble_eq_true rfl) (jd_set R0 _ 0 _) dJ5_ensureCapacityInternal_d00df_35 ?_
    refine x_sublY (Rz' := R0 ++ [(b, sbC r ml n), (r, byC cA (sb_cap q k) (va_cpy a (fun _ => 0) 0 0 k))]) ((sl_keep (List.Sublist.cons _ (sl_keep List.Sublist.slnil))).append_left R0) ?_
    exact x_vretY C (⟨rfl, r, va_cpy a (fun _ => 0) 0 0 k, rfl, sb_fitC hf sb_fit0, fun j hj => sb_cpy0 hj⟩) (Nat.le_of_ble_eq_true rfl) (Nat.le_of_ble_eq_true rfl) dJ5_ensureCapacityInternal_d00df_38
set_option maxHeartbeats 4000000 in
set_option maxRecDepth 100000 in
theorem cJ1_canEncode_fc78d_okY {l : Launch} {ρ : bsR} {sc L : Nat} {xs : Nat → Int32} {cA : Nat → ClassId} {dC : Nat → ClassId} {dI : Nat → Nat → Nat} {X : bsX} {ch : Nat} {Rz : va_W} (hc : ch < 256) : xMiY l yJ1_canEncode_fc78d cJ1_canEncode_fc78d 1 (some .boolean) rmJ1_canEncode_fc78d ρ sc L xs cA dC dI [.int (nI ch)] X (Rz) (fun r X' R' => r = 1 ∧ X' = X ∧ R' = Rz) := by
  refine xMi_ofY (by decide +kernel) (Nat.le_of_ble_eq_true rfl) (fun p e s m args below meth c C => ?_)
  have C : xCx p m c cJ1_canEncode_fc78d 1 s args (Cond.code yJ1_canEncode_fc78d cJ1_canEncode_fc78d 1 (some .boolean) :: bsG) RJ1 ρ sc L xs cA dC dI (bsAY ρ cA (Rz) s.heap.size) meth (some .boolean) := C
  refine x_subY [0] rfl ?_
  refine x_iload_nY C dJ1_canEncode_fc78d_0 rfl rfl ?_
  refine x_sipushY (v := 255) C dJ1_canEncode_fc78d_1 (by decide) ?_
  refine x_icmp_gtY (tgt := 11) C dJ1_canEncode_fc78d_4 (by decide) (fun h => absurd h (show ¬ nI 255 < nI ch from nI_nlt (by omega) (by decide))) (fun _ => ?_)
  refine x_iconstY (v := 1) C dJ1_canEncode_fc78d_7 (by decide) ?_
  refine x_gotoY (tgt := 12) C dJ1_canEncode_fc78d_8 (by decide) ?_
  exact x_xretY C (rfl) (⟨rfl, rfl, rfl⟩) (Nat.le_of_ble_eq_true rfl) (Nat.le_of_ble_eq_true rfl) dJ1_canEncode_fc78d_12
set_option maxHeartbeats 4000000 in
set_option maxRecDepth 100000 in
theorem cJ5_append_3fe6f_okY {l : Launch} {ρ : bsR} {sc L : Nat} {xs : Nat → Int32} {cA : Nat → ClassId} {dC : Nat → ClassId} {dI : Nat → Nat → Nat} {X : bsX} {t : Nat → Nat} {n ch : Nat} {b v k : Nat} {ml : Int32} {a : Nat → Int32} {R0 : va_W} (hL : sb_Lat t n a) (hf : sb_Fit a) (hnk : n ≤ k) (hm : k ≤ 1026) (hq : n + 1 ≤ 512) (hc : ch < 256) : xMrY l yJ5_append_3fe6f cJ5_append_3fe6f 2 (some (.object "java/lang/AbstractStringBuilder")) rmJ5_append_3fe6f ρ sc L xs cA dC dI [.ref b, .int (nI ch)] X (R0 ++ [(b, sbC v ml (nI n)), (v, byC cA k a)]) (fun r X' R' => r = b ∧ X' = X ∧ sbW cA R0 b (sb_cat t n (fun _ => ch)) (n + 1) R') := by
  refine xMr_ofY (by decide +kernel) (Nat.le_of_ble_eq_true rfl) (fun p e s m args below meth c C => ?_)
  have C : xCx p m c cJ5_append_3fe6f 2 s args (Cond.code yJ5_append_3fe6f cJ5_append_3fe6f 2 (some (.object "java/lang/AbstractStringBuilder")) :: bsG) RJ5 ρ sc L xs cA dC dI (bsAY ρ cA (R0 ++ [(b, sbC v ml (nI n)), (v, byC cA k a)]) s.heap.size) meth (some (.object "java/lang/AbstractStringBuilder")) := C
  refine x_subY [0, 1] rfl ?_
  have he : (R0 ++ [(b, sbC v ml (nI n)), (v, byC cA k a)])[R0.length + 0]? = some (b, sbC v ml (nI n)) := (jd_at R0 _ 0).trans rfl
  have hv : (R0 ++ [(b, sbC v ml (nI n)), (v, byC cA k a)])[R0.length + 1]? = some (v, byC cA k a) := (jd_at R0 _ 1).trans rfl
  refine x_aload_nY C dJ5_append_3fe6f_0 rfl rfl ?_
  refine x_aload_nY C dJ5_append_3fe6f_1 rfl rfl ?_
  refine x_getY C (T := TJ4) (N := 4) (k := 3) (Cn := RJ4) (ref := "java/lang/AbstractStringBuilder") he rfl bsin_J4 (by decide) (bsG_in 613 (by decide +kernel) rfl) rfl rfl dJ5_append_3fe6f_2 ?_
  refine x_iconstY (v := 1) C dJ5_append_3fe6f_5 (by decide) ?_
  refine x_iaddY C dJ5_append_3fe6f_6 ?_
  refine x_topiY (y := (nI (n + 1))) (nI_1 n) ?_
  refine x_callUvY (y := yJ5_ensureCapacityInternal_d00df) (As := [.int (nI (n + 1))]) (rest := []) C (cJ5_ensureCapacityInternal_d00df_okY hq hm hf) (bsG_in 511 (by decide +kernel) rfl) wuJ5_ensureCapacityInternal_d00df he dpJ5_ensureCapacityInternal_d00df ⟨Nat.le_of_ble_eq_true rfl, Nat.le_of_ble_eq_true rfl⟩ ⟨Nat.le_of_ble_eq_true rfl, Nat.le_of_ble_eq_true rfl⟩ rfl (Nat.le_of_ble_eq_true rfl) dJ5_append_3fe6f_7 (fun X' R' hp => ?_)
  obtain ⟨e2, v', a', e3, hf', hk'⟩ := hp
  rw [e2, e3]
  clear e2 e3 X' R'
  obtain ⟨hg1, hg2⟩ := jd_capc (k := k) (q := (n + 1)) hq hm
  have hk2 : ∀ j, j < n → a' j = a j := fun j hj => hk' j (by omega)
  clear hk'
  generalize sb_cap (n + 1) k = K at *
  have he2 : (R0 ++ [(b, sbC v' ml (nI n)), (v', byC cA K a')])[R0.length + 0]? = some (b, sbC v' ml (nI n)) := (jd_at R0 _ 0).trans rfl
  have hv2 : (R0 ++ [(b, sbC v' ml (nI n)), (v', byC cA K a')])[R0.length + 1]? = some (v', byC cA K a') := (jd_at R0 _ 1).trans rfl
  refine x_aload_nY C dJ5_append_3fe6f_10 rfl rfl ?_
  refine x_callUiY (y := yJ5_isLatin1_aae02) (As := []) (rest := []) C (cJ5_isLatin1_aae02_okY he2) (bsG_in 545 (by decide +kernel) rfl) wuJ5_isLatin1_aae02 he2 dpJ5_isLatin1_aae02 ⟨Nat.le_of_ble_eq_true rfl, Nat.le_of_ble_eq_true rfl⟩ ⟨Nat.le_of_ble_eq_true rfl, Nat.le_of_ble_eq_true rfl⟩ rfl (Nat.le_of_ble_eq_true rfl) dJ5_append_3fe6f_11 (fun r X' R' hp => ?_)
  obtain ⟨e1, e2, e3⟩ := hp
  rw [e1, e2, e3]
  clear e1 e2 e3 r X' R'
  refine x_if_eqY (tgt := 45) C dJ5_append_3fe6f_14 (by decide) (fun h => absurd h (by decide)) (fun _ => ?_)
  refine x_iload_nY C dJ5_append_3fe6f_17 rfl rfl ?_
  refine x_callSiY (y := yJ1_canEncode_fc78d) (As := [.int (nI ch)]) (rest := []) C (cJ1_canEncode_fc78d_okY hc) (bsG_in 654 (by decide +kernel) rfl) wzJ1_canEncode_fc78d dpJ1_canEncode_fc78d ⟨Nat.le_of_ble_eq_true rfl, Nat.le_of_ble_eq_true rfl⟩ ⟨Nat.le_of_ble_eq_true rfl, Nat.le_of_ble_eq_true rfl⟩ rfl (Nat.le_of_ble_eq_true rfl) dJ5_append_3fe6f_18 (fun r X' R' hp => ?_)
  obtain ⟨e1, e2, e3⟩ := hp
  rw [e1, e2, e3]
  clear e1 e2 e3 r X' R'
  refine x_if_eqY (tgt := 45) C dJ5_append_3fe6f_21 (by decide) (fun h => absurd h (by decide)) (fun _ => ?_)
  refine x_aload_nY C dJ5_append_3fe6f_24 rfl rfl ?_
  refine x_getY C (T := TJ4) (N := 4) (k := 0) (Cn := RJ4) (ref := "java/lang/AbstractStringBuilder") he2 rfl bsin_J4 (by decide) (bsG_in 610 (by decide +kernel) rfl) rfl rfl dJ5_append_3fe6f_25 ?_
  refine x_aload_nY C dJ5_append_3fe6f_28 rfl rfl ?_
  refine x_dupY C dJ5_append_3fe6f_29 rfl ?_
  refine x_getY C (T := TJ4) (N := 4) (k := 3) (Cn := RJ4) (ref := "java/lang/AbstractStringBuilder") he2 rfl bsin_J4 (by decide) (bsG_in 613 (by decide +kernel) rfl) rfl rfl dJ5_append_3fe6f_30 ?_
  refine x_dup_x1Y C dJ5_append_3fe6f_33 rfl rfl ?_
  refine x_iconstY (v := 1) C dJ5_append_3fe6f_34 (by decide) ?_
  refine x_iaddY C dJ5_append_3fe6f_35 ?_
  refine x_topiY (y := (nI (n + 1))) (nI_1 n) ?_
  refine x_putY (Rz' := R0 ++ [(b, sbC v' ml (nI (n + 1))), (v', byC cA K a')]) C (T := TJ4) (N := 4) (k := 3) (Cn := RJ4) (ref := "java/lang/AbstractStringBuilder") (ty := .int) he2 rfl bsin_J4 tyJ4 tyJ4_ok nmJ4 (by decide) (bsG_in 613 (by decide +kernel) rfl) rfl rfl rfl rfl rfl (Nat.le_of_ble_eq_true rfl) (jd_set R0 _ 0 _) dJ5_append_3fe6f_36 ?_
  have hv3 : (R0 ++ [(b, sbC v' ml (nI (n + 1))), (v', byC cA K a')])[R0.length + 1]? = some (v', byC cA K a') := (jd_at R0 _ 1).trans rfl
  refine x_iload_nY C dJ5_append_3fe6f_39 rfl rfl ?_
  refine x_i2bY C dJ5_append_3fe6f_40 ?_
  have hE : upd a' (bsIx (nI n)) (vp_nar .byte (nI ch).toInt8.toInt32) = upd a' n (sb_b ch) := by rw [show bsIx (nI n) = n from nI_clamp (by omega), pk_vb]; rfl
  refine x_bastY (Rz' := R0 ++ [(b, sbC v' ml (nI (n + 1))), (v', byC cA K (upd a' n (sb_b ch)))]) C hv3 (vp_in_iff.mp (vp_in_nI (by omega) (by omega))) ((jd_set R0 _ 1 _).trans (by rw [hE]; rfl)) dJ5_append_3fe6f_41 ?_
  refine x_gotoY (tgt := 75) C dJ5_append_3fe6f_42 (by decide) ?_
  refine x_aload_nY C dJ5_append_3fe6f_75 rfl rfl ?_
  exact x_aretY C (Or.inl ⟨_, rfl⟩) (⟨rfl, rfl, v', K, upd a' n (sb_b ch), ml, rfl, sb_latPut hL (fun j hj => (pk_un (by omega)).trans (hk2 j hj)) (fun i hi => by obtain rfl : i = 0 := (by omega); exact ⟨hc, pk_us⟩), sb_fitU hf' (sb_fitB ch), by omega, by omega⟩) (Nat.le_of_ble_eq_true rfl) (Nat.le_of_ble_eq_true rfl) dJ5_append_3fe6f_76
set_option maxHeartbeats 4000000 in
set_option maxRecDepth 100000 in
theorem cJ6_stringSize_0f7a4_okY {l : Launch} {ρ : bsR} {sc L : Nat} {xs : Nat → Int32} {cA : Nat → ClassId} {dC : Nat → ClassId} {dI : Nat → Nat → Nat} {X : bsX} {w : Nat} {Rz : va_W} (hw : w < 2 ^ 31) : xMiY l yJ6_stringSize_0f7a4 cJ6_stringSize_0f7a4 4 (some .int) rmJ6_stringSize_0f7a4 ρ sc L xs cA dC dI [.int (nI w)] X (Rz) (fun r X' R' => r = nI (sb_dg w) ∧ X' = X ∧ R' = Rz) := by
  refine xMi_ofY (by decide +kernel) (Nat.le_of_ble_eq_true rfl) (fun p e s m args below meth c C => ?_)
  have C : xCx p m c cJ6_stringSize_0f7a4 4 s args (Cond.code yJ6_stringSize_0f7a4 cJ6_stringSize_0f7a4 4 (some .int) :: bsG) RJ6 ρ sc L xs cA dC dI (bsAY ρ cA (Rz) s.heap.size) meth (some .int) := C
  refine x_subY [0] rfl ?_
  refine x_iconstY (v := 1) C dJ6_stringSize_0f7a4_0 (by decide) ?_
  refine x_istore_nY (lv' := [(1, .int 1), (0, .int (nI w))]) C dJ6_stringSize_0f7a4_1 rfl (by decide) rfl ?_
  refine x_iload_nY C dJ6_stringSize_0f7a4_2 rfl rfl ?_
  refine x_if_ltY (tgt := 11) C dJ6_stringSize_0f7a4_3 (by decide) (fun h => absurd h (pu_neg _ hw)) (fun _ => ?_)
  refine x_iconstY (v := 0) C dJ6_stringSize_0f7a4_6 (by decide) ?_
  refine x_istore_nY (lv' := [(1, .int 0), (0, .int (nI w))]) C dJ6_stringSize_0f7a4_7 rfl (by decide) rfl ?_
  refine x_iload_nY C dJ6_stringSize_0f7a4_8 rfl rfl ?_
  refine x_inegY C dJ6_stringSize_0f7a4_9 ?_
  refine x_topiY (y := (-nI w)) (rfl) ?_
  refine x_istore_nY (lv' := [(0, .int (-nI w)), (1, .int 0)]) C dJ6_stringSize_0f7a4_10 rfl (by decide) rfl ?_
  refine x_bipushY (v := (-10)) C dJ6_stringSize_0f7a4_11 (by decide) ?_
  refine x_istore_nY (lv' := [(2, .int (-10)), (0, .int (-nI w)), (1, .int 0)]) C dJ6_stringSize_0f7a4_13 rfl (by decide) rfl ?_
  refine x_iconstY (v := 1) C dJ6_stringSize_0f7a4_14 (by decide) ?_
  refine x_istore_nY (lv' := [(3, .int 1), (2, .int (-10)), (0, .int (-nI w)), (1, .int 0)]) C dJ6_stringSize_0f7a4_15 rfl (by decide) rfl ?_
  refine x_iload_nY C dJ6_stringSize_0f7a4_16 rfl rfl ?_
  refine x_bipushY (v := 10) C dJ6_stringSize_0f7a4_17 (by decide) ?_
  refine x_icmp_geY (tgt := 42) C dJ6_stringSize_0f7a4_19 (by decide) (fun h => absurd h (by decide)) (fun _ => ?_)
  refine x_iload_nY C dJ6_stringSize_0f7a4_22 rfl rfl ?_
  refine x_iload_nY C dJ6_stringSize_0f7a4_23 rfl rfl ?_
  refine x_icmp_leY (tgt := 31) C dJ6_stringSize_0f7a4_24 (by decide) (fun hb => ?_) (fun hb => ?_)
  rotate_left
  · have hw1 : w < 10 := Nat.lt_of_not_le (fun g => hb ((sb_nle (a := w) (b := 10) hw (by decide)).mpr g))
    refine x_iload_nY C dJ6_stringSize_0f7a4_27 rfl rfl ?_
    refine x_iload_nY C dJ6_stringSize_0f7a4_28 rfl rfl ?_
    refine x_iaddY C dJ6_stringSize_0f7a4_29 ?_
    have hd : sb_dg w = 1 := by unfold sb_dg; (repeat' split) <;> omega
    refine x_topiY (y := (nI (sb_dg w))) (by rw [hd]; decide) ?_
    exact x_iretY C (⟨rfl, rfl, rfl⟩) (Nat.le_of_ble_eq_true rfl) (Nat.le_of_ble_eq_true rfl) dJ6_stringSize_0f7a4_30
  have hw1 : 10 ≤ w := (sb_nle (a := w) (b := 10) hw (by decide)).mp (show -nI w ≤ -nI 10 from hb)
  clear hb
  refine x_bipushY (v := 10) C dJ6_stringSize_0f7a4_31 (by decide) ?_
  refine x_iload_nY C dJ6_stringSize_0f7a4_33 rfl rfl ?_
  refine x_imulY C dJ6_stringSize_0f7a4_34 ?_
  refine x_topiY (y := (-100)) (by decide) ?_
  refine x_istore_nY (lv' := [(2, .int (-100)), (3, .int 1), (0, .int (-nI w)), (1, .int 0)]) C dJ6_stringSize_0f7a4_35 rfl (by decide) rfl ?_
  refine x_iincY (v := 2) (lv' := [(3, .int 2), (2, .int (-100)), (0, .int (-nI w)), (1, .int 0)]) C dJ6_stringSize_0f7a4_36 (k0 := 1) rfl (by decide) (by decide) rfl ?_
  refine x_gotoY (tgt := 16) C dJ6_stringSize_0f7a4_39 (by decide) ?_
  refine x_iload_nY C dJ6_stringSize_0f7a4_16 rfl rfl ?_
  refine x_bipushY (v := 10) C dJ6_stringSize_0f7a4_17 (by decide) ?_
  refine x_icmp_geY (tgt := 42) C dJ6_stringSize_0f7a4_19 (by decide) (fun h => absurd h (by decide)) (fun _ => ?_)
  refine x_iload_nY C dJ6_stringSize_0f7a4_22 rfl rfl ?_
  refine x_iload_nY C dJ6_stringSize_0f7a4_23 rfl rfl ?_
  refine x_icmp_leY (tgt := 31) C dJ6_stringSize_0f7a4_24 (by decide) (fun hb => ?_) (fun hb => ?_)
  rotate_left
  · have hw2 : w < 100 := Nat.lt_of_not_le (fun g => hb ((sb_nle (a := w) (b := 100) hw (by decide)).mpr g))
    refine x_iload_nY C dJ6_stringSize_0f7a4_27 rfl rfl ?_
    refine x_iload_nY C dJ6_stringSize_0f7a4_28 rfl rfl ?_
    refine x_iaddY C dJ6_stringSize_0f7a4_29 ?_
    have hd : sb_dg w = 2 := by unfold sb_dg; (repeat' split) <;> omega
    refine x_topiY (y := (nI (sb_dg w))) (by rw [hd]; decide) ?_
    exact x_iretY C (⟨rfl, rfl, rfl⟩) (Nat.le_of_ble_eq_true rfl) (Nat.le_of_ble_eq_true rfl) dJ6_stringSize_0f7a4_30
  have hw2 : 100 ≤ w := (sb_nle (a := w) (b := 100) hw (by decide)).mp (show -nI w ≤ -nI 100 from hb)
  clear hb
  refine x_bipushY (v := 10) C dJ6_stringSize_0f7a4_31 (by decide) ?_
  refine x_iload_nY C dJ6_stringSize_0f7a4_33 rfl rfl ?_
  refine x_imulY C dJ6_stringSize_0f7a4_34 ?_
  refine x_topiY (y := (-1000)) (by decide) ?_
  refine x_istore_nY (lv' := [(2, .int (-1000)), (3, .int 2), (0, .int (-nI w)), (1, .int 0)]) C dJ6_stringSize_0f7a4_35 rfl (by decide) rfl ?_
  refine x_iincY (v := 3) (lv' := [(3, .int 3), (2, .int (-1000)), (0, .int (-nI w)), (1, .int 0)]) C dJ6_stringSize_0f7a4_36 (k0 := 1) rfl (by decide) (by decide) rfl ?_
  refine x_gotoY (tgt := 16) C dJ6_stringSize_0f7a4_39 (by decide) ?_
  refine x_iload_nY C dJ6_stringSize_0f7a4_16 rfl rfl ?_
  refine x_bipushY (v := 10) C dJ6_stringSize_0f7a4_17 (by decide) ?_
  refine x_icmp_geY (tgt := 42) C dJ6_stringSize_0f7a4_19 (by decide) (fun h => absurd h (by decide)) (fun _ => ?_)
  refine x_iload_nY C dJ6_stringSize_0f7a4_22 rfl rfl ?_
  refine x_iload_nY C dJ6_stringSize_0f7a4_23 rfl rfl ?_
  refine x_icmp_leY (tgt := 31) C dJ6_stringSize_0f7a4_24 (by decide) (fun hb => ?_) (fun hb => ?_)
  rotate_left
  · have hw3 : w < 1000 := Nat.lt_of_not_le (fun g => hb ((sb_nle (a := w) (b := 1000) hw (by decide)).mpr g))
    refine x_iload_nY C dJ6_stringSize_0f7a4_27 rfl rfl ?_
    refine x_iload_nY C dJ6_stringSize_0f7a4_28 rfl rfl ?_
    refine x_iaddY C dJ6_stringSize_0f7a4_29 ?_
    have hd : sb_dg w = 3 := by unfold sb_dg; (repeat' split) <;> omega
    refine x_topiY (y := (nI (sb_dg w))) (by rw [hd]; decide) ?_
    exact x_iretY C (⟨rfl, rfl, rfl⟩) (Nat.le_of_ble_eq_true rfl) (Nat.le_of_ble_eq_true rfl) dJ6_stringSize_0f7a4_30
  have hw3 : 1000 ≤ w := (sb_nle (a := w) (b := 1000) hw (by decide)).mp (show -nI w ≤ -nI 1000 from hb)
  clear hb
  refine x_bipushY (v := 10) C dJ6_stringSize_0f7a4_31 (by decide) ?_
  refine x_iload_nY C dJ6_stringSize_0f7a4_33 rfl rfl ?_
  refine x_imulY C dJ6_stringSize_0f7a4_34 ?_
  refine x_topiY (y := (-10000)) (by decide) ?_
  refine x_istore_nY (lv' := [(2, .int (-10000)), (3, .int 3), (0, .int (-nI w)), (1, .int 0)]) C dJ6_stringSize_0f7a4_35 rfl (by decide) rfl ?_
  refine x_iincY (v := 4) (lv' := [(3, .int 4), (2, .int (-10000)), (0, .int (-nI w)), (1, .int 0)]) C dJ6_stringSize_0f7a4_36 (k0 := 1) rfl (by decide) (by decide) rfl ?_
  refine x_gotoY (tgt := 16) C dJ6_stringSize_0f7a4_39 (by decide) ?_
  refine x_iload_nY C dJ6_stringSize_0f7a4_16 rfl rfl ?_
  refine x_bipushY (v := 10) C dJ6_stringSize_0f7a4_17 (by decide) ?_
  refine x_icmp_geY (tgt := 42) C dJ6_stringSize_0f7a4_19 (by decide) (fun h => absurd h (by decide)) (fun _ => ?_)
  refine x_iload_nY C dJ6_stringSize_0f7a4_22 rfl rfl ?_
  refine x_iload_nY C dJ6_stringSize_0f7a4_23 rfl rfl ?_
  refine x_icmp_leY (tgt := 31) C dJ6_stringSize_0f7a4_24 (by decide) (fun hb => ?_) (fun hb => ?_)
  rotate_left
  · have hw4 : w < 10000 := Nat.lt_of_not_le (fun g => hb ((sb_nle (a := w) (b := 10000) hw (by decide)).mpr g))
    refine x_iload_nY C dJ6_stringSize_0f7a4_27 rfl rfl ?_
    refine x_iload_nY C dJ6_stringSize_0f7a4_28 rfl rfl ?_
    refine x_iaddY C dJ6_stringSize_0f7a4_29 ?_
    have hd : sb_dg w = 4 := by unfold sb_dg; (repeat' split) <;> omega
    refine x_topiY (y := (nI (sb_dg w))) (by rw [hd]; decide) ?_
    exact x_iretY C (⟨rfl, rfl, rfl⟩) (Nat.le_of_ble_eq_true rfl) (Nat.le_of_ble_eq_true rfl) dJ6_stringSize_0f7a4_30
  have hw4 : 10000 ≤ w := (sb_nle (a := w) (b := 10000) hw (by decide)).mp (show -nI w ≤ -nI 10000 from hb)
  clear hb
  refine x_bipushY (v := 10) C dJ6_stringSize_0f7a4_31 (by decide) ?_
  refine x_iload_nY C dJ6_stringSize_0f7a4_33 rfl rfl ?_
  refine x_imulY C dJ6_stringSize_0f7a4_34 ?_
  refine x_topiY (y := (-100000)) (by decide) ?_
  refine x_istore_nY (lv' := [(2, .int (-100000)), (3, .int 4), (0, .int (-nI w)), (1, .int 0)]) C dJ6_stringSize_0f7a4_35 rfl (by decide) rfl ?_
  refine x_iincY (v := 5) (lv' := [(3, .int 5), (2, .int (-100000)), (0, .int (-nI w)), (1, .int 0)]) C dJ6_stringSize_0f7a4_36 (k0 := 1) rfl (by decide) (by decide) rfl ?_
  refine x_gotoY (tgt := 16) C dJ6_stringSize_0f7a4_39 (by decide) ?_
  refine x_iload_nY C dJ6_stringSize_0f7a4_16 rfl rfl ?_
  refine x_bipushY (v := 10) C dJ6_stringSize_0f7a4_17 (by decide) ?_
  refine x_icmp_geY (tgt := 42) C dJ6_stringSize_0f7a4_19 (by decide) (fun h => absurd h (by decide)) (fun _ => ?_)
  refine x_iload_nY C dJ6_stringSize_0f7a4_22 rfl rfl ?_
  refine x_iload_nY C dJ6_stringSize_0f7a4_23 rfl rfl ?_
  refine x_icmp_leY (tgt := 31) C dJ6_stringSize_0f7a4_24 (by decide) (fun hb => ?_) (fun hb => ?_)
  rotate_left
  · have hw5 : w < 100000 := Nat.lt_of_not_le (fun g => hb ((sb_nle (a := w) (b := 100000) hw (by decide)).mpr g))
    refine x_iload_nY C dJ6_stringSize_0f7a4_27 rfl rfl ?_
    refine x_iload_nY C dJ6_stringSize_0f7a4_28 rfl rfl ?_
    refine x_iaddY C dJ6_stringSize_0f7a4_29 ?_
    have hd : sb_dg w = 5 := by unfold sb_dg; (repeat' split) <;> omega
    refine x_topiY (y := (nI (sb_dg w))) (by rw [hd]; decide) ?_
    exact x_iretY C (⟨rfl, rfl, rfl⟩) (Nat.le_of_ble_eq_true rfl) (Nat.le_of_ble_eq_true rfl) dJ6_stringSize_0f7a4_30
  have hw5 : 100000 ≤ w := (sb_nle (a := w) (b := 100000) hw (by decide)).mp (show -nI w ≤ -nI 100000 from hb)
  clear hb
  refine x_bipushY (v := 10) C dJ6_stringSize_0f7a4_31 (by decide) ?_
  refine x_iload_nY C dJ6_stringSize_0f7a4_33 rfl rfl ?_
  refine x_imulY C dJ6_stringSize_0f7a4_34 ?_
  refine x_topiY (y := (-1000000)) (by decide) ?_
  refine x_istore_nY (lv' := [(2, .int (-1000000)), (3, .int 5), (0, .int (-nI w)), (1, .int 0)]) C dJ6_stringSize_0f7a4_35 rfl (by decide) rfl ?_
  refine x_iincY (v := 6) (lv' := [(3, .int 6), (2, .int (-1000000)), (0, .int (-nI w)), (1, .int 0)]) C dJ6_stringSize_0f7a4_36 (k0 := 1) rfl (by decide) (by decide) rfl ?_
  refine x_gotoY (tgt := 16) C dJ6_stringSize_0f7a4_39 (by decide) ?_
  refine x_iload_nY C dJ6_stringSize_0f7a4_16 rfl rfl ?_
  refine x_bipushY (v := 10) C dJ6_stringSize_0f7a4_17 (by decide) ?_
  refine x_icmp_geY (tgt := 42) C dJ6_stringSize_0f7a4_19 (by decide) (fun h => absurd h (by decide)) (fun _ => ?_)
  refine x_iload_nY C dJ6_stringSize_0f7a4_22 rfl rfl ?_
  refine x_iload_nY C dJ6_stringSize_0f7a4_23 rfl rfl ?_
  refine x_icmp_leY (tgt := 31) C dJ6_stringSize_0f7a4_24 (by decide) (fun hb => ?_) (fun hb => ?_)
  rotate_left
  · have hw6 : w < 1000000 := Nat.lt_of_not_le (fun g => hb ((sb_nle (a := w) (b := 1000000) hw (by decide)).mpr g))
    refine x_iload_nY C dJ6_stringSize_0f7a4_27 rfl rfl ?_
    refine x_iload_nY C dJ6_stringSize_0f7a4_28 rfl rfl ?_
    refine x_iaddY C dJ6_stringSize_0f7a4_29 ?_
    have hd : sb_dg w = 6 := by unfold sb_dg; (repeat' split) <;> omega
    refine x_topiY (y := (nI (sb_dg w))) (by rw [hd]; decide) ?_
    exact x_iretY C (⟨rfl, rfl, rfl⟩) (Nat.le_of_ble_eq_true rfl) (Nat.le_of_ble_eq_true rfl) dJ6_stringSize_0f7a4_30
  have hw6 : 1000000 ≤ w := (sb_nle (a := w) (b := 1000000) hw (by decide)).mp (show -nI w ≤ -nI 1000000 from hb)
  clear hb
  refine x_bipushY (v := 10) C dJ6_stringSize_0f7a4_31 (by decide) ?_
  refine x_iload_nY C dJ6_stringSize_0f7a4_33 rfl rfl ?_
  refine x_imulY C dJ6_stringSize_0f7a4_34 ?_
  refine x_topiY (y := (-10000000)) (by decide) ?_
  refine x_istore_nY (lv' := [(2, .int (-10000000)), (3, .int 6), (0, .int (-nI w)), (1, .int 0)]) C dJ6_stringSize_0f7a4_35 rfl (by decide) rfl ?_
  refine x_iincY (v := 7) (lv' := [(3, .int 7), (2, .int (-10000000)), (0, .int (-nI w)), (1, .int 0)]) C dJ6_stringSize_0f7a4_36 (k0 := 1) rfl (by decide) (by decide) rfl ?_
  refine x_gotoY (tgt := 16) C dJ6_stringSize_0f7a4_39 (by decide) ?_
  refine x_iload_nY C dJ6_stringSize_0f7a4_16 rfl rfl ?_
  refine x_bipushY (v := 10) C dJ6_stringSize_0f7a4_17 (by decide) ?_
  refine x_icmp_geY (tgt := 42) C dJ6_stringSize_0f7a4_19 (by decide) (fun h => absurd h (by decide)) (fun _ => ?_)
  refine x_iload_nY C dJ6_stringSize_0f7a4_22 rfl rfl ?_
  refine x_iload_nY C dJ6_stringSize_0f7a4_23 rfl rfl ?_
  refine x_icmp_leY (tgt := 31) C dJ6_stringSize_0f7a4_24 (by decide) (fun hb => ?_) (fun hb => ?_)
  rotate_left
  · have hw7 : w < 10000000 := Nat.lt_of_not_le (fun g => hb ((sb_nle (a := w) (b := 10000000) hw (by decide)).mpr g))
    refine x_iload_nY C dJ6_stringSize_0f7a4_27 rfl rfl ?_
    refine x_iload_nY C dJ6_stringSize_0f7a4_28 rfl rfl ?_
    refine x_iaddY C dJ6_stringSize_0f7a4_29 ?_
    have hd : sb_dg w = 7 := by unfold sb_dg; (repeat' split) <;> omega
    refine x_topiY (y := (nI (sb_dg w))) (by rw [hd]; decide) ?_
    exact x_iretY C (⟨rfl, rfl, rfl⟩) (Nat.le_of_ble_eq_true rfl) (Nat.le_of_ble_eq_true rfl) dJ6_stringSize_0f7a4_30
  have hw7 : 10000000 ≤ w := (sb_nle (a := w) (b := 10000000) hw (by decide)).mp (show -nI w ≤ -nI 10000000 from hb)
  clear hb
  refine x_bipushY (v := 10) C dJ6_stringSize_0f7a4_31 (by decide) ?_
  refine x_iload_nY C dJ6_stringSize_0f7a4_33 rfl rfl ?_
  refine x_imulY C dJ6_stringSize_0f7a4_34 ?_
  refine x_topiY (y := (-100000000)) (by decide) ?_
  refine x_istore_nY (lv' := [(2, .int (-100000000)), (3, .int 7), (0, .int (-nI w)), (1, .int 0)]) C dJ6_stringSize_0f7a4_35 rfl (by decide) rfl ?_
  refine x_iincY (v := 8) (lv' := [(3, .int 8), (2, .int (-100000000)), (0, .int (-nI w)), (1, .int 0)]) C dJ6_stringSize_0f7a4_36 (k0 := 1) rfl (by decide) (by decide) rfl ?_
  refine x_gotoY (tgt := 16) C dJ6_stringSize_0f7a4_39 (by decide) ?_
  refine x_iload_nY C dJ6_stringSize_0f7a4_16 rfl rfl ?_
  refine x_bipushY (v := 10) C dJ6_stringSize_0f7a4_17 (by decide) ?_
  refine x_icmp_geY (tgt := 42) C dJ6_stringSize_0f7a4_19 (by decide) (fun h => absurd h (by decide)) (fun _ => ?_)
  refine x_iload_nY C dJ6_stringSize_0f7a4_22 rfl rfl ?_
  refine x_iload_nY C dJ6_stringSize_0f7a4_23 rfl rfl ?_
  refine x_icmp_leY (tgt := 31) C dJ6_stringSize_0f7a4_24 (by decide) (fun hb => ?_) (fun hb => ?_)
  rotate_left
  · have hw8 : w < 100000000 := Nat.lt_of_not_le (fun g => hb ((sb_nle (a := w) (b := 100000000) hw (by decide)).mpr g))
    refine x_iload_nY C dJ6_stringSize_0f7a4_27 rfl rfl ?_
    refine x_iload_nY C dJ6_stringSize_0f7a4_28 rfl rfl ?_
    refine x_iaddY C dJ6_stringSize_0f7a4_29 ?_
    have hd : sb_dg w = 8 := by unfold sb_dg; (repeat' split) <;> omega
    refine x_topiY (y := (nI (sb_dg w))) (by rw [hd]; decide) ?_
    exact x_iretY C (⟨rfl, rfl, rfl⟩) (Nat.le_of_ble_eq_true rfl) (Nat.le_of_ble_eq_true rfl) dJ6_stringSize_0f7a4_30
  have hw8 : 100000000 ≤ w := (sb_nle (a := w) (b := 100000000) hw (by decide)).mp (show -nI w ≤ -nI 100000000 from hb)
  clear hb
  refine x_bipushY (v := 10) C dJ6_stringSize_0f7a4_31 (by decide) ?_
  refine x_iload_nY C dJ6_stringSize_0f7a4_33 rfl rfl ?_
  refine x_imulY C dJ6_stringSize_0f7a4_34 ?_
  refine x_topiY (y := (-1000000000)) (by decide) ?_
  refine x_istore_nY (lv' := [(2, .int (-1000000000)), (3, .int 8), (0, .int (-nI w)), (1, .int 0)]) C dJ6_stringSize_0f7a4_35 rfl (by decide) rfl ?_
  refine x_iincY (v := 9) (lv' := [(3, .int 9), (2, .int (-1000000000)), (0, .int (-nI w)), (1, .int 0)]) C dJ6_stringSize_0f7a4_36 (k0 := 1) rfl (by decide) (by decide) rfl ?_
  refine x_gotoY (tgt := 16) C dJ6_stringSize_0f7a4_39 (by decide) ?_
  refine x_iload_nY C dJ6_stringSize_0f7a4_16 rfl rfl ?_
  refine x_bipushY (v := 10) C dJ6_stringSize_0f7a4_17 (by decide) ?_
  refine x_icmp_geY (tgt := 42) C dJ6_stringSize_0f7a4_19 (by decide) (fun h => absurd h (by decide)) (fun _ => ?_)
  refine x_iload_nY C dJ6_stringSize_0f7a4_22 rfl rfl ?_
  refine x_iload_nY C dJ6_stringSize_0f7a4_23 rfl rfl ?_
  refine x_icmp_leY (tgt := 31) C dJ6_stringSize_0f7a4_24 (by decide) (fun hb => ?_) (fun hb => ?_)
  rotate_left
  · have hw9 : w < 1000000000 := Nat.lt_of_not_le (fun g => hb ((sb_nle (a := w) (b := 1000000000) hw (by decide)).mpr g))
    refine x_iload_nY C dJ6_stringSize_0f7a4_27 rfl rfl ?_
    refine x_iload_nY C dJ6_stringSize_0f7a4_28 rfl rfl ?_
    refine x_iaddY C dJ6_stringSize_0f7a4_29 ?_
    have hd : sb_dg w = 9 := by unfold sb_dg; (repeat' split) <;> omega
    refine x_topiY (y := (nI (sb_dg w))) (by rw [hd]; decide) ?_
    exact x_iretY C (⟨rfl, rfl, rfl⟩) (Nat.le_of_ble_eq_true rfl) (Nat.le_of_ble_eq_true rfl) dJ6_stringSize_0f7a4_30
  have hw9 : 1000000000 ≤ w := (sb_nle (a := w) (b := 1000000000) hw (by decide)).mp (show -nI w ≤ -nI 1000000000 from hb)
  clear hb
  refine x_bipushY (v := 10) C dJ6_stringSize_0f7a4_31 (by decide) ?_
  refine x_iload_nY C dJ6_stringSize_0f7a4_33 rfl rfl ?_
  refine x_imulY C dJ6_stringSize_0f7a4_34 ?_
  refine x_topiY (y := (-1410065408)) (by decide) ?_
  refine x_istore_nY (lv' := [(2, .int (-1410065408)), (3, .int 9), (0, .int (-nI w)), (1, .int 0)]) C dJ6_stringSize_0f7a4_35 rfl (by decide) rfl ?_
  refine x_iincY (v := 10) (lv' := [(3, .int 10), (2, .int (-1410065408)), (0, .int (-nI w)), (1, .int 0)]) C dJ6_stringSize_0f7a4_36 (k0 := 1) rfl (by decide) (by decide) rfl ?_
  refine x_gotoY (tgt := 16) C dJ6_stringSize_0f7a4_39 (by decide) ?_
  refine x_iload_nY C dJ6_stringSize_0f7a4_16 rfl rfl ?_
  refine x_bipushY (v := 10) C dJ6_stringSize_0f7a4_17 (by decide) ?_
  refine x_icmp_geY (tgt := 42) C dJ6_stringSize_0f7a4_19 (by decide) (fun _ => ?_) (fun h => absurd (by decide) h)
  refine x_bipushY (v := 10) C dJ6_stringSize_0f7a4_42 (by decide) ?_
  refine x_iload_nY C dJ6_stringSize_0f7a4_44 rfl rfl ?_
  refine x_iaddY C dJ6_stringSize_0f7a4_45 ?_
  have hd : sb_dg w = 10 := by unfold sb_dg; (repeat' split) <;> omega
  refine x_topiY (y := (nI (sb_dg w))) (by rw [hd]; decide) ?_
  exact x_iretY C (⟨rfl, rfl, rfl⟩) (Nat.le_of_ble_eq_true rfl) (Nat.le_of_ble_eq_true rfl) dJ6_stringSize_0f7a4_46
set_option maxHeartbeats 4000000 in
set_option maxRecDepth 100000 in
theorem qJ6_22Y {p : Program} {l : Launch} {e : Env} {R : Room} {s : State} {m : MethodId} {args : Array Value} {below : List Frame} {meth : Method} {c : Code} {cells slots : Nat} {ρ : bsR} {sc L : Nat} {xs : Nat → Int32} {cA : Nat → ClassId} {dC : Nat → ClassId} {dI : Nat → Nat → Nat} {A : Nat → Prop} {Ts : List Cond} {X : bsX} {mc ms : Nat} (C : xCx p m c cJ6_getChars_ba4f3 7 s args Ts RJ6 ρ sc L xs cA dC dI A meth (some .int)) {P : Int32 → bsX → va_W → Prop} {R0 : va_W} {E : Nat × va_E} {v K n : Nat} (hm : K ≤ 65536) (hc1 : cells ≤ mc) (hc2 : slots ≤ ms) : ∀ (f w q : Nat) (a : Nat → Int32), w < f → w < 2 ^ 31 → q = n + sb_dg w → q ≤ K → (∀ a', (∀ j, j < n ∨ q ≤ j → a' j = a j) → (∀ i, i < sb_dg w → a' (q - 1 - i) = sb_b (48 + w / 10 ^ i % 10)) → (sb_Fit a → sb_Fit a') → P (nI n) X (R0 ++ [E, (v, byC cA K a')])) → xVY p l e R s m args below meth c cells slots (MQ below (xQiY ρ cA dC dI A P) args s mc ms A) ρ cA dC dI A (R0 ++ [E, (v, byC cA K a)]) 7 22 [(0, .int (-nI w)), (5, .int (nI q)), (2, .ref v), (6, .int 0)] [] X := by
  intro f
  induction f with
  | zero =>
    intro w q a h
    omega
  | succ f ih =>
    intro w q a hwf hw hq hqK hP
    have hd1 := (sb_dg_in w).1
    have e1 : -(-nI w) = nI w := Int32.neg_neg
    refine x_iload_nY C dJ6_getChars_ba4f3_22 rfl rfl ?_
    refine x_bipushY (v := (-100)) C dJ6_getChars_ba4f3_23 (by decide) ?_
    by_cases h100 : w < 100
    · refine x_icmp_gtY (tgt := 72) C dJ6_getChars_ba4f3_25 (by decide) (fun _ => ?_) (fun h => absurd (show -nI 100 < -nI w from (sb_nlt (by decide) hw).mpr h100) h)
      refine x_aload_nY C dJ6_getChars_ba4f3_72 rfl rfl ?_
      refine x_iincY (v := (nI (q - 1))) (lv' := [(5, .int (nI (q - 1))), (0, .int (-nI w)), (2, .ref v), (6, .int 0)]) C dJ6_getChars_ba4f3_73 (k0 := 1) rfl (show nI (q) + (-1) = nI (q - 1) from sb_m1 (by omega)) (by decide) rfl ?_
      refine x_iloadY C dJ6_getChars_ba4f3_76 rfl ?_
      refine x_gsDOY C (bsG_in 635 (by decide +kernel) rfl) dJ6_getChars_ba4f3_78 ?_
      refine x_iload_nY C dJ6_getChars_ba4f3_81 rfl rfl ?_
      refine x_inegY C dJ6_getChars_ba4f3_82 ?_
      refine x_topiY (y := (nI w)) (e1) ?_
      refine x_DOY (j := w) C (by omega) dJ6_getChars_ba4f3_83 ?_
      have hE84 : upd a (bsIx (nI (q - 1))) (vp_nar .byte (nI (48 + w % 10))) = (upd a (q - 1) (sb_b (48 + w % 10))) := by rw [show bsIx (nI (q - 1)) = q - 1 from nI_clamp (by omega), vp_nar_byte]; rfl
      have hv84 : (R0 ++ [E, (v, byC cA K a)])[R0.length + 1]? = some (v, byC cA K a) := (jd_at R0 _ 1).trans rfl
      refine x_bastY (Rz' := (R0 ++ [E, (v, byC cA K (upd a (q - 1) (sb_b (48 + w % 10))))])) C hv84 (vp_in_iff.mp (vp_in_nI (by omega) (by omega))) ((jd_set R0 _ 1 _).trans (by rw [hE84]; rfl)) dJ6_getChars_ba4f3_84 ?_
      refine x_iload_nY C dJ6_getChars_ba4f3_85 rfl rfl ?_
      refine x_bipushY (v := (-9)) C dJ6_getChars_ba4f3_86 (by decide) ?_
      by_cases h9 : w < 10
      · have hd : sb_dg w = 1 := if_pos h9
        refine x_icmp_geY (tgt := 104) C dJ6_getChars_ba4f3_88 (by decide) (fun _ => ?_) (fun h => absurd (show -nI 9 ≤ -nI w from (sb_nle (by decide) hw).mpr (by omega)) h)
        rw [show nI (q - 1) = nI n from congrArg nI (by omega)]
        refine x_iloadY C dJ6_getChars_ba4f3_104 rfl ?_
        refine x_if_eqY (tgt := 118) C dJ6_getChars_ba4f3_106 (by decide) (fun _ => ?_) (fun h => absurd (rfl) h)
        refine x_iloadY C dJ6_getChars_ba4f3_118 rfl ?_
        refine x_iretY C (hP _ (fun j hj => pk_un (by omega)) (fun i hi => ?_) (fun hf => sb_fitU hf (sb_fitB _))) hc1 hc2 dJ6_getChars_ba4f3_120
        obtain rfl : i = 0 := by omega
        rw [Nat.sub_zero, pk_us, Nat.pow_zero, Nat.div_one]
      · have hd : sb_dg w = 2 := by rw [sb_dg, if_neg h9, if_pos h100]
        have d2 : w / 10 % 10 = w / 10 := by omega
        refine x_icmp_geY (tgt := 104) C dJ6_getChars_ba4f3_88 (by decide) (fun h => absurd h (fun z => by have := (sb_nle (by decide) hw).mp (show -nI 9 ≤ -nI w from z); omega)) (fun _ => ?_)
        refine x_aload_nY C dJ6_getChars_ba4f3_91 rfl rfl ?_
        refine x_iincY (v := (nI (q - 1 - 1))) (lv' := [(5, .int (nI (q - 1 - 1))), (0, .int (-nI w)), (2, .ref v), (6, .int 0)]) C dJ6_getChars_ba4f3_92 (k0 := 0) rfl (show nI (q - 1) + (-1) = nI (q - 1 - 1) from sb_m1 (by omega)) (by decide) rfl ?_
        refine x_iloadY C dJ6_getChars_ba4f3_95 rfl ?_
        refine x_gsDTY C (bsG_in 637 (by decide +kernel) rfl) dJ6_getChars_ba4f3_97 ?_
        refine x_iload_nY C dJ6_getChars_ba4f3_100 rfl rfl ?_
        refine x_inegY C dJ6_getChars_ba4f3_101 ?_
        refine x_topiY (y := (nI w)) (e1) ?_
        refine x_DTY (j := w) C (by omega) dJ6_getChars_ba4f3_102 ?_
        have hE103 : upd (upd a (q - 1) (sb_b (48 + w % 10))) (bsIx (nI (q - 1 - 1))) (vp_nar .byte (nI (48 + w / 10))) = (upd (upd a (q - 1) (sb_b (48 + w % 10))) (q - 1 - 1) (sb_b (48 + w / 10))) := by rw [show bsIx (nI (q - 1 - 1)) = q - 1 - 1 from nI_clamp (by omega), vp_nar_byte]; rfl
        have hv103 : (R0 ++ [E, (v, byC cA K (upd a (q - 1) (sb_b (48 + w % 10))))])[R0.length + 1]? = some (v, byC cA K (upd a (q - 1) (sb_b (48 + w % 10)))) := (jd_at R0 _ 1).trans rfl
        refine x_bastY (Rz' := (R0 ++ [E, (v, byC cA K (upd (upd a (q - 1) (sb_b (48 + w % 10))) (q - 1 - 1) (sb_b (48 + w / 10))))])) C hv103 (vp_in_iff.mp (vp_in_nI (by omega) (by omega))) ((jd_set R0 _ 1 _).trans (by rw [hE103]; rfl)) dJ6_getChars_ba4f3_103 ?_
        rw [show nI (q - 1 - 1) = nI n from congrArg nI (by omega)]
        refine x_iloadY C dJ6_getChars_ba4f3_104 rfl ?_
        refine x_if_eqY (tgt := 118) C dJ6_getChars_ba4f3_106 (by decide) (fun _ => ?_) (fun h => absurd (rfl) h)
        refine x_iloadY C dJ6_getChars_ba4f3_118 rfl ?_
        refine x_iretY C (hP _ (fun j hj => by rw [pk_un (by omega), pk_un (by omega)]) (fun i hi => ?_) (fun hf => sb_fitU (sb_fitU hf (sb_fitB _)) (sb_fitB _))) hc1 hc2 dJ6_getChars_ba4f3_120
        obtain rfl | rfl : i = 0 ∨ i = 1 := by omega
        · rw [Nat.sub_zero, pk_un (by omega), pk_us, Nat.pow_zero, Nat.div_one]
        · rw [pk_us, Nat.pow_one, d2]
    · have hd := sb_dg100 (w := w) (by omega) hw
      have hd2 := (sb_dg_in (w / 100)).1
      have d1 : w % 100 % 10 = w % 10 := by omega
      have d2 : w % 100 / 10 = w / 10 % 10 := by omega
      refine x_icmp_gtY (tgt := 72) C dJ6_getChars_ba4f3_25 (by decide) (fun h => absurd h (fun z => h100 ((sb_nlt (by decide) hw).mp (show -nI 100 < -nI w from z)))) (fun _ => ?_)
      refine x_iload_nY C dJ6_getChars_ba4f3_28 rfl rfl ?_
      refine x_bipushY (v := 100) C dJ6_getChars_ba4f3_29 (by decide) ?_
      refine x_idivY C dJ6_getChars_ba4f3_31 (by decide) ?_
      refine x_topiY (y := (-nI (w / 100))) (sb_ndiv hw) ?_
      refine x_istore_nY (lv' := [(3, .int (-nI (w / 100))), (0, .int (-nI w)), (5, .int (nI q)), (2, .ref v), (6, .int 0)]) C dJ6_getChars_ba4f3_32 rfl (by decide) rfl ?_
      refine x_iload_nY C dJ6_getChars_ba4f3_33 rfl rfl ?_
      refine x_bipushY (v := 100) C dJ6_getChars_ba4f3_34 (by decide) ?_
      refine x_imulY C dJ6_getChars_ba4f3_36 ?_
      refine x_iload_nY C dJ6_getChars_ba4f3_37 rfl rfl ?_
      refine x_isubY C dJ6_getChars_ba4f3_38 ?_
      refine x_topiY (y := (nI (w % 100))) (sb_nrem hw) ?_
      refine x_istoreY (lv' := [(4, .int (nI (w % 100))), (3, .int (-nI (w / 100))), (0, .int (-nI w)), (5, .int (nI q)), (2, .ref v), (6, .int 0)]) C dJ6_getChars_ba4f3_39 (by decide) rfl ?_
      refine x_iload_nY C dJ6_getChars_ba4f3_41 rfl rfl ?_
      refine x_istore_nY (lv' := [(0, .int (-nI (w / 100))), (4, .int (nI (w % 100))), (3, .int (-nI (w / 100))), (5, .int (nI q)), (2, .ref v), (6, .int 0)]) C dJ6_getChars_ba4f3_42 rfl (by decide) rfl ?_
      refine x_aload_nY C dJ6_getChars_ba4f3_43 rfl rfl ?_
      refine x_iincY (v := (nI (q - 1))) (lv' := [(5, .int (nI (q - 1))), (0, .int (-nI (w / 100))), (4, .int (nI (w % 100))), (3, .int (-nI (w / 100))), (2, .ref v), (6, .int 0)]) C dJ6_getChars_ba4f3_44 (k0 := 3) rfl (show nI (q) + (-1) = nI (q - 1) from sb_m1 (by omega)) (by decide) rfl ?_
      refine x_iloadY C dJ6_getChars_ba4f3_47 rfl ?_
      refine x_gsDOY C (bsG_in 635 (by decide +kernel) rfl) dJ6_getChars_ba4f3_49 ?_
      refine x_iloadY C dJ6_getChars_ba4f3_52 rfl ?_
      refine x_DOY (j := w % 100) C (by omega) dJ6_getChars_ba4f3_54 ?_
      have hE55 : upd a (bsIx (nI (q - 1))) (vp_nar .byte (nI (48 + w % 100 % 10))) = (upd a (q - 1) (sb_b (48 + w % 10))) := by rw [show bsIx (nI (q - 1)) = q - 1 from nI_clamp (by omega), vp_nar_byte, d1]; rfl
      have hv55 : (R0 ++ [E, (v, byC cA K a)])[R0.length + 1]? = some (v, byC cA K a) := (jd_at R0 _ 1).trans rfl
      refine x_bastY (Rz' := (R0 ++ [E, (v, byC cA K (upd a (q - 1) (sb_b (48 + w % 10))))])) C hv55 (vp_in_iff.mp (vp_in_nI (by omega) (by omega))) ((jd_set R0 _ 1 _).trans (by rw [hE55]; rfl)) dJ6_getChars_ba4f3_55 ?_
      refine x_aload_nY C dJ6_getChars_ba4f3_56 rfl rfl ?_
      refine x_iincY (v := (nI (q - 1 - 1))) (lv' := [(5, .int (nI (q - 1 - 1))), (0, .int (-nI (w / 100))), (4, .int (nI (w % 100))), (3, .int (-nI (w / 100))), (2, .ref v), (6, .int 0)]) C dJ6_getChars_ba4f3_57 (k0 := 0) rfl (show nI (q - 1) + (-1) = nI (q - 1 - 1) from sb_m1 (by omega)) (by decide) rfl ?_
      refine x_iloadY C dJ6_getChars_ba4f3_60 rfl ?_
      refine x_gsDTY C (bsG_in 637 (by decide +kernel) rfl) dJ6_getChars_ba4f3_62 ?_
      refine x_iloadY C dJ6_getChars_ba4f3_65 rfl ?_
      refine x_DTY (j := w % 100) C (by omega) dJ6_getChars_ba4f3_67 ?_
      have hE68 : upd (upd a (q - 1) (sb_b (48 + w % 10))) (bsIx (nI (q - 1 - 1))) (vp_nar .byte (nI (48 + w % 100 / 10))) = (upd (upd a (q - 1) (sb_b (48 + w % 10))) (q - 1 - 1) (sb_b (48 + w / 10 % 10))) := by rw [show bsIx (nI (q - 1 - 1)) = q - 1 - 1 from nI_clamp (by omega), vp_nar_byte, d2]; rfl
      have hv68 : (R0 ++ [E, (v, byC cA K (upd a (q - 1) (sb_b (48 + w % 10))))])[R0.length + 1]? = some (v, byC cA K (upd a (q - 1) (sb_b (48 + w % 10)))) := (jd_at R0 _ 1).trans rfl
      refine x_bastY (Rz' := (R0 ++ [E, (v, byC cA K (upd (upd a (q - 1) (sb_b (48 + w % 10))) (q - 1 - 1) (sb_b (48 + w / 10 % 10))))])) C hv68 (vp_in_iff.mp (vp_in_nI (by omega) (by omega))) ((jd_set R0 _ 1 _).trans (by rw [hE68]; rfl)) dJ6_getChars_ba4f3_68 ?_
      refine x_gotoY (tgt := 22) C dJ6_getChars_ba4f3_69 (by decide) ?_
      refine x_subY [1, 0, 4, 5] rfl ?_
      refine ih (w / 100) (q - 1 - 1) _ (by omega) (by omega) (by omega) (by omega) (fun a' h1 h2 h3 => ?_)
      refine hP a' (fun j hj => by rw [h1 j (by omega), pk_un (by omega), pk_un (by omega)]) (fun i hi => ?_) (fun hf => h3 (sb_fitU (sb_fitU hf (sb_fitB _)) (sb_fitB _)))
      match i, hi with
      | 0, _ => rw [Nat.sub_zero, h1 _ (by omega), pk_un (by omega), pk_us, Nat.pow_zero, Nat.div_one]
      | 1, _ => rw [h1 _ (by omega), pk_us, Nat.pow_one]
      | k + 2, hi =>
        rw [show q - 1 - (k + 2) = q - 1 - 1 - 1 - k by omega, h2 k (by omega), Nat.div_div_eq_div_mul, show 100 * 10 ^ k = 10 ^ (k + 2) by rw [show k + 2 = k + 1 + 1 from rfl, Nat.pow_succ, Nat.pow_succ]; omega]
set_option maxHeartbeats 4000000 in
set_option maxRecDepth 100000 in
theorem cJ6_getChars_ba4f3_okY {l : Launch} {ρ : bsR} {sc L : Nat} {xs : Nat → Int32} {cA : Nat → ClassId} {dC : Nat → ClassId} {dI : Nat → Nat → Nat} {X : bsX} {R0 : va_W} {E : Nat × va_E} {v K n w q : Nat} {a : Nat → Int32} (hK : K ≤ 65536) (hw : w < 2 ^ 31) (hq : q = n + sb_dg w) (hqK : q ≤ K) : xMiY l yJ6_getChars_ba4f3 cJ6_getChars_ba4f3 7 (some .int) rmJ6_getChars_ba4f3 ρ sc L xs cA dC dI [.int (nI w), .int (nI q), .ref v] X (R0 ++ [E, (v, byC cA K a)]) (fun r X' R' => r = nI n ∧ X' = X ∧ ∃ a' : Nat → Int32, R' = R0 ++ [E, (v, byC cA K a')] ∧ (∀ j, j < n ∨ q ≤ j → a' j = a j) ∧ (∀ i, i < sb_dg w → a' (q - 1 - i) = sb_b (48 + w / 10 ^ i % 10)) ∧ (sb_Fit a → sb_Fit a')) := by
  refine xMi_ofY (by decide +kernel) (Nat.le_of_ble_eq_true rfl) (fun p e s m args below meth c C => ?_)
  have C : xCx p m c cJ6_getChars_ba4f3 7 s args (Cond.code yJ6_getChars_ba4f3 cJ6_getChars_ba4f3 7 (some .int) :: bsG) RJ6 ρ sc L xs cA dC dI (bsAY ρ cA (R0 ++ [E, (v, byC cA K a)]) s.heap.size) meth (some .int) := C
  refine x_subY [0, 1, 2] rfl ?_
  refine x_iload_nY C dJ6_getChars_ba4f3_0 rfl rfl ?_
  refine x_istoreY (lv' := [(5, .int (nI q)), (0, .int (nI w)), (1, .int (nI q)), (2, .ref v)]) C dJ6_getChars_ba4f3_1 (by decide) rfl ?_
  refine x_iload_nY C dJ6_getChars_ba4f3_3 rfl rfl ?_
  refine x_if_geY (tgt := 11) C dJ6_getChars_ba4f3_4 (by decide) (fun _ => ?_) (fun h => absurd (nI_pos' hw) h)
  refine x_iconstY (v := 0) C dJ6_getChars_ba4f3_11 (by decide) ?_
  refine x_istoreY (lv' := [(6, .int 0), (5, .int (nI q)), (0, .int (nI w)), (1, .int (nI q)), (2, .ref v)]) C dJ6_getChars_ba4f3_12 (by decide) rfl ?_
  refine x_iloadY C dJ6_getChars_ba4f3_14 rfl ?_
  refine x_if_neY (tgt := 22) C dJ6_getChars_ba4f3_16 (by decide) (fun h => absurd (rfl) h) (fun _ => ?_)
  refine x_iload_nY C dJ6_getChars_ba4f3_19 rfl rfl ?_
  refine x_inegY C dJ6_getChars_ba4f3_20 ?_
  refine x_topiY (y := (-nI w)) (rfl) ?_
  refine x_istore_nY (lv' := [(0, .int (-nI w)), (6, .int 0), (5, .int (nI q)), (1, .int (nI q)), (2, .ref v)]) C dJ6_getChars_ba4f3_21 rfl (by decide) rfl ?_
  refine x_subY [0, 2, 4, 1] rfl ?_
  exact qJ6_22Y C hK (Nat.le_of_ble_eq_true rfl) (Nat.le_of_ble_eq_true rfl) (w + 1) w q a (by omega) hw hq hqK (fun a' h1 h2 h3 => ⟨rfl, rfl, a', rfl, h1, h2, h3⟩)
set_option maxHeartbeats 4000000 in
set_option maxRecDepth 100000 in
theorem cJ5_append_c97b9_okY {l : Launch} {ρ : bsR} {sc L : Nat} {xs : Nat → Int32} {cA : Nat → ClassId} {dC : Nat → ClassId} {dI : Nat → Nat → Nat} {X : bsX} {t : Nat → Nat} {n w : Nat} {b v k : Nat} {ml : Int32} {a : Nat → Int32} {R0 : va_W} (hL : sb_Lat t n a) (hf : sb_Fit a) (hnk : n ≤ k) (hm : k ≤ 1026) (hw : w < 2 ^ 31) (hq : n + sb_dg w ≤ 512) : xMrY l yJ5_append_c97b9 cJ5_append_c97b9 4 (some (.object "java/lang/AbstractStringBuilder")) rmJ5_append_c97b9 ρ sc L xs cA dC dI [.ref b, .int (nI w)] X (R0 ++ [(b, sbC v ml (nI n)), (v, byC cA k a)]) (fun r X' R' => r = b ∧ X' = X ∧ sbW cA R0 b (sb_cat t n (sb_dec w)) (n + sb_dg w) R') := by
  refine xMr_ofY (by decide +kernel) (Nat.le_of_ble_eq_true rfl) (fun p e s m args below meth c C => ?_)
  have C : xCx p m c cJ5_append_c97b9 4 s args (Cond.code yJ5_append_c97b9 cJ5_append_c97b9 4 (some (.object "java/lang/AbstractStringBuilder")) :: bsG) RJ5 ρ sc L xs cA dC dI (bsAY ρ cA (R0 ++ [(b, sbC v ml (nI n)), (v, byC cA k a)]) s.heap.size) meth (some (.object "java/lang/AbstractStringBuilder")) := C
  refine x_subY [0, 1] rfl ?_
  have he : (R0 ++ [(b, sbC v ml (nI n)), (v, byC cA k a)])[R0.length + 0]? = some (b, sbC v ml (nI n)) := (jd_at R0 _ 0).trans rfl
  have hv : (R0 ++ [(b, sbC v ml (nI n)), (v, byC cA k a)])[R0.length + 1]? = some (v, byC cA k a) := (jd_at R0 _ 1).trans rfl
  refine x_aload_nY C dJ5_append_c97b9_0 rfl rfl ?_
  refine x_getY C (T := TJ4) (N := 4) (k := 3) (Cn := RJ4) (ref := "java/lang/AbstractStringBuilder") he rfl bsin_J4 (by decide) (bsG_in 613 (by decide +kernel) rfl) rfl rfl dJ5_append_c97b9_1 ?_
  refine x_istore_nY (lv' := [(2, .int (nI n)), (0, .ref b), (1, .int (nI w))]) C dJ5_append_c97b9_4 rfl (by decide) rfl ?_
  refine x_iload_nY C dJ5_append_c97b9_5 rfl rfl ?_
  refine x_iload_nY C dJ5_append_c97b9_6 rfl rfl ?_
  refine x_callSiY (y := yJ6_stringSize_0f7a4) (As := [.int (nI w)]) (rest := [.int (nI n)]) C (cJ6_stringSize_0f7a4_okY hw) (bsG_in 629 (by decide +kernel) rfl) wzJ6_stringSize_0f7a4 dpJ6_stringSize_0f7a4 ⟨Nat.le_of_ble_eq_true rfl, Nat.le_of_ble_eq_true rfl⟩ ⟨Nat.le_of_ble_eq_true rfl, Nat.le_of_ble_eq_true rfl⟩ rfl (Nat.le_of_ble_eq_true rfl) dJ5_append_c97b9_7 (fun r X' R' hp => ?_)
  obtain ⟨e1, e2, e3⟩ := hp
  rw [e1, e2, e3]
  clear e1 e2 e3 r X' R'
  refine x_iaddY C dJ5_append_c97b9_10 ?_
  refine x_topiY (y := (nI (n + sb_dg w))) (nI_add n (sb_dg w)) ?_
  refine x_istore_nY (lv' := [(3, .int (nI (n + sb_dg w))), (2, .int (nI n)), (0, .ref b), (1, .int (nI w))]) C dJ5_append_c97b9_11 rfl (by decide) rfl ?_
  refine x_aload_nY C dJ5_append_c97b9_12 rfl rfl ?_
  refine x_iload_nY C dJ5_append_c97b9_13 rfl rfl ?_
  refine x_callUvY (y := yJ5_ensureCapacityInternal_d00df) (As := [.int (nI (n + sb_dg w))]) (rest := []) C (cJ5_ensureCapacityInternal_d00df_okY hq hm hf) (bsG_in 511 (by decide +kernel) rfl) wuJ5_ensureCapacityInternal_d00df he dpJ5_ensureCapacityInternal_d00df ⟨Nat.le_of_ble_eq_true rfl, Nat.le_of_ble_eq_true rfl⟩ ⟨Nat.le_of_ble_eq_true rfl, Nat.le_of_ble_eq_true rfl⟩ rfl (Nat.le_of_ble_eq_true rfl) dJ5_append_c97b9_14 (fun X' R' hp => ?_)
  obtain ⟨e2, v', a', e3, hf', hk'⟩ := hp
  rw [e2, e3]
  clear e2 e3 X' R'
  obtain ⟨hg1, hg2⟩ := jd_capc (k := k) (q := (n + sb_dg w)) hq hm
  have hk2 : ∀ j, j < n → a' j = a j := fun j hj => hk' j (by omega)
  clear hk'
  generalize sb_cap (n + sb_dg w) k = K at *
  have he2 : (R0 ++ [(b, sbC v' ml (nI n)), (v', byC cA K a')])[R0.length + 0]? = some (b, sbC v' ml (nI n)) := (jd_at R0 _ 0).trans rfl
  have hv2 : (R0 ++ [(b, sbC v' ml (nI n)), (v', byC cA K a')])[R0.length + 1]? = some (v', byC cA K a') := (jd_at R0 _ 1).trans rfl
  refine x_aload_nY C dJ5_append_c97b9_17 rfl rfl ?_
  refine x_callUiY (y := yJ5_isLatin1_aae02) (As := []) (rest := []) C (cJ5_isLatin1_aae02_okY he2) (bsG_in 545 (by decide +kernel) rfl) wuJ5_isLatin1_aae02 he2 dpJ5_isLatin1_aae02 ⟨Nat.le_of_ble_eq_true rfl, Nat.le_of_ble_eq_true rfl⟩ ⟨Nat.le_of_ble_eq_true rfl, Nat.le_of_ble_eq_true rfl⟩ rfl (Nat.le_of_ble_eq_true rfl) dJ5_append_c97b9_18 (fun r X' R' hp => ?_)
  obtain ⟨e1, e2, e3⟩ := hp
  rw [e1, e2, e3]
  clear e1 e2 e3 r X' R'
  refine x_if_eqY (tgt := 37) C dJ5_append_c97b9_21 (by decide) (fun h => absurd h (by decide)) (fun _ => ?_)
  refine x_iload_nY C dJ5_append_c97b9_24 rfl rfl ?_
  refine x_iload_nY C dJ5_append_c97b9_25 rfl rfl ?_
  refine x_aload_nY C dJ5_append_c97b9_26 rfl rfl ?_
  refine x_getY C (T := TJ4) (N := 4) (k := 0) (Cn := RJ4) (ref := "java/lang/AbstractStringBuilder") he2 rfl bsin_J4 (by decide) (bsG_in 610 (by decide +kernel) rfl) rfl rfl dJ5_append_c97b9_27 ?_
  refine x_callSiY (y := yJ6_getChars_ba4f3) (As := [.int (nI w), .int (nI (n + sb_dg w)), .ref v']) (rest := []) C (cJ6_getChars_ba4f3_okY (n := n) (by omega) hw rfl hg1) (bsG_in 632 (by decide +kernel) rfl) wzJ6_getChars_ba4f3 dpJ6_getChars_ba4f3 ⟨Nat.le_of_ble_eq_true rfl, Nat.le_of_ble_eq_true rfl⟩ ⟨Nat.le_of_ble_eq_true rfl, Nat.le_of_ble_eq_true rfl⟩ rfl (Nat.le_of_ble_eq_true rfl) dJ5_append_c97b9_30 (fun r X' R' hp => ?_)
  obtain ⟨e1, e2, a2, e3, h1, h2, h3⟩ := hp
  rw [e1, e2, e3]
  clear e1 e2 e3 r X' R'
  have he4 : (R0 ++ [(b, sbC v' ml (nI n)), (v', byC cA K a2)])[R0.length + 0]? = some (b, sbC v' ml (nI n)) := (jd_at R0 _ 0).trans rfl
  refine x_popY C dJ5_append_c97b9_33 rfl ?_
  refine x_gotoY (tgt := 48) C dJ5_append_c97b9_34 (by decide) ?_
  refine x_aload_nY C dJ5_append_c97b9_48 rfl rfl ?_
  refine x_iload_nY C dJ5_append_c97b9_49 rfl rfl ?_
  refine x_putY (Rz' := R0 ++ [(b, sbC v' ml (nI (n + sb_dg w))), (v', byC cA K a2)]) C (T := TJ4) (N := 4) (k := 3) (Cn := RJ4) (ref := "java/lang/AbstractStringBuilder") (ty := .int) he4 rfl bsin_J4 tyJ4 tyJ4_ok nmJ4 (by decide) (bsG_in 613 (by decide +kernel) rfl) rfl rfl rfl rfl rfl (Nat.le_of_ble_eq_true rfl) (jd_set R0 _ 0 _) dJ5_append_c97b9_50 ?_
  refine x_aload_nY C dJ5_append_c97b9_53 rfl rfl ?_
  have hd := sb_dg_in w
  exact x_aretY C (Or.inl ⟨_, rfl⟩) (⟨rfl, rfl, v', K, a2, ml, rfl, sb_latPut hL (fun j hj => (h1 j (Or.inl hj)).trans (hk2 j hj)) (fun i hi => by
    have h9 := h2 (sb_dg w - 1 - i) (by omega)
    rw [show n + sb_dg w - 1 - (sb_dg w - 1 - i) = n + i by omega] at h9
    exact ⟨by unfold sb_dec; omega, h9⟩), h3 hf', hg1, hg2⟩) (Nat.le_of_ble_eq_true rfl) (Nat.le_of_ble_eq_true rfl) dJ5_append_c97b9_54
theorem x_callTvY {p : Program} {l : Launch} {e : Env} {R : Room} {s : State} {m : MethodId} {args : Array Value} {below : List Frame} {meth : Method} {c : Code} {cells slots : Nat} {Q : State → Prop} {ρ : bsR} {sc L : Nat} {xs : Nat → Int32} {cA : Nat → ClassId} {dC : Nat → ClassId} {dI : Nat → Nat → Nat} {A : Nat → Prop} {Rz : va_W} {nL : Nat} {cc : ByteArray} {Ts : List Cond} {own : String} {ret : Option FieldType} {pc : Nat} {lv : List (Nat × Value)} {st : List Value} {X : bsX} (C : xCx p m c cc nL s args Ts own ρ sc L xs cA dC dI A meth ret) {y : MethodName} {b : ByteArray} {nL' index t : Nat} {ret' : Option FieldType} {rm' : Room} {As rest : List Value} {P : bsX → va_W → Prop} (ht : t < 22) (hcls : y.cls = RJ0) (hM : xMvY l y b nL' ret' rm' ρ sc L xs cA dC dI (.ref (ρ 16 0 t) :: As) X Rz P)
    (hl0 : Cond.methodLink own index y ∈ bsG) (hw : bsWy y b nL' ret') (hde : (parseMethodDescriptor y.desc).map (fun d => d.parameters.length) = some As.length)
    (hR : rm'.frames + 1 ≤ R.frames ∧ 8 + (nL' + 11) + rm'.locals ≤ R.locals) (hcs : cells + rm'.cells ≤ R.cells ∧ slots + rm'.slots ≤ R.slots) (hst : st = As.reverse ++ .ref (ρ 16 0 t) :: rest) (hW : (rest.map fun v => v.category).sum ≤ 8) (hd : decode cc pc = .ok (.invokevirtual index, 3))
    (kk : ∀ (X' : bsX) (Rz' : va_W), P X' Rz' → xVY p l e R s m args below meth c (cells + rm'.cells) (slots + rm'.slots) Q ρ cA dC dI A Rz' nL (pc + 3) lv rest X') : xVY p l e R s m args below meth c cells slots Q ρ cA dC dI A Rz nL pc lv st X := by
  intro ls H locs hl hP hD hS
  have hpre := x_preY (As := .ref (ρ 16 0 t) :: As) C hP hD hS
  have hrv := vk_recv C.2.2.2.1.2.1.1 ht hS
  rw [show "java/lang/String" = y.cls from hcls.symm] at hrv
  exact va_callv (va_runV (As := As) (rest := rest) C.1 (hM H.size) (cwV As.length C.1.2.2.2.2 (bs_goodV C.2.2.1 hl0 hw) rfl rfl rfl ⟨rfl, hw.2.2.2.2.1, hw.2.2.2.2.2, hde⟩ hR) ⟨hpre.1, hrv, hpre.2⟩ rfl rfl hl.1 hst (lv_room hW) hd hcs) hS (fun q _ h => xA_subY C hD hS q h) (fun q h => xA_subY C hD hS q h) (fun u t H1 locs1 ht hvm hr hB hz1 hk1 hS1 => x_backY hl ht hB (xA_subY C hD hS) hS1 (kk u.1 u.2 hr))
set_option maxHeartbeats 4000000 in
set_option maxRecDepth 100000 in
theorem cJ5_inflateIfNeededFor_a7421_okY {l : Launch} {ρ : bsR} {sc L : Nat} {xs : Nat → Int32} {cA : Nat → ClassId} {dC : Nat → ClassId} {dI : Nat → Nat → Nat} {X : bsX} {t : Nat} {q0 b v : Nat} {ml n : Int32} {Rz : va_W} (ht : t < 22) (he : Rz[q0]? = some (b, sbC v ml n)) : xMvY l yJ5_inflateIfNeededFor_a7421 cJ5_inflateIfNeededFor_a7421 2 none rmJ5_inflateIfNeededFor_a7421 ρ sc L xs cA dC dI [.ref b, .ref (ρ 16 0 t)] X (Rz) (fun X' R' => X' = X ∧ R' = Rz) := by
  refine xMv_ofY (by decide +kernel) (Nat.le_of_ble_eq_true rfl) (fun p e s m args below meth c C => ?_)
  have C : xCx p m c cJ5_inflateIfNeededFor_a7421 2 s args (Cond.code yJ5_inflateIfNeededFor_a7421 cJ5_inflateIfNeededFor_a7421 2 none :: bsG) RJ5 ρ sc L xs cA dC dI (bsAY ρ cA (Rz) s.heap.size) meth none := C
  refine x_subY [0, 1] rfl ?_
  refine x_gsCSY C (bsG_in 550 (by decide +kernel) rfl) dJ5_inflateIfNeededFor_a7421_0 ?_
  refine x_if_eqY (tgt := 21) C dJ5_inflateIfNeededFor_a7421_3 (by decide) (fun h => absurd h (by decide)) (fun _ => ?_)
  refine x_aload_nY C dJ5_inflateIfNeededFor_a7421_6 rfl rfl ?_
  refine x_getY C (T := TJ4) (N := 4) (k := 1) (Cn := RJ4) (ref := "java/lang/AbstractStringBuilder") he rfl bsin_J4 (by decide) (bsG_in 611 (by decide +kernel) rfl) rfl rfl dJ5_inflateIfNeededFor_a7421_7 ?_
  refine x_aload_nY C dJ5_inflateIfNeededFor_a7421_10 rfl rfl ?_
  refine x_callTiY (y := yJ0_coder_7d493) (As := []) (rest := [.int 0]) C ht rfl (cJ0_coder_7d493_okY ht) (bsG_in 486 (by decide +kernel) rfl) wyJ0_coder_7d493 dpJ0_coder_7d493 ⟨Nat.le_of_ble_eq_true rfl, Nat.le_of_ble_eq_true rfl⟩ ⟨rfl, rfl⟩ ⟨Nat.le_of_ble_eq_true rfl, Nat.le_of_ble_eq_true rfl⟩ rfl (Nat.le_of_ble_eq_true rfl) dJ5_inflateIfNeededFor_a7421_11 ?_
  refine x_icmp_eqY (tgt := 21) C dJ5_inflateIfNeededFor_a7421_14 (by decide) (fun _ => ?_) (fun h => absurd (rfl) h)
  exact x_vretY C (⟨rfl, rfl⟩) (Nat.le_of_ble_eq_true rfl) (Nat.le_of_ble_eq_true rfl) dJ5_inflateIfNeededFor_a7421_21
set_option maxHeartbeats 4000000 in
set_option maxRecDepth 100000 in
theorem cJ0_getBytes_840e7_okY {l : Launch} {ρ : bsR} {sc L : Nat} {xs : Nat → Int32} {cA : Nat → ClassId} {dC : Nat → ClassId} {dI : Nat → Nat → Nat} {X : bsX} {t n v K : Nat} {E : Nat × va_E} {a : Nat → Int32} {R0 : va_W} (ht : t < 22) (hK : K ≤ 65536) (hn : n + stN t ≤ K) : xMvY l yJ0_getBytes_840e7 cJ0_getBytes_840e7 4 none rmJ0_getBytes_840e7 ρ sc L xs cA dC dI [.ref (ρ 16 0 t), .ref v, .int (nI n), .int 0] X (R0 ++ [E, (v, byC cA K a)]) (fun X' R' => X' = X ∧ R' = R0 ++ [E, (v, byC cA K (va_cpy (fun j => (bsSb.getD t []).getD j 0) a 0 n (stN t)))]) := by
  refine xMv_ofY (by decide +kernel) (Nat.le_of_ble_eq_true rfl) (fun p e s m args below meth c C => ?_)
  have C : xCx p m c cJ0_getBytes_840e7 4 s args (Cond.code yJ0_getBytes_840e7 cJ0_getBytes_840e7 4 none :: bsG) RJ0 ρ sc L xs cA dC dI (bsAY ρ cA (R0 ++ [E, (v, byC cA K a)]) s.heap.size) meth none := C
  refine x_subY [0, 1, 2, 3] rfl ?_
  refine x_aload_nY C dJ0_getBytes_840e7_0 rfl rfl ?_
  refine x_callTiY (y := yJ0_coder_7d493) (As := []) (rest := []) C ht rfl (cJ0_coder_7d493_okY ht) (bsG_in 478 (by decide +kernel) rfl) wyJ0_coder_7d493 dpJ0_coder_7d493 ⟨Nat.le_of_ble_eq_true rfl, Nat.le_of_ble_eq_true rfl⟩ ⟨rfl, rfl⟩ ⟨Nat.le_of_ble_eq_true rfl, Nat.le_of_ble_eq_true rfl⟩ rfl (Nat.le_of_ble_eq_true rfl) dJ0_getBytes_840e7_1 ?_
  refine x_iload_nY C dJ0_getBytes_840e7_4 rfl rfl ?_
  refine x_icmp_neY (tgt := 28) C dJ0_getBytes_840e7_5 (by decide) (fun h => absurd (rfl) h) (fun _ => ?_)
  refine x_aload_nY C dJ0_getBytes_840e7_8 rfl rfl ?_
  refine x_sgetVY C ht (bsG_in 1558 (by decide +kernel) rfl) dJ0_getBytes_840e7_9 ?_
  refine x_iconstY (v := 0) C dJ0_getBytes_840e7_12 (by decide) ?_
  refine x_aload_nY C dJ0_getBytes_840e7_13 rfl rfl ?_
  refine x_iload_nY C dJ0_getBytes_840e7_14 rfl rfl ?_
  refine x_iload_nY C dJ0_getBytes_840e7_15 rfl rfl ?_
  refine x_ishlY C dJ0_getBytes_840e7_16 ?_
  refine x_topiY (y := (nI n)) (sb_shl0 _) ?_
  refine x_aload_nY C dJ0_getBytes_840e7_17 rfl rfl ?_
  refine x_sgetVY C ht (bsG_in 1558 (by decide +kernel) rfl) dJ0_getBytes_840e7_18 ?_
  refine x_slenY C ht dJ0_getBytes_840e7_21 ?_
  have hv : (R0 ++ [E, (v, byC cA K a)])[R0.length + 1]? = some (v, byC cA K a) := (jd_at R0 _ 1).trans rfl
  have h40 := (st_ok t ht).1
  have c1 : (nI n).toNatClampNeg = n := nI_clamp (by omega)
  have c2 : (nI (stN t)).toNatClampNeg = stN t := nI_clamp (by omega)
  refine x_copyTY (n := nI (stN t)) (Rz' := R0 ++ [E, (v, byC cA K (va_cpy (fun j => (bsSb.getD t []).getD j 0) a 0 n (stN t)))]) C ht (bsG_in 608 (by decide +kernel) rfl) hv (by decide) (pu_neg _ (by omega)) (pu_neg _ (by omega)) (by rw [sb_cl0, c2]; show 0 + stN t ≤ stN t; omega) (by rw [c1, c2]; exact hn) (fun i hi => by rw [sb_cl0, Nat.zero_add]; rw [c2] at hi; exact ((st_ok t ht).2 i hi).2.2) (Nat.le_of_ble_eq_true rfl) (Nat.le_of_ble_eq_true rfl) ((jd_set R0 _ 1 _).trans (by rw [sb_cl0, c1, c2]; rfl)) dJ0_getBytes_840e7_22 ?_
  refine x_gotoY (tgt := 43) C dJ0_getBytes_840e7_25 (by decide) ?_
  exact x_vretY C (⟨rfl, rfl⟩) (Nat.le_of_ble_eq_true rfl) (Nat.le_of_ble_eq_true rfl) dJ0_getBytes_840e7_43
set_option maxHeartbeats 4000000 in
set_option maxRecDepth 100000 in
theorem cJ5_putStringAt_47b60_okY {l : Launch} {ρ : bsR} {sc L : Nat} {xs : Nat → Int32} {cA : Nat → ClassId} {dC : Nat → ClassId} {dI : Nat → Nat → Nat} {X : bsX} {t n : Nat} {cn : Int32} {b v k : Nat} {ml : Int32} {a : Nat → Int32} {R0 : va_W} (ht : t < 22) (hK : k ≤ 65536) (hn : n + stN t ≤ k) : xMvY l yJ5_putStringAt_47b60 cJ5_putStringAt_47b60 3 none rmJ5_putStringAt_47b60 ρ sc L xs cA dC dI [.ref b, .int (nI n), .ref (ρ 16 0 t)] X (R0 ++ [(b, sbC v ml cn), (v, byC cA k a)]) (fun X' R' => X' = X ∧ R' = R0 ++ [(b, sbC v ml cn), (v, byC cA k (va_cpy (fun j => (bsSb.getD t []).getD j 0) a 0 n (stN t)))]) := by
  refine xMv_ofY (by decide +kernel) (Nat.le_of_ble_eq_true rfl) (fun p e s m args below meth c C => ?_)
  have C : xCx p m c cJ5_putStringAt_47b60 3 s args (Cond.code yJ5_putStringAt_47b60 cJ5_putStringAt_47b60 3 none :: bsG) RJ5 ρ sc L xs cA dC dI (bsAY ρ cA (R0 ++ [(b, sbC v ml cn), (v, byC cA k a)]) s.heap.size) meth none := C
  refine x_subY [0, 1, 2] rfl ?_
  have he : (R0 ++ [(b, sbC v ml cn), (v, byC cA k a)])[R0.length + 0]? = some (b, sbC v ml cn) := (jd_at R0 _ 0).trans rfl
  have hv : (R0 ++ [(b, sbC v ml cn), (v, byC cA k a)])[R0.length + 1]? = some (v, byC cA k a) := (jd_at R0 _ 1).trans rfl
  refine x_aload_nY C dJ5_putStringAt_47b60_0 rfl rfl ?_
  refine x_aload_nY C dJ5_putStringAt_47b60_1 rfl rfl ?_
  refine x_callUvY (y := yJ5_inflateIfNeededFor_a7421) (As := [.ref (ρ 16 0 t)]) (rest := []) C (cJ5_inflateIfNeededFor_a7421_okY ht he) (bsG_in 581 (by decide +kernel) rfl) wuJ5_inflateIfNeededFor_a7421 he dpJ5_inflateIfNeededFor_a7421 ⟨Nat.le_of_ble_eq_true rfl, Nat.le_of_ble_eq_true rfl⟩ ⟨Nat.le_of_ble_eq_true rfl, Nat.le_of_ble_eq_true rfl⟩ rfl (Nat.le_of_ble_eq_true rfl) dJ5_putStringAt_47b60_2 (fun X' R' hp => ?_)
  obtain ⟨e2, e3⟩ := hp
  rw [e2, e3]
  clear e2 e3 X' R'
  refine x_aload_nY C dJ5_putStringAt_47b60_5 rfl rfl ?_
  refine x_aload_nY C dJ5_putStringAt_47b60_6 rfl rfl ?_
  refine x_getY C (T := TJ4) (N := 4) (k := 0) (Cn := RJ4) (ref := "java/lang/AbstractStringBuilder") he rfl bsin_J4 (by decide) (bsG_in 610 (by decide +kernel) rfl) rfl rfl dJ5_putStringAt_47b60_7 ?_
  refine x_iload_nY C dJ5_putStringAt_47b60_10 rfl rfl ?_
  refine x_aload_nY C dJ5_putStringAt_47b60_11 rfl rfl ?_
  refine x_getY C (T := TJ4) (N := 4) (k := 1) (Cn := RJ4) (ref := "java/lang/AbstractStringBuilder") he rfl bsin_J4 (by decide) (bsG_in 611 (by decide +kernel) rfl) rfl rfl dJ5_putStringAt_47b60_12 ?_
  refine x_callTvY (y := yJ0_getBytes_840e7) (As := [.ref v, .int (nI n), .int 0]) (rest := []) C ht rfl (cJ0_getBytes_840e7_okY ht hK hn) (bsG_in 604 (by decide +kernel) rfl) wyJ0_getBytes_840e7 dpJ0_getBytes_840e7 ⟨Nat.le_of_ble_eq_true rfl, Nat.le_of_ble_eq_true rfl⟩ ⟨Nat.le_of_ble_eq_true rfl, Nat.le_of_ble_eq_true rfl⟩ rfl (Nat.le_of_ble_eq_true rfl) dJ5_putStringAt_47b60_15 (fun X' R' hp => ?_)
  obtain ⟨e2, e3⟩ := hp
  rw [e2, e3]
  clear e2 e3 X' R'
  exact x_vretY C (⟨rfl, rfl⟩) (Nat.le_of_ble_eq_true rfl) (Nat.le_of_ble_eq_true rfl) dJ5_putStringAt_47b60_18
set_option maxHeartbeats 4000000 in
set_option maxRecDepth 100000 in
theorem cJ5_append_cf1ce_okY {l : Launch} {ρ : bsR} {sc L : Nat} {xs : Nat → Int32} {cA : Nat → ClassId} {dC : Nat → ClassId} {dI : Nat → Nat → Nat} {X : bsX} {t : Nat → Nat} {n u : Nat} {b v k : Nat} {ml : Int32} {a : Nat → Int32} {R0 : va_W} (hL : sb_Lat t n a) (hf : sb_Fit a) (hnk : n ≤ k) (hm : k ≤ 1026) (ht : u < 22) (hq : n + stN u ≤ 512) : xMrY l yJ5_append_cf1ce cJ5_append_cf1ce 3 (some (.object "java/lang/AbstractStringBuilder")) rmJ5_append_cf1ce ρ sc L xs cA dC dI [.ref b, .ref (ρ 16 0 u)] X (R0 ++ [(b, sbC v ml (nI n)), (v, byC cA k a)]) (fun r X' R' => r = b ∧ X' = X ∧ sbW cA R0 b (sb_cat t n (stT u)) (n + stN u) R') := by
  refine xMr_ofY (by decide +kernel) (Nat.le_of_ble_eq_true rfl) (fun p e s m args below meth c C => ?_)
  have C : xCx p m c cJ5_append_cf1ce 3 s args (Cond.code yJ5_append_cf1ce cJ5_append_cf1ce 3 (some (.object "java/lang/AbstractStringBuilder")) :: bsG) RJ5 ρ sc L xs cA dC dI (bsAY ρ cA (R0 ++ [(b, sbC v ml (nI n)), (v, byC cA k a)]) s.heap.size) meth (some (.object "java/lang/AbstractStringBuilder")) := C
  refine x_subY [0, 1] rfl ?_
  have he : (R0 ++ [(b, sbC v ml (nI n)), (v, byC cA k a)])[R0.length + 0]? = some (b, sbC v ml (nI n)) := (jd_at R0 _ 0).trans rfl
  have hv : (R0 ++ [(b, sbC v ml (nI n)), (v, byC cA k a)])[R0.length + 1]? = some (v, byC cA k a) := (jd_at R0 _ 1).trans rfl
  refine x_aload_nY C dJ5_append_cf1ce_0 rfl rfl ?_
  refine x_nonnullY (tgt := 9) C dJ5_append_cf1ce_1 (by decide) ?_
  refine x_aload_nY C dJ5_append_cf1ce_9 rfl rfl ?_
  refine x_callTiY (y := yJ0_length_8abf5) (As := []) (rest := []) C ht rfl (cJ0_length_8abf5_okY ht) (bsG_in 474 (by decide +kernel) rfl) wyJ0_length_8abf5 dpJ0_length_8abf5 ⟨Nat.le_of_ble_eq_true rfl, Nat.le_of_ble_eq_true rfl⟩ ⟨rfl, rfl⟩ ⟨Nat.le_of_ble_eq_true rfl, Nat.le_of_ble_eq_true rfl⟩ rfl (Nat.le_of_ble_eq_true rfl) dJ5_append_cf1ce_10 ?_
  refine x_topiY (y := (nI (stN u))) (st_len u) ?_
  refine x_istore_nY (lv' := [(2, .int (nI (stN u))), (0, .ref b), (1, .ref (ρ 16 0 u))]) C dJ5_append_cf1ce_13 rfl (by decide) rfl ?_
  refine x_aload_nY C dJ5_append_cf1ce_14 rfl rfl ?_
  refine x_aload_nY C dJ5_append_cf1ce_15 rfl rfl ?_
  refine x_getY C (T := TJ4) (N := 4) (k := 3) (Cn := RJ4) (ref := "java/lang/AbstractStringBuilder") he rfl bsin_J4 (by decide) (bsG_in 613 (by decide +kernel) rfl) rfl rfl dJ5_append_cf1ce_16 ?_
  refine x_iload_nY C dJ5_append_cf1ce_19 rfl rfl ?_
  refine x_iaddY C dJ5_append_cf1ce_20 ?_
  refine x_topiY (y := (nI (n + stN u))) (nI_add n (stN u)) ?_
  refine x_callUvY (y := yJ5_ensureCapacityInternal_d00df) (As := [.int (nI (n + stN u))]) (rest := []) C (cJ5_ensureCapacityInternal_d00df_okY hq hm hf) (bsG_in 511 (by decide +kernel) rfl) wuJ5_ensureCapacityInternal_d00df he dpJ5_ensureCapacityInternal_d00df ⟨Nat.le_of_ble_eq_true rfl, Nat.le_of_ble_eq_true rfl⟩ ⟨Nat.le_of_ble_eq_true rfl, Nat.le_of_ble_eq_true rfl⟩ rfl (Nat.le_of_ble_eq_true rfl) dJ5_append_cf1ce_21 (fun X' R' hp => ?_)
  obtain ⟨e2, v', a', e3, hf', hk'⟩ := hp
  rw [e2, e3]
  clear e2 e3 X' R'
  obtain ⟨hg1, hg2⟩ := jd_capc (k := k) (q := (n + stN u)) hq hm
  have hk2 : ∀ j, j < n → a' j = a j := fun j hj => hk' j (by omega)
  clear hk'
  generalize sb_cap (n + stN u) k = K at *
  have he2 : (R0 ++ [(b, sbC v' ml (nI n)), (v', byC cA K a')])[R0.length + 0]? = some (b, sbC v' ml (nI n)) := (jd_at R0 _ 0).trans rfl
  have hv2 : (R0 ++ [(b, sbC v' ml (nI n)), (v', byC cA K a')])[R0.length + 1]? = some (v', byC cA K a') := (jd_at R0 _ 1).trans rfl
  refine x_aload_nY C dJ5_append_cf1ce_24 rfl rfl ?_
  refine x_aload_nY C dJ5_append_cf1ce_25 rfl rfl ?_
  refine x_getY C (T := TJ4) (N := 4) (k := 3) (Cn := RJ4) (ref := "java/lang/AbstractStringBuilder") he2 rfl bsin_J4 (by decide) (bsG_in 613 (by decide +kernel) rfl) rfl rfl dJ5_append_cf1ce_26 ?_
  refine x_aload_nY C dJ5_append_cf1ce_29 rfl rfl ?_
  refine x_callUvY (y := yJ5_putStringAt_47b60) (As := [.int (nI n), .ref (ρ 16 0 u)]) (rest := []) C (cJ5_putStringAt_47b60_okY ht (by omega) hg1) (bsG_in 577 (by decide +kernel) rfl) wuJ5_putStringAt_47b60 he2 dpJ5_putStringAt_47b60 ⟨Nat.le_of_ble_eq_true rfl, Nat.le_of_ble_eq_true rfl⟩ ⟨Nat.le_of_ble_eq_true rfl, Nat.le_of_ble_eq_true rfl⟩ rfl (Nat.le_of_ble_eq_true rfl) dJ5_append_cf1ce_30 (fun X' R' hp => ?_)
  obtain ⟨e2, e3⟩ := hp
  rw [e2, e3]
  clear e2 e3 X' R'
  have he4 : (R0 ++ [(b, sbC v' ml (nI n)), (v', byC cA K (va_cpy (fun j => (bsSb.getD u []).getD j 0) a' 0 n (stN u)))])[R0.length + 0]? = some (b, sbC v' ml (nI n)) := (jd_at R0 _ 0).trans rfl
  refine x_aload_nY C dJ5_append_cf1ce_33 rfl rfl ?_
  refine x_dupY C dJ5_append_cf1ce_34 rfl ?_
  refine x_getY C (T := TJ4) (N := 4) (k := 3) (Cn := RJ4) (ref := "java/lang/AbstractStringBuilder") he4 rfl bsin_J4 (by decide) (bsG_in 613 (by decide +kernel) rfl) rfl rfl dJ5_append_cf1ce_35 ?_
  refine x_iload_nY C dJ5_append_cf1ce_38 rfl rfl ?_
  refine x_iaddY C dJ5_append_cf1ce_39 ?_
  refine x_topiY (y := (nI (n + stN u))) (nI_add n (stN u)) ?_
  refine x_putY (Rz' := R0 ++ [(b, sbC v' ml (nI (n + stN u))), (v', byC cA K (va_cpy (fun j => (bsSb.getD u []).getD j 0) a' 0 n (stN u)))]) C (T := TJ4) (N := 4) (k := 3) (Cn := RJ4) (ref := "java/lang/AbstractStringBuilder") (ty := .int) he4 rfl bsin_J4 tyJ4 tyJ4_ok nmJ4 (by decide) (bsG_in 613 (by decide +kernel) rfl) rfl rfl rfl rfl rfl (Nat.le_of_ble_eq_true rfl) (jd_set R0 _ 0 _) dJ5_append_cf1ce_40 ?_
  refine x_aload_nY C dJ5_append_cf1ce_43 rfl rfl ?_
  exact x_aretY C (Or.inl ⟨_, rfl⟩) (⟨rfl, rfl, v', K, _, ml, rfl, sb_latPut hL (fun j hj => (if_neg (by omega)).trans (hk2 j hj)) (fun i hi => ⟨((st_ok u ht).2 i hi).1, by
    show (if n ≤ n + i ∧ n + i < n + stN u then _ else _) = _
    rw [if_pos (by omega), show 0 + (n + i - n) = i by omega]
    exact ((st_ok u ht).2 i hi).2.1⟩), jd_fitT ht hf', hg1, hg2⟩) (Nat.le_of_ble_eq_true rfl) (Nat.le_of_ble_eq_true rfl) dJ5_append_cf1ce_44
set_option maxHeartbeats 4000000 in
set_option maxRecDepth 100000 in
theorem cJ4_append_cf468_okY {l : Launch} {ρ : bsR} {sc L : Nat} {xs : Nat → Int32} {cA : Nat → ClassId} {dC : Nat → ClassId} {dI : Nat → Nat → Nat} {X : bsX} {t : Nat → Nat} {n ch : Nat} {b v k : Nat} {ml : Int32} {a : Nat → Int32} {R0 : va_W} (hL : sb_Lat t n a) (hf : sb_Fit a) (hnk : n ≤ k) (hm : k ≤ 1026) (hq : n + 1 ≤ 512) (hc : ch < 256) : xMrY l yJ4_append_cf468 cJ4_append_cf468 2 (some (.object "java/lang/StringBuilder")) rmJ4_append_cf468 ρ sc L xs cA dC dI [.ref b, .int (nI ch)] X (R0 ++ [(b, sbC v ml (nI n)), (v, byC cA k a)]) (fun r X' R' => r = b ∧ X' = X ∧ sbW cA R0 b (sb_cat t n (fun _ => ch)) (n + 1) R') := by
  refine xMr_ofY (by decide +kernel) (Nat.le_of_ble_eq_true rfl) (fun p e s m args below meth c C => ?_)
  have C : xCx p m c cJ4_append_cf468 2 s args (Cond.code yJ4_append_cf468 cJ4_append_cf468 2 (some (.object "java/lang/StringBuilder")) :: bsG) RJ4 ρ sc L xs cA dC dI (bsAY ρ cA (R0 ++ [(b, sbC v ml (nI n)), (v, byC cA k a)]) s.heap.size) meth (some (.object "java/lang/StringBuilder")) := C
  refine x_subY [0, 1] rfl ?_
  have he : (R0 ++ [(b, sbC v ml (nI n)), (v, byC cA k a)])[R0.length + 0]? = some (b, sbC v ml (nI n)) := (jd_at R0 _ 0).trans rfl
  refine x_aload_nY C dJ4_append_cf468_0 rfl rfl ?_
  refine x_iload_nY C dJ4_append_cf468_1 rfl rfl ?_
  refine x_callSr'Y (y := yJ5_append_3fe6f) (As := [.int (nI ch)]) (rest := []) C (cJ5_append_3fe6f_okY hL hf hnk hm hq hc) (bsG_in 651 (by decide +kernel) rfl) wsJ5_append_3fe6f he dpJ5_append_3fe6f ⟨Nat.le_of_ble_eq_true rfl, Nat.le_of_ble_eq_true rfl⟩ ⟨Nat.le_of_ble_eq_true rfl, Nat.le_of_ble_eq_true rfl⟩ rfl (Nat.le_of_ble_eq_true rfl) dJ4_append_cf468_2 (fun r X' R' hp => ?_)
  obtain ⟨e1, e2, hW⟩ := hp
  rw [e2]
  clear e2 X'
  refine x_popY C dJ4_append_cf468_5 rfl ?_
  refine x_aload_nY C dJ4_append_cf468_6 rfl rfl ?_
  exact x_aretY C (Or.inl ⟨_, rfl⟩) (⟨rfl, rfl, hW⟩) (Nat.le_of_ble_eq_true rfl) (Nat.le_of_ble_eq_true rfl) dJ4_append_cf468_7
set_option maxHeartbeats 4000000 in
set_option maxRecDepth 100000 in
theorem cJ4_append_bf812_okY {l : Launch} {ρ : bsR} {sc L : Nat} {xs : Nat → Int32} {cA : Nat → ClassId} {dC : Nat → ClassId} {dI : Nat → Nat → Nat} {X : bsX} {t : Nat → Nat} {n w : Nat} {b v k : Nat} {ml : Int32} {a : Nat → Int32} {R0 : va_W} (hL : sb_Lat t n a) (hf : sb_Fit a) (hnk : n ≤ k) (hm : k ≤ 1026) (hw : w < 2 ^ 31) (hq : n + sb_dg w ≤ 512) : xMrY l yJ4_append_bf812 cJ4_append_bf812 2 (some (.object "java/lang/StringBuilder")) rmJ4_append_bf812 ρ sc L xs cA dC dI [.ref b, .int (nI w)] X (R0 ++ [(b, sbC v ml (nI n)), (v, byC cA k a)]) (fun r X' R' => r = b ∧ X' = X ∧ sbW cA R0 b (sb_cat t n (sb_dec w)) (n + sb_dg w) R') := by
  refine xMr_ofY (by decide +kernel) (Nat.le_of_ble_eq_true rfl) (fun p e s m args below meth c C => ?_)
  have C : xCx p m c cJ4_append_bf812 2 s args (Cond.code yJ4_append_bf812 cJ4_append_bf812 2 (some (.object "java/lang/StringBuilder")) :: bsG) RJ4 ρ sc L xs cA dC dI (bsAY ρ cA (R0 ++ [(b, sbC v ml (nI n)), (v, byC cA k a)]) s.heap.size) meth (some (.object "java/lang/StringBuilder")) := C
  refine x_subY [0, 1] rfl ?_
  have he : (R0 ++ [(b, sbC v ml (nI n)), (v, byC cA k a)])[R0.length + 0]? = some (b, sbC v ml (nI n)) := (jd_at R0 _ 0).trans rfl
  refine x_aload_nY C dJ4_append_bf812_0 rfl rfl ?_
  refine x_iload_nY C dJ4_append_bf812_1 rfl rfl ?_
  refine x_callSr'Y (y := yJ5_append_c97b9) (As := [.int (nI w)]) (rest := []) C (cJ5_append_c97b9_okY hL hf hnk hm hw hq) (bsG_in 626 (by decide +kernel) rfl) wsJ5_append_c97b9 he dpJ5_append_c97b9 ⟨Nat.le_of_ble_eq_true rfl, Nat.le_of_ble_eq_true rfl⟩ ⟨Nat.le_of_ble_eq_true rfl, Nat.le_of_ble_eq_true rfl⟩ rfl (Nat.le_of_ble_eq_true rfl) dJ4_append_bf812_2 (fun r X' R' hp => ?_)
  obtain ⟨e1, e2, hW⟩ := hp
  rw [e2]
  clear e2 X'
  refine x_popY C dJ4_append_bf812_5 rfl ?_
  refine x_aload_nY C dJ4_append_bf812_6 rfl rfl ?_
  exact x_aretY C (Or.inl ⟨_, rfl⟩) (⟨rfl, rfl, hW⟩) (Nat.le_of_ble_eq_true rfl) (Nat.le_of_ble_eq_true rfl) dJ4_append_bf812_7
set_option maxHeartbeats 4000000 in
set_option maxRecDepth 100000 in
theorem cJ4_append_15ec4_okY {l : Launch} {ρ : bsR} {sc L : Nat} {xs : Nat → Int32} {cA : Nat → ClassId} {dC : Nat → ClassId} {dI : Nat → Nat → Nat} {X : bsX} {t : Nat → Nat} {n u : Nat} {b v k : Nat} {ml : Int32} {a : Nat → Int32} {R0 : va_W} (hL : sb_Lat t n a) (hf : sb_Fit a) (hnk : n ≤ k) (hm : k ≤ 1026) (ht : u < 22) (hq : n + stN u ≤ 512) : xMrY l yJ4_append_15ec4 cJ4_append_15ec4 2 (some (.object "java/lang/StringBuilder")) rmJ4_append_15ec4 ρ sc L xs cA dC dI [.ref b, .ref (ρ 16 0 u)] X (R0 ++ [(b, sbC v ml (nI n)), (v, byC cA k a)]) (fun r X' R' => r = b ∧ X' = X ∧ sbW cA R0 b (sb_cat t n (stT u)) (n + stN u) R') := by
  refine xMr_ofY (by decide +kernel) (Nat.le_of_ble_eq_true rfl) (fun p e s m args below meth c C => ?_)
  have C : xCx p m c cJ4_append_15ec4 2 s args (Cond.code yJ4_append_15ec4 cJ4_append_15ec4 2 (some (.object "java/lang/StringBuilder")) :: bsG) RJ4 ρ sc L xs cA dC dI (bsAY ρ cA (R0 ++ [(b, sbC v ml (nI n)), (v, byC cA k a)]) s.heap.size) meth (some (.object "java/lang/StringBuilder")) := C
  refine x_subY [0, 1] rfl ?_
  have he : (R0 ++ [(b, sbC v ml (nI n)), (v, byC cA k a)])[R0.length + 0]? = some (b, sbC v ml (nI n)) := (jd_at R0 _ 0).trans rfl
  refine x_aload_nY C dJ4_append_15ec4_0 rfl rfl ?_
  refine x_aload_nY C dJ4_append_15ec4_1 rfl rfl ?_
  refine x_callSr'Y (y := yJ5_append_cf1ce) (As := [.ref (ρ 16 0 u)]) (rest := []) C (cJ5_append_cf1ce_okY hL hf hnk hm ht hq) (bsG_in 504 (by decide +kernel) rfl) wsJ5_append_cf1ce he dpJ5_append_cf1ce ⟨Nat.le_of_ble_eq_true rfl, Nat.le_of_ble_eq_true rfl⟩ ⟨Nat.le_of_ble_eq_true rfl, Nat.le_of_ble_eq_true rfl⟩ rfl (Nat.le_of_ble_eq_true rfl) dJ4_append_15ec4_2 (fun r X' R' hp => ?_)
  obtain ⟨e1, e2, hW⟩ := hp
  rw [e2]
  clear e2 X'
  refine x_popY C dJ4_append_15ec4_5 rfl ?_
  refine x_aload_nY C dJ4_append_15ec4_6 rfl rfl ?_
  exact x_aretY C (Or.inl ⟨_, rfl⟩) (⟨rfl, rfl, hW⟩) (Nat.le_of_ble_eq_true rfl) (Nat.le_of_ble_eq_true rfl) dJ4_append_15ec4_7
set_option maxHeartbeats 4000000 in
set_option maxRecDepth 100000 in
theorem cJ4_append_cf1ce_okY {l : Launch} {ρ : bsR} {sc L : Nat} {xs : Nat → Int32} {cA : Nat → ClassId} {dC : Nat → ClassId} {dI : Nat → Nat → Nat} {X : bsX} {t : Nat → Nat} {n u : Nat} {b v k : Nat} {ml : Int32} {a : Nat → Int32} {R0 : va_W} (hL : sb_Lat t n a) (hf : sb_Fit a) (hnk : n ≤ k) (hm : k ≤ 1026) (ht : u < 22) (hq : n + stN u ≤ 512) : xMrY l yJ4_append_cf1ce cJ4_append_cf1ce 2 (some (.object "java/lang/AbstractStringBuilder")) rmJ4_append_cf1ce ρ sc L xs cA dC dI [.ref b, .ref (ρ 16 0 u)] X (R0 ++ [(b, sbC v ml (nI n)), (v, byC cA k a)]) (fun r X' R' => r = b ∧ X' = X ∧ sbW cA R0 b (sb_cat t n (stT u)) (n + stN u) R') := by
  refine xMr_ofY (by decide +kernel) (Nat.le_of_ble_eq_true rfl) (fun p e s m args below meth c C => ?_)
  have C : xCx p m c cJ4_append_cf1ce 2 s args (Cond.code yJ4_append_cf1ce cJ4_append_cf1ce 2 (some (.object "java/lang/AbstractStringBuilder")) :: bsG) RJ4 ρ sc L xs cA dC dI (bsAY ρ cA (R0 ++ [(b, sbC v ml (nI n)), (v, byC cA k a)]) s.heap.size) meth (some (.object "java/lang/AbstractStringBuilder")) := C
  refine x_subY [0, 1] rfl ?_
  have he : (R0 ++ [(b, sbC v ml (nI n)), (v, byC cA k a)])[R0.length + 0]? = some (b, sbC v ml (nI n)) := (jd_at R0 _ 0).trans rfl
  refine x_aload_nY C dJ4_append_cf1ce_0 rfl rfl ?_
  refine x_aload_nY C dJ4_append_cf1ce_1 rfl rfl ?_
  refine x_callVrY (y := yJ4_append_15ec4) (As := [.ref (ρ 16 0 u)]) (rest := []) C (cJ4_append_15ec4_okY hL hf hnk hm ht hq) (bsG_in 500 (by decide +kernel) rfl) wyJ4_append_15ec4 he rfl dpJ4_append_15ec4 ⟨Nat.le_of_ble_eq_true rfl, Nat.le_of_ble_eq_true rfl⟩ ⟨Nat.le_of_ble_eq_true rfl, Nat.le_of_ble_eq_true rfl⟩ rfl (Nat.le_of_ble_eq_true rfl) dJ4_append_cf1ce_2 (fun r X' R' hp => ?_)
  exact x_aretY C (Or.inl ⟨_, rfl⟩) (hp) (Nat.le_of_ble_eq_true rfl) (Nat.le_of_ble_eq_true rfl) dJ4_append_cf1ce_5
set_option maxHeartbeats 4000000 in
set_option maxRecDepth 100000 in
theorem cJ5_init_a7421_okY {l : Launch} {ρ : bsR} {sc L : Nat} {xs : Nat → Int32} {cA : Nat → ClassId} {dC : Nat → ClassId} {dI : Nat → Nat → Nat} {X : bsX} {t : Nat} {b : Nat} {R0 : va_W} (ht : t < 22) : xMvY l yJ5_init_a7421 cJ5_init_a7421 5 none rmJ5_init_a7421 ρ sc L xs cA dC dI [.ref b, .ref (ρ 16 0 t)] X (R0 ++ [(b, sb0)]) (fun X' R' => X' = X ∧ sbW cA R0 b (stT t) (stN t) R') := by
  refine xMv_ofY (by decide +kernel) (Nat.le_of_ble_eq_true rfl) (fun p e s m args below meth c C => ?_)
  have C : xCx p m c cJ5_init_a7421 5 s args (Cond.code yJ5_init_a7421 cJ5_init_a7421 5 none :: bsG) RJ5 ρ sc L xs cA dC dI (bsAY ρ cA (R0 ++ [(b, sb0)]) s.heap.size) meth none := C
  refine x_subY [0, 1] rfl ?_
  have h40 := (st_ok t ht).1
  have he : (R0 ++ [(b, sb0)])[R0.length + 0]? = some (b, sb0) := (jd_at R0 _ 0).trans rfl
  refine x_aload_nY C dJ5_init_a7421_0 rfl rfl ?_
  refine x_objInitY C (bsG_in 473 (by decide +kernel) rfl) dJ5_init_a7421_1 ⟨Nat.le_of_ble_eq_true rfl, Nat.le_of_ble_eq_true rfl⟩ ?_
  refine x_aload_nY C dJ5_init_a7421_4 rfl rfl ?_
  refine x_callTiY (y := yJ0_length_8abf5) (As := []) (rest := []) C ht rfl (cJ0_length_8abf5_okY ht) (bsG_in 474 (by decide +kernel) rfl) wyJ0_length_8abf5 dpJ0_length_8abf5 ⟨Nat.le_of_ble_eq_true rfl, Nat.le_of_ble_eq_true rfl⟩ ⟨rfl, rfl⟩ ⟨Nat.le_of_ble_eq_true rfl, Nat.le_of_ble_eq_true rfl⟩ rfl (Nat.le_of_ble_eq_true rfl) dJ5_init_a7421_5 ?_
  refine x_istore_nY (lv' := [(2, .int (nI (stN t))), (0, .ref b), (1, .ref (ρ 16 0 t))]) C dJ5_init_a7421_8 rfl (by decide) rfl ?_
  refine x_iload_nY C dJ5_init_a7421_9 rfl rfl ?_
  refine x_ldcY (v := 2147483631) C (bsG_in 484 (by decide +kernel) rfl) dJ5_init_a7421_10 ?_
  refine x_icmp_geY (tgt := 22) C dJ5_init_a7421_12 (by decide) (fun h => absurd h (show ¬ nI 2147483631 ≤ nI (stN t) from nI_ge (by omega) (by decide))) (fun _ => ?_)
  refine x_iload_nY C dJ5_init_a7421_15 rfl rfl ?_
  refine x_bipushY (v := 16) C dJ5_init_a7421_16 (by decide) ?_
  refine x_iaddY C dJ5_init_a7421_18 ?_
  refine x_topiY (y := (nI (stN t + 16))) (show nI (stN t) + 16 = nI (stN t + 16) from nI_add (stN t) 16) ?_
  refine x_gotoY (tgt := 24) C dJ5_init_a7421_19 (by decide) ?_
  refine x_istore_nY (lv' := [(3, .int (nI (stN t + 16))), (2, .int (nI (stN t))), (0, .ref b), (1, .ref (ρ 16 0 t))]) C dJ5_init_a7421_24 rfl (by decide) rfl ?_
  refine x_aload_nY C dJ5_init_a7421_25 rfl rfl ?_
  refine x_callTiY (y := yJ0_coder_7d493) (As := []) (rest := []) C ht rfl (cJ0_coder_7d493_okY ht) (bsG_in 486 (by decide +kernel) rfl) wyJ0_coder_7d493 dpJ0_coder_7d493 ⟨Nat.le_of_ble_eq_true rfl, Nat.le_of_ble_eq_true rfl⟩ ⟨rfl, rfl⟩ ⟨Nat.le_of_ble_eq_true rfl, Nat.le_of_ble_eq_true rfl⟩ rfl (Nat.le_of_ble_eq_true rfl) dJ5_init_a7421_26 ?_
  refine x_istoreY (lv' := [(4, .int 0), (3, .int (nI (stN t + 16))), (2, .int (nI (stN t))), (0, .ref b), (1, .ref (ρ 16 0 t))]) C dJ5_init_a7421_29 (by decide) rfl ?_
  refine x_aload_nY C dJ5_init_a7421_31 rfl rfl ?_
  refine x_iloadY C dJ5_init_a7421_32 rfl ?_
  refine x_putY (Rz' := R0 ++ [(b, sb0)]) C (T := TJ4) (N := 4) (k := 1) (Cn := RJ4) (ref := "java/lang/AbstractStringBuilder") (ty := .byte) he rfl bsin_J4 tyJ4 tyJ4_ok nmJ4 (by decide) (bsG_in 611 (by decide +kernel) rfl) rfl rfl rfl rfl rfl (Nat.le_of_ble_eq_true rfl) (jd_set R0 _ 0 _) dJ5_init_a7421_34 ?_
  refine x_aload_nY C dJ5_init_a7421_37 rfl rfl ?_
  refine x_iloadY C dJ5_init_a7421_38 rfl ?_
  refine x_if_neY (tgt := 49) C dJ5_init_a7421_40 (by decide) (fun h => absurd (rfl) h) (fun _ => ?_)
  refine x_iload_nY C dJ5_init_a7421_43 rfl rfl ?_
  refine x_newbY (N := stN t + 16) C (pu_neg _ (by omega)) (nI_clamp (by omega)) (by omega) ⟨Nat.le_of_ble_eq_true rfl, by show 0 + (stN t + 16) ≤ 1082; omega⟩ dJ5_init_a7421_44 (fun r => ?_)
  refine x_widenY (k := 1) (n := 56) (Nat.le_of_ble_eq_true rfl) (by show 0 + (stN t + 16) ≤ 56; omega) ?_
  refine x_eqY (Rz' := R0 ++ [(b, sb0), (r, byC cA (stN t + 16) (fun _ => (0 : Int32)))]) (by rw [List.append_assoc]; rfl) ?_
  have he2 : (R0 ++ [(b, sb0), (r, byC cA (stN t + 16) (fun _ => (0 : Int32)))])[R0.length + 0]? = some (b, sb0) := (jd_at R0 _ 0).trans rfl
  refine x_gotoY (tgt := 53) C dJ5_init_a7421_46 (by decide) ?_
  refine x_putY (Rz' := R0 ++ [(b, sbC r 0 (nI 0)), (r, byC cA (stN t + 16) (fun _ => (0 : Int32)))]) C (T := TJ4) (N := 4) (k := 0) (Cn := RJ4) (ref := "java/lang/AbstractStringBuilder") (ty := .array .byte) he2 rfl bsin_J4 tyJ4 tyJ4_ok nmJ4 (by decide) (bsG_in 610 (by decide +kernel) rfl) rfl rfl rfl rfl rfl (Nat.le_of_ble_eq_true rfl) (jd_set R0 _ 0 _) dJ5_init_a7421_53 ?_
  have he3 : (R0 ++ [(b, sbC r 0 (nI 0)), (r, byC cA (stN t + 16) (fun _ => (0 : Int32)))])[R0.length + 0]? = some (b, sbC r 0 (nI 0)) := (jd_at R0 _ 0).trans rfl
  refine x_aload_nY C dJ5_init_a7421_56 rfl rfl ?_
  refine x_aload_nY C dJ5_init_a7421_57 rfl rfl ?_
  refine x_callOrY (y := yJ4_append_cf1ce) (x := yJ5_append_cf1ce) (As := [.ref (ρ 16 0 t)]) (rest := []) C (cJ4_append_cf1ce_okY (t := fun _ => 0) (n := 0) (fun j h => absurd h (Nat.not_lt_zero j)) sb_fit0 (Nat.zero_le _) (by omega) ht (by omega)) (bsG_in 494 (by decide +kernel) rfl) wzJ4_append_cf1ce woJ5_append_cf1ce he3 dpJ5_append_cf1ce ⟨Nat.le_of_ble_eq_true rfl, Nat.le_of_ble_eq_true rfl⟩ ⟨Nat.le_of_ble_eq_true rfl, Nat.le_of_ble_eq_true rfl⟩ rfl (Nat.le_of_ble_eq_true rfl) dJ5_init_a7421_58 (fun r X' R' hp => ?_)
  obtain ⟨e1, e2, hW⟩ := hp
  rw [e2]
  clear e2 X'
  rw [sb_cat0, Nat.zero_add] at hW
  refine x_popY C dJ5_init_a7421_61 rfl ?_
  exact x_vretY C (⟨rfl, hW⟩) (Nat.le_of_ble_eq_true rfl) (Nat.le_of_ble_eq_true rfl) dJ5_init_a7421_62
set_option maxHeartbeats 4000000 in
set_option maxRecDepth 100000 in
theorem cJ4_init_a7421_okY {l : Launch} {ρ : bsR} {sc L : Nat} {xs : Nat → Int32} {cA : Nat → ClassId} {dC : Nat → ClassId} {dI : Nat → Nat → Nat} {X : bsX} {t : Nat} {b : Nat} {R0 : va_W} (ht : t < 22) : xMvY l yJ4_init_a7421 cJ4_init_a7421 2 none rmJ4_init_a7421 ρ sc L xs cA dC dI [.ref b, .ref (ρ 16 0 t)] X (R0 ++ [(b, sb0)]) (fun X' R' => X' = X ∧ sbW cA R0 b (stT t) (stN t) R') := by
  refine xMv_ofY (by decide +kernel) (Nat.le_of_ble_eq_true rfl) (fun p e s m args below meth c C => ?_)
  have C : xCx p m c cJ4_init_a7421 2 s args (Cond.code yJ4_init_a7421 cJ4_init_a7421 2 none :: bsG) RJ4 ρ sc L xs cA dC dI (bsAY ρ cA (R0 ++ [(b, sb0)]) s.heap.size) meth none := C
  refine x_subY [0, 1] rfl ?_
  refine x_aload_nY C dJ4_init_a7421_0 rfl rfl ?_
  refine x_aload_nY C dJ4_init_a7421_1 rfl rfl ?_
  refine x_callIY (y := yJ5_init_a7421) (As := [.ref (ρ 16 0 t)]) (rest := []) C (cJ5_init_a7421_okY ht) (bsG_in 470 (by decide +kernel) rfl) wiJ5_init_a7421 dpJ5_init_a7421 ⟨Nat.le_of_ble_eq_true rfl, Nat.le_of_ble_eq_true rfl⟩ ⟨Nat.le_of_ble_eq_true rfl, Nat.le_of_ble_eq_true rfl⟩ rfl (Nat.le_of_ble_eq_true rfl) dJ4_init_a7421_2 (fun X' R' hp => ?_)
  exact x_vretY C (hp) (Nat.le_of_ble_eq_true rfl) (Nat.le_of_ble_eq_true rfl) dJ4_init_a7421_5
theorem x_outY {p : Program} {l : Launch} {e : Env} {R : Room} {s : State} {m : MethodId} {args : Array Value} {below : List Frame} {meth : Method} {c : Code} {cells slots : Nat} {Q : State → Prop} {ρ : bsR} {cA : Nat → ClassId} {dC : Nat → ClassId} {dI : Nat → Nat → Nat} {A : Nat → Prop} {nL pc : Nat} {lv : List (Nat × Value)} {st : List Value} {X : bsX} {B F W : va_W} (P T2 S : va_W) (h : W = P ++ (T2 ++ S)) (kk : xVY p l e R s m args below meth c cells slots Q ρ cA dC dI A ((B ++ (F ++ (P ++ S))) ++ T2) nL pc lv st X) : xVY p l e R s m args below meth c cells slots Q ρ cA dC dI A (B ++ (F ++ W)) nL pc lv st X := by
  subst h
  exact x_permY (xq_perm B F P T2 S) kk
theorem x_inY {p : Program} {l : Launch} {e : Env} {R : Room} {s : State} {m : MethodId} {args : Array Value} {below : List Frame} {meth : Method} {c : Code} {cells slots : Nat} {Q : State → Prop} {ρ : bsR} {cA : Nat → ClassId} {dC : Nat → ClassId} {dI : Nat → Nat → Nat} {A : Nat → Prop} {nL pc : Nat} {lv : List (Nat × Value)} {st : List Value} {X : bsX} {B F W : va_W} (P T2 S : va_W) (h : P ++ (T2 ++ S) = W) (kk : xVY p l e R s m args below meth c cells slots Q ρ cA dC dI A (B ++ (F ++ W)) nL pc lv st X) : xVY p l e R s m args below meth c cells slots Q ρ cA dC dI A ((B ++ (F ++ (P ++ S))) ++ T2) nL pc lv st X := by
  subst h
  exact x_permY (xq_perm B F P T2 S).symm kk
