/-! THE LAW: from the entry to its loop -/
def bsUl (p : Program) (m : MethodId) (c : Code) (cc : ByteArray) (nL : Nat) (s : State) (args : Array Value) (Ts : List Cond) (own : String) (cA : Nat → ClassId) (dC : Nat → ClassId) (dI : Nat → Nat → Nat) (A : Nat → Prop) (meth : Method) : Prop := CallFix p m c cc nL s args Ts own ∧ va_K (dC, dI) vwCl (bsTys cA) s ∧ (∀ w ∈ bsG, w ∈ Ts) ∧ bsNc s ∧ meth.locks = false ∧ True ∧ True ∧ (∀ q, s.heap.size ≤ q → A q)
section BSUL
variable {p : Program} {l : Launch} {e : Env} {R : Room} {s : State} {m : MethodId} {args : Array Value} {below : List Frame} {meth : Method} {c : Code} {cells slots : Nat} {Q : State → Prop} {cA : Nat → ClassId} {dC : Nat → ClassId} {dI : Nat → Nat → Nat} {A : Nat → Prop} {nL : Nat} {cc : ByteArray} {Ts : List Cond} {own : String} {pc : Nat} {lv : List (Nat × Value)} {st : List Value} {ws ws' : va_W}
theorem l_iconst (C : bsUl p m c cc nL s args Ts own cA dC dI A meth) {n : Int} {v : Int32} (hd : decode cc pc = .ok (.iconst n, 1)) (hv : Int32.ofInt n = v) (k : bsU p l e R s m args below meth c cells slots Q dC dI A nL (pc + 1) lv (.int v :: st) ws) : bsU p l e R s m args below meth c cells slots Q dC dI A nL pc lv st ws := fun ls H locs hl hP hD hS => lv_iconst C.1.1 C.1.2.1 hd hv (k ls H locs hl hP hD hS)
theorem l_istore_n (C : bsUl p m c cc nL s args Ts own cA dC dI A meth) {k : Fin 4} {i : Nat} {x : Int32} {lv' : List (Nat × Value)} (hd : decode cc pc = .ok (.istore_n k, 1)) (hi : (k : Nat) = i) (hn : i < nL) (hx : (i, Value.int x) :: lv.filter (fun q => !(q.1 == i) && !(q.1 + 1 == i && q.2.category == 2)) = lv') (k : bsU p l e R s m args below meth c cells slots Q dC dI A nL (pc + 1) lv' st ws) : bsU p l e R s m args below meth c cells slots Q dC dI A nL pc lv (.int x :: st) ws := fun ls H locs hl hP hD hS => lv_istore_n C.1.1 C.1.2.1 hd hi hl hn hx (fun ls hl => k ls H locs hl hP hD hS)
theorem l_dup (C : bsUl p m c cc nL s args Ts own cA dC dI A meth) {v : Value} (hd : decode cc pc = .ok (.dup, 1)) (hv : v.category = 1) (k : bsU p l e R s m args below meth c cells slots Q dC dI A nL (pc + 1) lv (v :: v :: st) ws) : bsU p l e R s m args below meth c cells slots Q dC dI A nL pc lv (v :: st) ws := fun ls H locs hl hP hD hS => lv_dup C.1.1 C.1.2.1 hd hv (k ls H locs hl hP hD hS)
theorem l_new (C : bsUl p m c cc nL s args Ts own cA dC dI A meth) {ci index N : Nat} {Cn : String} {T : u_T} {fs : List Value} (hin : ∀ w ∈ u_ws Cn T N, w ∈ bsG) (ty0 : Nat → FieldType) (hty : ∀ k, k < N → parseFieldDescriptor (T k).2.2.1 = some (ty0 k)) (hcl : Cond.classLink own index Cn ∈ bsG) (hinst : Cond.instantiable Cn N ∈ bsG) (hini : Cond.initialized Cn ∈ bsG) (hci : vwCl[ci]? = some (Cn, T, N)) (hfs : ∀ j, j < N → defaultValue (ty0 j) = vp_V fs j) (hR : cells + 1 ≤ R.cells ∧ slots + N ≤ R.slots) (hd : decode cc pc = .ok (.new index, 3)) (kk : ∀ q : Nat, bsU p l e R s m args below meth c (cells + 1) (slots + N) Q dC dI A nL (pc + 3) lv (.ref q :: st) (ws ++ [(q, .inr (ci, fs))])) : bsU p l e R s m args below meth c cells slots Q dC dI A nL pc lv st ws := by
  intro ls H locs hl hP hD hS
  have W9 := fun w (h : w ∈ bsG) => C.1.2.2.2.2 w (C.2.2.1 w h)
  exact va_new C.1.1 C.1.2.1 C.1.2.2.2.2 (fun w h => C.2.2.1 w (hin w h)) ty0 hty C.1.2.2.2.1 (W9 _ hcl) (W9 _ hinst) (W9 _ hini) C.2.1 hP hD hS C.2.2.2.2.2.2.2 hci hfs hR.1 hR.2 hd (fun q H hP hD hS => kk q ls H locs hl hP hD hS)
theorem l_ctor (C : bsUl p m c cc nL s args Ts own cA dC dI A meth) {y : MethodName} {b : ByteArray} {nL' index a : Nat} {rm' : Room} {As rest : List Value} {f : va_E} {P : va_W → Prop} (hM : bsK l y b nL' rm' cA dC dI (.ref a :: As) [(a, f)] P)
    (hl0 : Cond.methodLink own index y ∈ bsG) (hw : Cond.instanceMethod y ∈ bsG ∧ Cond.initialized y.cls ∈ bsG ∧ Cond.code y b nL' none ∈ bsG ∧ y.name = "<init>" ∧ (y.cls ≠ "java/lang/invoke/MethodHandle" ∧ y.cls ≠ "java/lang/invoke/VarHandle")) (hde : (parseMethodDescriptor y.desc).map (fun d => d.parameters.length) = some As.length)
    (hR : rm'.frames + 1 ≤ R.frames ∧ 8 + (nL' + 11) + rm'.locals ≤ R.locals) (hcs : cells + rm'.cells ≤ R.cells ∧ slots + rm'.slots ≤ R.slots) (hst : st = As.reverse ++ .ref a :: rest) (hW : (rest.map fun v => v.category).sum ≤ 8) (hd : decode cc pc = .ok (.invokespecial index, 3))
    (kk : ∀ u : va_W, P u → bsU p l e R s m args below meth c (cells + rm'.cells) (slots + rm'.slots) Q dC dI A nL (pc + 3) lv rest (ws ++ u)) : bsU p l e R s m args below meth c cells slots Q dC dI A nL pc lv st (ws ++ [(a, f)]) := by
  intro ls H locs hl hP hD hS
  have W9 := fun w (h : w ∈ bsG) => C.1.2.2.2.2 w (C.2.2.1 w h)
  have hAH : ∀ q : Nat, H.size ≤ q → A q := fun q h => C.2.2.2.2.2.2.2 q (Nat.le_trans hS.1 h)
  have hl1 : (ws ++ [(a, f)])[ws.length]? = some (a, f) := by simp
  have hPc : va_P (dC, dI) vwCl [(a, f)] H := fun k q hk => by
    have hz : k < 1 := (List.getElem?_eq_some_iff.mp hk).1
    rw [show k = 0 by omega] at hk
    cases hk
    exact hP _ _ hl1
  have hDc : va_D (fun _ => True) [(a, f)] := ⟨fun i j p q hi hj _ => by
    have h1 : i < 1 := (List.getElem?_eq_some_iff.mp hi).1
    have h2 : j < 1 := (List.getElem?_eq_some_iff.mp hj).1
    omega, fun _ _ _ => trivial⟩
  have hFc : ∀ q, va_A [(a, f)] H.size q → A q := by
    intro q h
    rcases h with ⟨k2, e2, h⟩ | h
    · have h3 := List.mem_of_getElem? h
      rw [List.mem_singleton] at h3
      rw [show q = a from congrArg Prod.fst h3]
      exact hD.2 _ _ hl1
    · exact hAH q h
  refine va_callv (va_runI (As := As) (rest := rest) C.1 (hM H.size) (cwI As.length C.1.2.2.2.2 (bs_goodC C.2.2.1 hw.2.2.1) rfl rfl rfl (W9 _ hw.2.1) (W9 _ hl0) (W9 _ hw.1) hw.2.2.2.1 ⟨hw.2.2.2.2.1, hw.2.2.2.2.2, hde⟩ hR) ⟨bsU_blind, fun U hU hW => ⟨rfl, by rw [hU], by rw [hU]; exact hPc, va_K.moved hW.alike C.2.1, hDc, bsNc.warm hW C.2.2.2.1⟩⟩ rfl rfl hl.1 hst (lv_room hW) hd hcs) hS (fun q _ h => hFc q h) hFc (fun u t H1 locs1 ht hvm hr hB hz1 hk1 hS1 => ?_)
  obtain ⟨hP1, -, hD1⟩ := hB
  rw [ht] at hP1
  obtain ⟨hP2, hD2⟩ := bs_apart hP hD hAH hk1 hP1 hD1
  exact kk u hr ls H1 locs1 hl hP2 hD2 hS1
theorem l_astore_n (C : bsUl p m c cc nL s args Ts own cA dC dI A meth) {k : Fin 4} {i : Nat} {x : Nat} {lv' : List (Nat × Value)} (hd : decode cc pc = .ok (.astore_n k, 1)) (hi : (k : Nat) = i) (hn : i < nL) (hx : (i, Value.ref x) :: lv.filter (fun q => !(q.1 == i) && !(q.1 + 1 == i && q.2.category == 2)) = lv') (k : bsU p l e R s m args below meth c cells slots Q dC dI A nL (pc + 1) lv' st ws) : bsU p l e R s m args below meth c cells slots Q dC dI A nL pc lv (.ref x :: st) ws := fun ls H locs hl hP hD hS => lv_astore_n C.1.1 C.1.2.1 hd hi hl hn hx (fun ls hl => k ls H locs hl hP hD hS)
theorem l_astore (C : bsUl p m c cc nL s args Ts own cA dC dI A meth) {i : Nat} {x : Nat} {lv' : List (Nat × Value)} (hd : decode cc pc = .ok (.astore i, 2)) (hn : i < nL) (hx : (i, Value.ref x) :: lv.filter (fun q => !(q.1 == i) && !(q.1 + 1 == i && q.2.category == 2)) = lv') (k : bsU p l e R s m args below meth c cells slots Q dC dI A nL (pc + 2) lv' st ws) : bsU p l e R s m args below meth c cells slots Q dC dI A nL pc lv (.ref x :: st) ws := fun ls H locs hl hP hD hS => lv_astore C.1.1 C.1.2.1 hd hl hn hx (fun ls hl => k ls H locs hl hP hD hS)
theorem l_istore (C : bsUl p m c cc nL s args Ts own cA dC dI A meth) {i : Nat} {x : Int32} {lv' : List (Nat × Value)} (hd : decode cc pc = .ok (.istore i, 2)) (hn : i < nL) (hx : (i, Value.int x) :: lv.filter (fun q => !(q.1 == i) && !(q.1 + 1 == i && q.2.category == 2)) = lv') (k : bsU p l e R s m args below meth c cells slots Q dC dI A nL (pc + 2) lv' st ws) : bsU p l e R s m args below meth c cells slots Q dC dI A nL pc lv (.int x :: st) ws := fun ls H locs hl hP hD hS => lv_istore C.1.1 C.1.2.1 hd hl hn hx (fun ls hl => k ls H locs hl hP hD hS)
theorem l_newL (C : bsUl p m c cc nL s args Ts own cA dC dI A meth) {atype : ArrayType} {ty : FieldType} {n : Int32} {N t0 : Nat} {a0 : vp_A} (harr : Cond.arrayClass (newarray.typeOf atype) ∈ bsG) (hty : newarray.typeOf atype = ty) (ht : (bsTys cA)[t0]? = some (cA t0, ty)) (ha : ∀ c0 : ClassId, vp_cell c0 a0 = arrV c0 N (fun _ => defaultValue ty)) (hn : ¬ n < 0) (hN : n.toNatClampNeg = N) (hby : N * componentBytes ty ≤ 536870912) (hR : cells + 1 ≤ R.cells ∧ slots + N ≤ R.slots) (hd : decode cc pc = .ok (.newarray atype, 2)) (kk : ∀ q : Nat, bsU p l e R s m args below meth c (cells + 1) (slots + N) Q dC dI A nL (pc + 2) lv (.ref q :: st) (ws ++ [(q, .inl (cA t0, a0))])) : bsU p l e R s m args below meth c cells slots Q dC dI A nL pc lv (.int n :: st) ws := by
  intro ls H locs hl hP hD hS
  have W9 := fun w (h : w ∈ bsG) => C.1.2.2.2.2 w (C.2.2.1 w h)
  refine va_newa C.1.1 C.1.2.1 (atype := atype) (W9 _ harr) hty C.2.1 hP hD hS C.2.2.2.2.2.2.2 ha hn hN hby hR.1 hR.2 hd (fun q c1 H hK hP hD hS => ?_)
  have e1 : (bsTys cA ++ [(c1, ty)])[7]? = some (c1, ty) := rfl
  have e2 : c1 = cA t0 := bsRA_eq (hK.2 7 _ e1).2 (C.2.1.2 t0 _ ht).2
  subst e2
  exact kk q ls H locs hl hP hD hS
end BSUL
theorem l_aL (c0 : ClassId) : vp_cell c0 (1, .inr (.inl (bsO (0 : Int64)))) = arrV c0 1 (fun _ => defaultValue .long) := by
  have h : (fun j => Value.long (bsO (0 : Int64) j)) = fun _ => Value.long 0 := by funext j; unfold bsO; split <;> rfl
  show arrV c0 1 (fun j => Value.long (bsO (0 : Int64) j)) = _
  rw [h]
  rfl
theorem l_aD (c0 : ClassId) : vp_cell c0 (1, .inr (.inr (.inr (.inl (bsO (0 : UInt64)))))) = arrV c0 1 (fun _ => defaultValue .double) := by
  have h : (fun j => Value.double (bsO (0 : UInt64) j)) = fun _ => Value.double 0 := by funext j; unfold bsO; split <;> rfl
  show arrV c0 1 (fun j => Value.double (bsO (0 : UInt64) j)) = _
  rw [h]
  rfl
def b8g (cA : Nat → ClassId) (ρ : bsR) (g1 g2 : Nat → Option Nat) : va_W := [(ρ 13 0 0, bsCell ρ cA 13 0 0 (iX 13 0 0)), (ρ 13 1 0, bsCell ρ cA 13 1 0 (iX 13 1 0)), (ρ 13 6 0, bsCell ρ cA 13 6 0 (iX 13 6 0)), (ρ 13 7 0, bsCell ρ cA 13 7 0 (iX 13 7 0)), (ρ 13 3 0, .inl (cA 4, 8, .inr (.inr (.inr (.inr g1))))), (ρ 13 4 0, .inl (cA 4, 2, .inr (.inr (.inr (.inr g2))))), (ρ 13 5 0, bsCell ρ cA 13 5 0 (iX 13 5 0)), (ρ 13 2 0, bsCell ρ cA 13 2 0 (iX 13 2 0)), (ρ 13 8 0, bsCell ρ cA 13 8 0 (iX 13 8 0))] ++ ((((((((((((mB cA (ρ 12) ++ mB cA (ρ 0)) ++ mB cA (ρ 1)) ++ mB cA (ρ 2)) ++ mB cA (ρ 3)) ++ mB cA (ρ 4)) ++ mB cA (ρ 5)) ++ mB cA (ρ 6)) ++ mB cA (ρ 7)) ++ mB cA (ρ 8)) ++ mB cA (ρ 9)) ++ mB cA (ρ 10)) ++ mB cA (ρ 11))
/-- the addresses, all together -/
def rAll (ρ : bsR) (τ : Nat → Nat) (a b : Nat) (adK adV : Nat → Nat) : bsR := fun m => if m < 14 then ρ m else if m = 14 then (fun K _ => τ K) else if m = 15 then (fun K _ => if K = 0 then a else b) else (fun K => if K = 0 then adK else adV)
theorem b8_g {cA : Nat → ClassId} {ρ : bsR} : b8 cA ρ = b8g cA ρ (fun i => some (ρ (2 + i) 0 0)) (fun i => some (ρ (10 + i) 0 0)) := rfl
theorem b8_all {cA : Nat → ClassId} {ρ : bsR} {τ : Nat → Nat} {a b : Nat} {adK adV : Nat → Nat} : b8g cA ρ (fun i => some (rAll ρ τ a b adK adV (2 + i) 0 0)) (fun i => some (rAll ρ τ a b adK adV (10 + i) 0 0)) = b8 cA (rAll ρ τ a b adK adV) := rfl
theorem l_ad {ρ : bsR} {cA : Nat → ClassId} {lo : Int64} {od : UInt64} {sz : Nat} (hD : ∀ (k : Nat) (q : Nat × va_E), (bsWs ρ cA iX (bsRz ρ cA 0 0))[k]? = some q → sz ≤ q.1) : bsA ρ cA (bsRz ρ cA lo od) sz = fun q => sz ≤ q := by
  have h0 : (bsWs ρ cA (fun _ _ _ _ => 0) (bsRz ρ cA lo od)).map Prod.fst = (bsWs ρ cA iX (bsRz ρ cA 0 0)).map Prod.fst := by
    simp only [bsWs, List.map_append, List.map_map]
    rfl
  funext q
  refine propext ⟨fun z => ?_, fun z => Or.inr z⟩
  rcases z with ⟨k, e, z⟩ | z
  · obtain ⟨e2, z2⟩ := bs_ad_at h0 z
    exact hD k _ z2
  · exact z
set_option maxHeartbeats 8000000 in
set_option maxRecDepth 100000 in
/-- YOUR PART: from the entry, for every script of at most 3072 ints, the law comes to its end with true -/
theorem whole_start {p : Program} {e : Env} {s : State} {m : MethodId} {below : List Frame} {meth : Method} {c : Code} (l : Launch) (hflags : l.flags = flags0) {b L : Nat} {xs : Nat → Int32} (hL : L ≤ 3072) (C0 : lw_At p s m meth c b L xs) : W p l e room_1 s m #[Value.ref b] below meth c s.heap [] 0 0 (lw_Z below #[Value.ref b] s) (entryFrame m ([Value.ref b] : List Value).toArray 9) := by
  obtain ⟨hx, hb, hr, hml, hown, hts, hX, hbl, hlocks, hgv⟩ := id C0
  have hf : ∀ w ∈ narW, w.before #[Value.ref b] s = true := flat_of_before _ hgv
  have hA : ∀ a : Nat, a < s.heap.size → ¬ (fun q : Nat => s.heap.size ≤ q) a := fun a h => Nat.not_le.mpr h
  obtain ⟨cA, dC, dI, hK⟩ := st_K hts
  obtain ⟨hNw, hNc⟩ := st_nw hts
  obtain ⟨adK, adV, hEx⟩ := st_ex hts hf hA
  have hst : l.stackTraces = false := by
    unfold Launch.stackTraces
    rw [hflags]
    decide +kernel
  have hG : ∀ w ∈ bsG, w ∈ lw_tbl := fun w h => (List.mem_filter.mp h).1
  have C : bsUl p m c cL_law 9 s #[Value.ref b] lw_tbl RL cA dC dI (fun q : Nat => s.heap.size ≤ q) meth := ⟨⟨hx, hb, hml, hown, hts⟩, hK, hG, hNc, hlocks, trivial, trivial, fun q h => h⟩
  have J : bsU p l e room_1 s m #[Value.ref b] below meth c 0 0 (lw_Z below #[Value.ref b] s) dC dI (fun q : Nat => s.heap.size ≤ q) 9 0 [(0, .ref b)] [] [] := by
    refine l_new (ci := 8) (fs := [.null, .null, .null, .null, .null, .null, .null, .int 0, .int 0, .int 0]) C bsin_X8 tyX8 tyX8_ok (bsG_in 123 (by decide +kernel) rfl) (bsG_in 124 (by decide +kernel) rfl) (bsG_in 102 (by decide +kernel) rfl) rfl (fun j hj => by match j, hj with | 0, _ => rfl | 1, _ => rfl | 2, _ => rfl | 3, _ => rfl | 4, _ => rfl | 5, _ => rfl | 6, _ => rfl | 7, _ => rfl | 8, _ => rfl | 9, _ => rfl | k + 10, h => exact absurd h (by omega)) ⟨Nat.le_of_ble_eq_true rfl, Nat.le_of_ble_eq_true rfl⟩ dL_law_0 (fun q1 => ?_)
    refine l_dup C dL_law_3 rfl ?_
    refine l_ctor (y := yX8_init) (As := []) (rest := [.ref q1]) C (kX8_ok q1) (bsG_in 125 (by decide +kernel) rfl) kwX8 kdX8 ⟨Nat.le_of_ble_eq_true rfl, Nat.le_of_ble_eq_true rfl⟩ ⟨Nat.le_of_ble_eq_true rfl, Nat.le_of_ble_eq_true rfl⟩ rfl (Nat.le_of_ble_eq_true rfl) dL_law_4 (fun u hu => ?_)
    obtain ⟨ρ, hq1, rfl⟩ := hu
    subst hq1
    refine l_astore_n (lv' := [(1, .ref (ρ 13 0 0)), (0, .ref b)]) C dL_law_7 rfl (by decide) rfl ?_
    refine l_new (ci := 9) (fs := [.int 0, .int 0, .null, .null, .int 0, .null, .null, .int 0, .int 0, .int 0, .int 0, .int 0, .int 0, .int 0, .int 0, .int 0, .int 0, .null, .int 0, .null, .int 0]) C bsin_X9 tyX9 tyX9_ok (bsG_in 1425 (by decide +kernel) rfl) (bsG_in 1426 (by decide +kernel) rfl) (bsG_in 111 (by decide +kernel) rfl) rfl (fun j hj => by match j, hj with | 0, _ => rfl | 1, _ => rfl | 2, _ => rfl | 3, _ => rfl | 4, _ => rfl | 5, _ => rfl | 6, _ => rfl | 7, _ => rfl | 8, _ => rfl | 9, _ => rfl | 10, _ => rfl | 11, _ => rfl | 12, _ => rfl | 13, _ => rfl | 14, _ => rfl | 15, _ => rfl | 16, _ => rfl | 17, _ => rfl | 18, _ => rfl | 19, _ => rfl | 20, _ => rfl | k + 21, h => exact absurd h (by omega)) ⟨Nat.le_of_ble_eq_true rfl, Nat.le_of_ble_eq_true rfl⟩ dL_law_8 (fun q2 => ?_)
    refine l_dup C dL_law_11 rfl ?_
    refine l_ctor (y := yX9_init) (As := []) (rest := [.ref q2]) C (kX9_ok q2) (bsG_in 1427 (by decide +kernel) rfl) kwX9 kdX9 ⟨Nat.le_of_ble_eq_true rfl, Nat.le_of_ble_eq_true rfl⟩ ⟨Nat.le_of_ble_eq_true rfl, Nat.le_of_ble_eq_true rfl⟩ rfl (Nat.le_of_ble_eq_true rfl) dL_law_12 (fun u hu => ?_)
    obtain ⟨r1, r2, r3, r4, r5, r6, rfl⟩ := hu
    refine l_astore_n (lv' := [(2, .ref q2), (1, .ref (ρ 13 0 0)), (0, .ref b)]) C dL_law_15 rfl (by decide) rfl ?_
    refine l_iconst (v := 1) C dL_law_16 (by decide) ?_
    refine l_newL (t0 := 5) (ty := .long) (N := 1) (a0 := (1, .inr (.inl (bsO (0 : Int64))))) C (bsG_in 2050 (by decide +kernel) rfl) rfl rfl l_aL (by decide) (by decide) (Nat.le_of_ble_eq_true rfl) ⟨Nat.le_of_ble_eq_true rfl, Nat.le_of_ble_eq_true rfl⟩ dL_law_17 (fun q3 => ?_)
    refine l_astore_n (lv' := [(3, .ref q3), (2, .ref q2), (1, .ref (ρ 13 0 0)), (0, .ref b)]) C dL_law_19 rfl (by decide) rfl ?_
    refine l_iconst (v := 1) C dL_law_20 (by decide) ?_
    refine l_newL (t0 := 6) (ty := .double) (N := 1) (a0 := (1, .inr (.inr (.inr (.inl (bsO (0 : UInt64))))))) C (bsG_in 2051 (by decide +kernel) rfl) rfl rfl l_aD (by decide) (by decide) (Nat.le_of_ble_eq_true rfl) ⟨Nat.le_of_ble_eq_true rfl, Nat.le_of_ble_eq_true rfl⟩ dL_law_21 (fun q4 => ?_)
    refine l_astore (lv' := [(4, .ref q4), (3, .ref q3), (2, .ref q2), (1, .ref (ρ 13 0 0)), (0, .ref b)]) C dL_law_23 (by decide) rfl ?_
    refine l_iconst (v := 0) C dL_law_25 (by decide) ?_
    refine l_istore (lv' := [(5, .int 0), (4, .ref q4), (3, .ref q3), (2, .ref q2), (1, .ref (ρ 13 0 0)), (0, .ref b)]) C dL_law_26 (by decide) rfl ?_
    refine u_sub [5, 4, 3, 2, 1, 0] rfl ?_
    generalize hτ : (fun K : Nat => match K with | 0 => q2 | 1 => r1 | 2 => r2 | 3 => r3 | 4 => r4 | 5 => r5 | _ => r6) = τ
    have t0 : q2 = τ 0 := congrFun hτ 0
    have t1 : r1 = τ 1 := congrFun hτ 1
    have t2 : r2 = τ 2 := congrFun hτ 2
    have t3 : r3 = τ 3 := congrFun hτ 3
    have t4 : r4 = τ 4 := congrFun hτ 4
    have t5 : r5 = τ 5 := congrFun hτ 5
    have t6 : r6 = τ 6 := congrFun hτ 6
    clear hτ
    subst t0 t1 t2 t3 t4 t5 t6
    rw [List.nil_append, List.append_assoc, List.append_assoc, b8_g]
    refine u_arr (q0 := 4) (g := fun i => some (rAll ρ τ q3 q4 adK adV (2 + i) 0 0)) (ws' := b8g cA ρ (fun i => some (rAll ρ τ q3 q4 adK adV (2 + i) 0 0)) (fun i => some (ρ (10 + i) 0 0)) ++ _) rfl (fun i hi => by match i, hi with | 0, _ => rfl | 1, _ => rfl | 2, _ => rfl | 3, _ => rfl | 4, _ => rfl | 5, _ => rfl | 6, _ => rfl | 7, _ => rfl | k + 8, h => exact absurd h (by omega)) rfl ?_
    refine u_arr (q0 := 5) (g := fun i => some (rAll ρ τ q3 q4 adK adV (10 + i) 0 0)) (ws' := b8g cA ρ (fun i => some (rAll ρ τ q3 q4 adK adV (2 + i) 0 0)) (fun i => some (rAll ρ τ q3 q4 adK adV (10 + i) 0 0)) ++ _) rfl (fun i hi => by match i, hi with | 0, _ => rfl | 1, _ => rfl | k + 2, h => exact absurd h (by omega)) rfl ?_
    rw [b8_all]
    refine u_eq (ws' := (b8 cA (rAll ρ τ q3 q4 adK adV) ++ k14.map (cellF (rAll ρ τ q3 q4 adK adV) cA)) ++ bsRz (rAll ρ τ q3 q4 adK adV) cA 0 0) (by rw [List.append_assoc]; rfl) ?_
    refine u_perm world_perm ?_
    intro ls H locs hl hP hD hS
    have hA9 : ∀ (lo : Int64) (od : UInt64), bsA (rAll ρ τ q3 q4 adK adV) cA (bsRz (rAll ρ τ q3 q4 adK adV) cA lo od) s.heap.size = fun q => s.heap.size ≤ q := fun lo od => l_ad (fun k q h => hD.2 k q h)
    have LC : lawC p l s m meth c (rAll ρ τ q3 q4 adK adV) cA dC dI b L xs := ⟨fun lo od => ⟨⟨hx, hb, hml, hown, hts⟩, hK, hG, ⟨hNw, by rw [hA9]; exact hEx _ rfl rfl⟩, hlocks, hr⟩, hX, hbl, fun lo od => by rw [hA9]; exact Nat.not_le.mpr hbl, hL, hst, fun lo od q h => by rw [hA9] at h; exact h⟩
    have hD9 : va_D (bsA (rAll ρ τ q3 q4 adK adV) cA (bsRz (rAll ρ τ q3 q4 adK adV) cA 0 0) s.heap.size) (bsWs (rAll ρ τ q3 q4 adK adV) cA iX (bsRz (rAll ρ τ q3 q4 adK adV) cA 0 0)) := by rw [hA9]; exact hD
    have hS9 : va_S (bsA (rAll ρ τ q3 q4 adK adV) cA (bsRz (rAll ρ τ q3 q4 adK adV) cA 0 0) s.heap.size) s.heap H locs := by rw [hA9]; exact hS
    exact law_loop LC (L / 6) 0 _ _ iX 0 0 (by omega) (by omega) (by show 0 + 1 + 294 + 1 + 6 + 1 + 1 + 9 * (L / 6) ≤ 601024; omega) (by show 0 + 10 + 3557 + 21 + 3082 + 1 + 1 + 54 * (L / 6) ≤ 7293033; omega) inv0 ls H locs hl hP hD9 hS9
  have hl := lv_entry ([Value.ref b]) (n := 9) (Nat.le_of_ble_eq_true rfl)
  rw [lg_entry_eq]
  exact J _ _ _ hl (fun k q h => by simp at h) ⟨fun i j p q h => by simp at h, fun k q h => by simp at h⟩ va_S.rf
