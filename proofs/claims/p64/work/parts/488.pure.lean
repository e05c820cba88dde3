/-! THE LAW: from the entry to its loop -/
def bsUl (p : Program) (m : MethodId) (c : Code) (cc : ByteArray) (nL : Nat) (s : State) (args : Array Value) (Ts : List Cond) (own : String) (cA : Nat → ClassId) (dC : Nat → ClassId) (dI : Nat → Nat → Nat) (A : Nat → Prop) (meth : Method) : Prop := CallFix p m c cc nL s args Ts own ∧ va_K (dC, dI) vwCl (bsTys cA) s ∧ (∀ w ∈ bsG, w ∈ Ts) ∧ bsNc s ∧ meth.locks = false ∧ True ∧ True ∧ (∀ q, s.heap.size ≤ q → A q)
section BSUL
variable {p : Program} {l : Launch} {e : Env} {R : Room} {s : State} {m : MethodId} {args : Array Value} {below : List Frame} {meth : Method} {c : Code} {cells slots : Nat} {Q : State → Prop} {cA : Nat → ClassId} {dC : Nat → ClassId} {dI : Nat → Nat → Nat} {A : Nat → Prop} {nL : Nat} {cc : ByteArray} {Ts : List Cond} {own : String} {pc : Nat} {lv : List (Nat × Value)} {st : List Value} {ws ws' : va_W}
theorem l_iconst (C : bsUl p m c cc nL s args Ts own cA dC dI A meth) {n : Int} {v : Int32} (hd : decode cc pc = .ok (.iconst n, 1)) (hv : Int32.ofInt n = v) (k : bsU p l e R s m args below meth c cells slots Q dC dI A nL (pc + 1) lv (.int v :: st) ws) : bsU p l e R s m args below meth c cells slots Q dC dI A nL pc lv st ws := fun ls H locs hl hP hD hS => lv_iconst C.1.1 C.1.2.1 hd hv (k ls H locs hl hP hD hS)
theorem l_istore_n (C : bsUl p m c cc nL s args Ts own cA dC dI A meth) {k : Fin 4} {i : Nat} {x : Int32} {lv' : List (Nat × Value)} (hd : decode cc pc = .ok (.istore_n k, 1)) (hi : (k : Nat) = i) (hn : i < nL) (hx : (i, Value.int x) :: lv.filter (fun q => !(q.1 == i) && !(q.1 + 1 == i && q.2.category == 2)) = lv') (k : bsU p l e R s m args below meth c cells slots Q dC dI A nL (pc + 1) lv' st ws) : bsU p l e R s m args below meth c cells slots Q dC dI A nL pc lv (.int x :: st) ws := fun ls H locs hl hP hD hS => lv_istore_n C.1.1 C.1.2.1 hd hi hl hn hx (fun ls hl => k ls H locs hl hP hD hS)
theorem l_dup (C : bsUl p m c cc nL s args Ts own cA dC dI A meth) {v : Value} (hd : decode cc pc = .ok (.dup, 1)) (hv : v.category = 1) (k : bsU p l e R s m args below meth c cells slots Q dC dI A nL (pc + 1) lv (v :: v :: st) ws) : bsU p l e R s m args below meth c cells slots Q dC dI A nL pc lv (v :: st) ws := fun ls H locs hl hP hD hS => lv_dup C.1.1 C.1.2.1 hd hv (k ls H locs hl hP hD hS)
theorem l_new (C : bsUl p m c cc nL s args Ts own cA dC dI A meth) {ci index N : Nat} {Cn : String} {T : u_T} {fs : List Value} (hin : ∀ w ∈ u_ws Cn T N, w ∈ bsG) (ty0 : Nat → FieldType) (hty : ∀ k, k < N → parseFieldDescriptor (T k).2.2.1 = some (ty0 k)) (hcl : Cond.classLink own index Cn ∈ bsG) (hinst : Cond.instantiable Cn N ∈ bsG) (hini : Cond.initialized Cn ∈ bsG) (hci : vwCl[ci]? = some (Cn, T, N)) (hfs : ∀ j, j < N → defaultValue (ty0 j) = vp_V fs j) (hR : cells + 1 ≤ R.cells ∧ slots + N ≤ R.slots) (hd : decode cc pc = .ok (.new index, 3)) (kk : ∀ q : Nat, bsU p l e R s m args below meth c (cells + 1) (slots + N) Q dC dI A nL (pc + 3) lv (.ref q :: st) (ws ++ [(q, .inr (ci, fs))])) : bsU p l e R s m args below meth c cells slots Q dC dI A nL pc lv st ws := by
  intro ls H locs hl hP hD hS
  have W9 := fun w (h : w ∈ bsG) => C.1.2.2.2.2 w (C.2.2.1 w h)
  exact va_new C.1.1 C.1.2.1 C.1.2.2.2.2 (fun w h => C.2.2.1 w (hin w h)) ty0 hty C.1.2.2.2.1 (W9 _ hcl) (W9 _ hinst) (W9 _ hini) C.2.1 hP hD hS C.2.2.2.2.2.2.2 hci hfs hR.1 hR.2 hd (fun q H hP hD hS => kk q ls H locs hl hP hD hS)
theorem l_ctor (C : bsUl p m c cc nL s args Ts own cA dC dI A meth) {y : MethodName} {b : ByteArray} {nL' index a : Nat} {rm' : Room} {As rest : List Value} {f : va_E} {P : va_W → Prop} (hM : bsK l y b nL' rm' cA dC dI (.ref a :: As) [(a, f)] P)
    (hl0 : Cond.methodLink own index y ∈ bsG) (hw : Cond.instanceMethod y ∈ bsG ∧ Cond.initialized y.cls ∈ bsG ∧ Cond.code y b nL' none ∈ bsG ∧ y.name = "<init>" ∧ (y.cls ≠ "java/lang/invoke/MethodHandle" ∧ y.cls ≠ "java/lang/invoke/VarHandle")) (hde : (parseMethodDescriptor y.desc).map (fun d => d.parameters.length) = some As.length)
    (hR : rm'.frames + 1 ≤ R.frames ∧ 8 + (nL' + 11) + rm'.locals ≤ R.locals) (hcs : cells + rm'.cells ≤ R.cells ∧ slots + rm'.slots ≤ R.slots) (hst : st = As.reverse ++ .ref a :: rest) (hW : (rest.map fun v => v.category).sum ≤ 8) (hd : decode cc pc = .ok (.invokespecial index, 3))
    (kk : ∀ u : va_W, P u → bsU p l e R s m args below meth c (cells + rm'.cells) (slots + rm'.slots) Q dC dI A nL (pc + 3) lv rest (ws ++ u)) : bsU p l e R s m args below meth c cells slots Q dC dI A nL pc lv st (ws ++ [(a, f)]) := by
  intro ls H locs hl hP hD hS
  have W9 := fun w (h : w ∈ bsG) => C.1.2.2.2.2 w (C.2.2.1 w h)
  have hAH : ∀ q : Nat, H.size ≤ q → A q := fun q h => C.2.2.2.2.2.2.2 q (Nat.le_trans hS.1 h)
  have hl1 : (ws ++ [(a, f)])[ws.length]? = some (a, f) := by simp
  have hPc : va_P (dC, dI) vwCl [(a, f)] H := fun k q hk => by
    have hz : k < 1 := (List.getElem?_eq_some_iff.mp hk).1
    rw [show k = 0 by omega] at hk
    cases hk
    exact hP _ _ hl1
  have hDc : va_D (fun _ => True) [(a, f)] := ⟨fun i j p q hi hj _ => by
    have h1 : i < 1 := (List.getElem?_eq_some_iff.mp hi).1
    have h2 : j < 1 := (List.getElem?_eq_some_iff.mp hj).1
    omega, fun _ _ _ => trivial⟩
  have hFc : ∀ q, va_A [(a, f)] H.size q → A q := by
    intro q h
    rcases h with ⟨k2, e2, h⟩ | h
    · have h3 := List.mem_of_getElem? h
      rw [List.mem_singleton] at h3
      rw [show q = a from congrArg Prod.fst h3]
      exact hD.2 _ _ hl1
    · exact hAH q h
  refine va_callv (va_runI (As := As) (rest := rest) C.1 (hM H.size) (cwI As.length C.1.2.2.2.2 (bs_goodC C.2.2.1 hw.2.2.1) rfl rfl rfl (W9 _ hw.2.1) (W9 _ hl0) (W9 _ hw.1) hw.2.2.2.1 ⟨hw.2.2.2.2.1, hw.2.2.2.2.2, hde⟩ hR) ⟨bsU_blind, fun U hU hW => ⟨rfl, by rw [hU], by rw [hU]; exact hPc, va_K.moved hW.alike C.2.1, hDc, bsNc.warm hW C.2.2.2.1⟩⟩ rfl rfl hl.1 hst (lv_room hW) hd hcs) hS (fun q _ h => hFc q h) hFc (fun u t H1 locs1 ht hvm hr hB hz1 hk1 hS1 => ?_)
  obtain ⟨hP1, -, hD1⟩ := hB
  rw [ht] at hP1
  obtain ⟨hP2, hD2⟩ := bs_apart hP hD hAH hk1 hP1 hD1
  exact kk u hr ls H1 locs1 hl hP2 hD2 hS1
theorem l_astore_n (C : bsUl p m c cc nL s args Ts own cA dC dI A meth) {k : Fin 4} {i : Nat} {x : Nat} {lv' : List (Nat × Value)} (hd : decode cc pc = .ok (.astore_n k, 1)) (hi : (k : Nat) = i) (hn : i < nL) (hx : (i, Value.ref x) :: lv.filter (fun q => !(q.1 == i) && !(q.1 + 1 == i && q.2.category == 2)) = lv') (k : bsU p l e R s m args below meth c cells slots Q dC dI A nL (pc + 1) lv' st ws) : bsU p l e R s m args below meth c cells slots Q dC dI A nL pc lv (.ref x :: st) ws := fun ls H locs hl hP hD hS => lv_astore_n C.1.1 C.1.2.1 hd hi hl hn hx (fun ls hl => k ls H locs hl hP hD hS)
theorem l_astore (C : bsUl p m c cc nL s args Ts own cA dC dI A meth) {i : Nat} {x : Nat} {lv' : List (Nat × Value)} (hd : decode cc pc = .ok (.astore i, 2)) (hn : i < nL) (hx : (i, Value.ref x) :: lv.filter (fun q => !(q.1 == i) && !(q.1 + 1 == i && q.2.category == 2)) = lv') (k : bsU p l e R s m args below meth c cells slots Q dC dI A nL (pc + 2) lv' st ws) : bsU p l e R s m args below meth c cells slots Q dC dI A nL pc lv (.ref x :: st) ws := fun ls H locs hl hP hD hS => lv_astore C.1.1 C.1.2.1 hd hl hn hx (fun ls hl => k ls H locs hl hP hD hS)
theorem l_istore (C : bsUl p m c cc nL s args Ts own cA dC dI A meth) {i : Nat} {x : Int32} {lv' : List (Nat × Value)} (hd : decode cc pc = .ok (.istore i, 2)) (hn : i < nL) (hx : (i, Value.int x) :: lv.filter (fun q => !(q.1 == i) && !(q.1 + 1 == i && q.2.category == 2)) = lv') (k : bsU p l e R s m args below meth c cells slots Q dC dI A nL (pc + 2) lv' st ws) : bsU p l e R s m args below meth c cells slots Q dC dI A nL pc lv (.int x :: st) ws := fun ls H locs hl hP hD hS => lv_istore C.1.1 C.1.2.1 hd hl hn hx (fun ls hl => k ls H locs hl hP hD hS)
end BSUL
def b8g (cA : Nat → ClassId) (ρ : bsR) (g1 g2 : Nat → Option Nat) : va_W := [(ρ 13 0 0, bsCell ρ cA 13 0 0 (iX 13 0 0)), (ρ 13 1 0, bsCell ρ cA 13 1 0 (iX 13 1 0)), (ρ 13 6 0, bsCell ρ cA 13 6 0 (iX 13 6 0)), (ρ 13 7 0, bsCell ρ cA 13 7 0 (iX 13 7 0)), (ρ 13 3 0, .inl (cA 4, 8, .inr (.inr (.inr (.inr g1))))), (ρ 13 4 0, .inl (cA 4, 2, .inr (.inr (.inr (.inr g2))))), (ρ 13 5 0, bsCell ρ cA 13 5 0 (iX 13 5 0)), (ρ 13 2 0, bsCell ρ cA 13 2 0 (iX 13 2 0)), (ρ 13 8 0, bsCell ρ cA 13 8 0 (iX 13 8 0))] ++ ((((((((((((mB cA (ρ 12) ++ mB cA (ρ 0)) ++ mB cA (ρ 1)) ++ mB cA (ρ 2)) ++ mB cA (ρ 3)) ++ mB cA (ρ 4)) ++ mB cA (ρ 5)) ++ mB cA (ρ 6)) ++ mB cA (ρ 7)) ++ mB cA (ρ 8)) ++ mB cA (ρ 9)) ++ mB cA (ρ 10)) ++ mB cA (ρ 11))
/-- the addresses, all together -/
def rAll (ρ : bsR) (adK adV : Nat → Nat) (d1 d2 : Nat) : bsR := fun m => if m < 14 then ρ m else if m = 16 then (fun K => if K = 0 then adK else adV) else (fun K _ => if K = 0 then d1 else d2)
theorem b8_g {cA : Nat → ClassId} {ρ : bsR} : b8 cA ρ = b8g cA ρ (fun i => some (ρ (2 + i) 0 0)) (fun i => some (ρ (10 + i) 0 0)) := rfl
theorem b8_all {cA : Nat → ClassId} {ρ : bsR} {adK adV : Nat → Nat} {d1 d2 : Nat} : b8g cA ρ (fun i => some (rAll ρ adK adV d1 d2 (2 + i) 0 0)) (fun i => some (rAll ρ adK adV d1 d2 (10 + i) 0 0)) = b8 cA (rAll ρ adK adV d1 d2) := rfl
theorem wiX11_init : xWi yX11_init cX11_init 4 := ⟨(bsG_in 458 (by decide +kernel) rfl), (bsG_in 39 (by decide +kernel) rfl), (bsG_in 459 (by decide +kernel) rfl), ⟨by decide +kernel, by decide +kernel⟩, rfl⟩
theorem dpX11_init : (parseMethodDescriptor yX11_init.desc).map (fun d => d.parameters.length) = some 1 := by decide +kernel
theorem xs_arr {b L : Nat} {xs : Nat → Int32} {s : State} {A : Nat → Prop} (hX : va_X b L xs s s.heap) (hA : ¬ A b) : va_T .int b L (fun j => .int (xs j)) A s s.heap := by
  obtain ⟨scr, h1, h2, h3, h4, h5⟩ := hX
  exact ⟨scr, h1, h2, h3, by omega, by rw [h4], h5, hA⟩
set_option maxHeartbeats 8000000 in
set_option maxRecDepth 100000 in
theorem law_0 {p : Program} {e : Env} {s : State} {m : MethodId} {below : List Frame} {meth : Method} {c : Code} {l : Launch} (hst : l.stackTraces = false) {b L : Nat} {xs : Nat → Int32} (hL : L ≤ 260) (C0 : lw_At p s m meth c b L xs) {cA : Nat → ClassId} {dC : Nat → ClassId} {dI : Nat → Nat → Nat} (hK : va_K (dC, dI) vwCl (bsTys cA) s) (hR : xRow cA s) : bsU p l e room_1 s m #[Value.ref b] below meth c 0 0 (lw_Z below #[Value.ref b] s) dC dI (fun q : Nat => s.heap.size ≤ q) 6 0 [(0, .ref b)] [] [] := by
  obtain ⟨hx, hb, hr, hml, hown, hts, hX, hbl, hlocks, hgv⟩ := id C0
  have hf : ∀ w ∈ narW, w.before #[Value.ref b] s = true := flat_of_before _ hgv
  have hA : ∀ a : Nat, a < s.heap.size → ¬ (fun q : Nat => s.heap.size ≤ q) a := fun a h => Nat.not_le.mpr h
  obtain ⟨hNw, hNc⟩ := st_nw hts
  obtain ⟨adK, adV, hEx⟩ := st_ex hts hf hA
  obtain ⟨d1, d2, hXe⟩ := st_xe hts hf hA hR
  have hG : ∀ w ∈ bsG, w ∈ lw_tbl := fun w h => (List.mem_filter.mp h).1
  have hXA : va_T .int b L (fun j => .int (xs j)) (fun q : Nat => s.heap.size ≤ q) s s.heap := xs_arr hX (hA b hbl)
  have CC : ∀ ρ : bsR, ρ 16 0 = adK → ρ 16 1 = adV → ρ 17 0 0 = d1 → ρ 17 1 0 = d2 → xCx p m c cL_law 6 s #[Value.ref b] lw_tbl RL ρ b L xs cA dC dI (fun q : Nat => s.heap.size ≤ q) meth (some .boolean) := fun ρ r1 r2 r3 r4 => ⟨⟨hx, hb, hml, hown, hts⟩, hK, hG, ⟨hNw, hEx ρ r1 r2, hXe ρ b L xs r3 r4 hXA hL⟩, hlocks, hr, fun q h => h⟩
  have CU : bsUl p m c cL_law 6 s #[Value.ref b] lw_tbl RL cA dC dI (fun q : Nat => s.heap.size ≤ q) meth := ⟨⟨hx, hb, hml, hown, hts⟩, hK, hG, hNc, hlocks, trivial, trivial, fun q h => h⟩
  obtain ⟨w, lm, f, o, n, ⟨w1, w2, l1, l2, f2, o2, n1, n6⟩, ⟨ew, el, ef, eo, en, -⟩, t', nn', D', Z', Dd, hf2, ht, hN, hD2, hDd, hZ⟩ := wo_ok xs L iX
  have J : xVY p l e room_1 s m #[Value.ref b] below meth c 0 0 (lw_Z below #[Value.ref b] s) (rAll (fun _ _ _ => 0) adK adV d1 d2) cA dC dI (fun q : Nat => s.heap.size ≤ q) [] 6 0 [(0, .ref b)] [] iX := by
    have C := CC (rAll (fun _ _ _ => 0) adK adV d1 d2) rfl rfl rfl rfl
    refine x_newY (ci := 11) (Cn := RX9) (T := TX9) (N := 2) (fs := [.null, .int 0]) C bsin_X9 tyX9 tyX9_ok (bsG_in 437 (by decide +kernel) rfl) (bsG_in 438 (by decide +kernel) rfl) (bsG_in 38 (by decide +kernel) rfl) rfl (by decide) ⟨Nat.le_of_ble_eq_true rfl, Nat.le_of_ble_eq_true rfl⟩ dL_law_0 (fun δ => ?_)
    refine x_dupY C dL_law_3 rfl ?_
    refine x_aload_nY C dL_law_4 rfl rfl ?_
    refine x_callIY (y := yX9_init) (As := [.ref b]) (rest := [.ref δ]) C (cX9_init_ok (R0 := []) (d := δ)) (bsG_in 439 (by decide +kernel) rfl) wiX9_init dpX9_init ⟨Nat.le_of_ble_eq_true rfl, Nat.le_of_ble_eq_true rfl⟩ ⟨Nat.le_of_ble_eq_true rfl, Nat.le_of_ble_eq_true rfl⟩ rfl (Nat.le_of_ble_eq_true rfl) dL_law_5 (fun X1 R1 hp => ?_)
    obtain ⟨rfl, rfl⟩ := hp
    refine x_astore_nY (lv' := [(1, .ref δ), (0, .ref b)]) C dL_law_8 rfl (by decide) rfl ?_
    refine x_newY (ci := 13) (Cn := RX11) (T := TX11) (N := 15) (fs := [.null, .int 0, .int 0, .int 0, .int 0, .int 0, .int 0, .int 0, .int 0, .null, .null, .int 0, .int 0, .null, .null]) C bsin_X11 tyX11 tyX11_ok (bsG_in 455 (by decide +kernel) rfl) (bsG_in 456 (by decide +kernel) rfl) (bsG_in 39 (by decide +kernel) rfl) rfl (by decide) ⟨Nat.le_of_ble_eq_true rfl, Nat.le_of_ble_eq_true rfl⟩ dL_law_9 (fun wd => ?_)
    refine x_dupY C dL_law_12 rfl ?_
    refine x_aload_nY C dL_law_13 rfl rfl ?_
    refine x_callIY (y := yX11_init) (As := [.ref δ]) (rest := [.ref wd]) C (cX11_init_ok (w := wd) (δ := δ) n6 w2 l2 f2 o2 ew el ef eo en hf2) (bsG_in 457 (by decide +kernel) rfl) wiX11_init dpX11_init ⟨Nat.le_of_ble_eq_true rfl, Nat.le_of_ble_eq_true rfl⟩ ⟨Nat.le_of_ble_eq_true rfl, Nat.le_of_ble_eq_true rfl⟩ rfl (Nat.le_of_ble_eq_true rfl) dL_law_14 (fun X1 R1 hp => ?_)
    obtain ⟨σ, hσ, eX, θ, v, k, a, ml, hLt, hF, hnk, hk, eR⟩ := hp
    have eX : X1 = iX := eX
    rw [eX, eR]
    clear eX eR
    subst hσ
    refine x_astore_nY (lv' := [(2, .ref (σ 0 0)), (1, .ref δ), (0, .ref b)]) C dL_law_17 rfl (by decide) rfl ?_
    intro ls H locs hl hP hD hS
    refine (?_ : bsU p l e room_1 s m #[Value.ref b] below meth c _ _ (lw_Z below #[Value.ref b] s) dC dI (fun q : Nat => s.heap.size ≤ q) 6 18 [(2, .ref (σ 0 0)), (1, .ref δ), (0, .ref b)] [] (lwWs σ θ cA Z' ++ ([] ++ [(δ, dCell b D'), (σ 9 0, sbC v ml (nI nn')), (v, byC cA k a)]))) ls H locs hl hP hD hS
    refine l_new (ci := 10) (fs := [.null, .null, .null, .null, .null, .null, .null, .int 0, .int 0, .int 0]) CU bsin_X8 tyX8 tyX8_ok (bsG_in 67 (by decide +kernel) rfl) (bsG_in 68 (by decide +kernel) rfl) (bsG_in 52 (by decide +kernel) rfl) rfl (by decide) ⟨Nat.le_of_ble_eq_true rfl, Nat.le_of_ble_eq_true rfl⟩ dL_law_18 (fun q1 => ?_)
    refine l_dup CU dL_law_21 rfl ?_
    refine l_ctor (y := yX8_init) (As := []) (rest := [.ref q1]) CU (kX8_ok q1) (bsG_in 69 (by decide +kernel) rfl) kwX8 kdX8 ⟨Nat.le_of_ble_eq_true rfl, Nat.le_of_ble_eq_true rfl⟩ ⟨Nat.le_of_ble_eq_true rfl, Nat.le_of_ble_eq_true rfl⟩ rfl (Nat.le_of_ble_eq_true rfl) dL_law_22 (fun u hu => ?_)
    obtain ⟨ρ, hq1, rfl⟩ := hu
    subst hq1
    refine l_astore_n (lv' := [(3, .ref (ρ 13 0 0)), (2, .ref (σ 0 0)), (1, .ref δ), (0, .ref b)]) CU dL_law_25 rfl (by decide) rfl ?_
    refine u_sub [0, 1, 2] rfl ?_
    refine u_perm List.perm_append_comm ?_
    rw [b8_g]
    refine u_arr (q0 := 4) (g := fun i => some (rAll ρ adK adV d1 d2 (2 + i) 0 0)) (ws' := b8g cA ρ (fun i => some (rAll ρ adK adV d1 d2 (2 + i) 0 0)) (fun i => some (ρ (10 + i) 0 0)) ++ _) rfl (fun i hi => by match i, hi with | 0, _ => rfl | 1, _ => rfl | 2, _ => rfl | 3, _ => rfl | 4, _ => rfl | 5, _ => rfl | 6, _ => rfl | 7, _ => rfl | k + 8, h => exact absurd h (by omega)) rfl ?_
    refine u_arr (q0 := 5) (g := fun i => some (rAll ρ adK adV d1 d2 (10 + i) 0 0)) (ws' := b8g cA ρ (fun i => some (rAll ρ adK adV d1 d2 (2 + i) 0 0)) (fun i => some (rAll ρ adK adV d1 d2 (10 + i) 0 0)) ++ _) rfl (fun i hi => by match i, hi with | 0, _ => rfl | 1, _ => rfl | k + 2, h => exact absurd h (by omega)) rfl ?_
    rw [b8_all]
    refine u_perm world_perm ?_
    exact law_26 (ρ := rAll ρ adK adV d1 d2) (CC (rAll ρ adK adV d1 d2) rfl rfl rfl rfl) hst (fun q h => h) hLt hF hnk hk iX_7 iX_9 iX_2 iX_b iX_3 ht (fun i hi => (hLt i hi).1) hN w1 w2 l1 l2 f2 o2 n1 n6 hDd hZ hD2 (Nat.le_of_ble_eq_true rfl) (Nat.le_of_ble_eq_true rfl)
  exact fun ls H locs hl hP hD hS => J ls H locs hl hP hD hS
