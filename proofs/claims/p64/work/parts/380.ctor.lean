/-! CONSTRUCTORS: a judgement over lists of cells -/
def bsNM : List (String × Nat × MethodName × String) := [("BootSlots", 9, ⟨"BootSlots$Parser", "<init>", "()V"⟩, "BootSlots"), ("BootSlots$Machine", 19, ⟨"BootSlots$Install", "<init>", "()V"⟩, "BootSlots"), ("BootSlots$Install", 11, ⟨"BootSlots$Image", "<init>", "()V"⟩, "BootSlots"), ("BootSlots$Machine", 26, ⟨"BootSlots$BootLog", "<init>", "()V"⟩, "BootSlots"), ("BootSlots$Machine", 33, ⟨"BootSlots$Tally", "<init>", "()V"⟩, "BootSlots"), ("BootSlots$Slot", 9, ⟨"BootSlots$Image", "<init>", "()V"⟩, "BootSlots"), ("BootSlots", 39, ⟨"BootSlots$Text", "<init>", "()V"⟩, "BootSlots"), ("BootSlotsLaw$World", 70, ⟨"BootSlotsLaw$Place", "<init>", "()V"⟩, "BootSlotsLaw")]
def bsNc (U : State) : Prop := (∀ t ∈ bsNM, va_Nw (.methodLinkNest t.1 t.2.1 t.2.2.1 t.2.2.2) U) ∧ va_AO "BootSlots$Slot" U ∧ va_AO "BootSlots$Machine" U
theorem bsNc.warm {s U : State} (hW : s.WarmedH U.vm) (h : bsNc s) : bsNc U := ⟨fun t ht => va_Nw.warmM hW (h.1 t ht), h.2.1.moved hW.alike, h.2.2.moved hW.alike⟩
def bsUp (cA : Nat → ClassId) (dC : Nat → ClassId) (dI : Nat → Nat → Nat) (ws : va_W) (U : State) : Prop := va_P (dC, dI) vwCl ws U.heap ∧ va_K (dC, dI) vwCl (bsTys cA) U ∧ va_D (fun _ => True) ws ∧ bsNc U
/-- a constructor's contract: from the cells w0 it comes to cells u with P u -/
def bsK (l : Launch) (y : MethodName) (b : ByteArray) (nL : Nat) (rm : Room) (cA : Nat → ClassId) (dC : Nat → ClassId) (dI : Nat → Nat → Nat) (As : List Value) (w0 : va_W) (P : va_W → Prop) : Prop :=
  ∀ sz : Nat, Met l y (Cond.code y b nL none :: bsG) rm (va_Pc As (fun U => U.heap.size = sz ∧ bsUp cA dC dI w0 U)) (va_Qv (fun u : va_W => P u) (fun u t => va_P (dC, dI) vwCl u t.heap ∧ va_K (dC, dI) vwCl (bsTys cA) t ∧ va_D (va_A w0 sz) u) (va_A w0 sz)) rm.cells rm.slots (va_A w0 sz)
def bsUx (p : Program) (m : MethodId) (c : Code) (cc : ByteArray) (nL : Nat) (s : State) (args : Array Value) (Ts : List Cond) (own : String) (cA : Nat → ClassId) (dC : Nat → ClassId) (dI : Nat → Nat → Nat) (A : Nat → Prop) (meth : Method) : Prop := CallFix p m c cc nL s args Ts own ∧ va_K (dC, dI) vwCl (bsTys cA) s ∧ (∀ w ∈ bsG, w ∈ Ts) ∧ bsNc s ∧ meth.locks = false ∧ meth.sig.returnType = none ∧ meth.name = "<init>" ∧ (∀ q, s.heap.size ≤ q → A q)
def bsU (p : Program) (l : Launch) (e : Env) (R : Room) (s : State) (m : MethodId) (args : Array Value) (below : List Frame) (meth : Method) (c : Code) (cells slots : Nat) (Q : State → Prop) (dC : Nat → ClassId) (dI : Nat → Nat → Nat) (A : Nat → Prop) (nL : Nat) (pc : Nat) (lv : List (Nat × Value)) (st : List Value) (ws : va_W) : Prop :=
  ∀ (ls : Array Slot) (H : Heap) (locs : List Loc), lv_has ls nL lv → va_P (dC, dI) vwCl ws H → va_D A ws → va_S A s.heap H locs → W p l e R s m args below meth c H locs cells slots Q (F0 m pc ls st)
theorem bsK_of {l : Launch} {y : MethodName} {b : ByteArray} {nL : Nat} {rm : Room} {cA : Nat → ClassId} {dC : Nat → ClassId} {dI : Nat → Nat → Nat} {As : List Value} {w0 : va_W} {P : va_W → Prop} (hy : plainName y.cls = true) (hin : y.name = "<init>") (hlen : (lg_sl As).length ≤ nL)
    (body : ∀ (p : Program) (e : Env) (s : State) (m : MethodId) (args : Array Value) (below : List Frame) (meth : Method) (c : Code), bsUx p m c b nL s args (Cond.code y b nL none :: bsG) y.cls cA dC dI (va_A w0 s.heap.size) meth →
      bsU p l e rm s m args below meth c 0 0 (MQ below (va_Qv (fun u : va_W => P u) (fun u t => va_P (dC, dI) vwCl u t.heap ∧ va_K (dC, dI) vwCl (bsTys cA) t ∧ va_D (va_A w0 s.heap.size) u) (va_A w0 s.heap.size)) args s rm.cells rm.slots (va_A w0 s.heap.size)) dC dI (va_A w0 s.heap.size) nL 0 (lv_args 0 As) [] w0) : bsK l y b nL rm cA dC dI As w0 P := by
  intro sz
  refine Met.ofW (cc := b) (maxL := nL) (ret := none) hy rfl ?_
  intro p e s m args below meth c s₁ B hml hv
  obtain ⟨rfl, hsz, hP, hK, hD0, hN⟩ := hv
  subst hsz
  have hts := atoms_spec (ws := Cond.code y b nL none :: bsG) B.pre
  have hown : s.vm.findClass y.cls = some m.cls := findClass_of_methodNamed B.named
  have hl := lv_entry As hlen
  have hnm : meth.name = "<init>" := (name_of_methodNamed B.named B.method).1.trans hin
  rw [lg_entry_eq]
  exact body p e s m _ below meth c ⟨⟨B.exec, B.bytes, hml, hown, hts⟩, hK, fun w h => List.mem_cons_of_mem _ h, hN, B.notSynchronized, B.returns, hnm, fun q h => Or.inr h⟩ _ _ _ hl hP hD0.self va_S.rf
theorem bs_apart {A : Nat → Prop} {D : va_G} {cl : List vw_C} {wr u : va_W} {a : Nat} {f : va_E} {H H1 : Heap} (hP : va_P D cl (wr ++ [(a, f)]) H) (hD : va_D A (wr ++ [(a, f)])) (hA : ∀ q : Nat, H.size ≤ q → A q) (hk : ∀ q : Nat, q < H.size → ¬ va_A [(a, f)] H.size q → H1[q]? = H[q]?) (hP1 : va_P D cl u H1) (hD1 : va_D (va_A [(a, f)] H.size) u) : va_P D cl (wr ++ u) H1 ∧ va_D A (wr ++ u) := by
  have hl : ∀ (k : Nat) (q : Nat × va_E), wr[k]? = some q → (wr ++ [(a, f)])[k]? = some q := fun k q h => by
    rw [List.getElem?_append_left (List.getElem?_eq_some_iff.mp h).1]; exact h
  have hlast : (wr ++ [(a, f)])[wr.length]? = some (a, f) := by simp
  have apart : ∀ (k : Nat) (q : Nat × va_E), wr[k]? = some q → q.1 < H.size ∧ ¬ va_A [(a, f)] H.size q.1 := by
    intro k q hq
    have h1 := (hP k q (hl k q hq)).lt
    refine ⟨h1, fun h => ?_⟩
    rcases h with ⟨k2, e, h⟩ | h
    · have h2 : q.1 = a := by
        have h3 := List.mem_of_getElem? h
        rw [List.mem_singleton] at h3
        exact congrArg Prod.fst h3
      have h4 := hD.1 k wr.length q (a, f) (hl k q hq) hlast h2
      have := (List.getElem?_eq_some_iff.mp hq).1
      omega
    · omega
  have hA2 : ∀ q, va_A [(a, f)] H.size q → A q := by
    intro q h
    rcases h with ⟨k2, e, h⟩ | h
    · have h3 := List.mem_of_getElem? h
      rw [List.mem_singleton] at h3
      rw [show q = a from congrArg Prod.fst h3]
      exact hD.2 _ _ hlast
    · exact hA q h
  refine ⟨va_P.app (fun k q hq => ?_) hP1, va_D.app ⟨fun i j p q hi hj e => hD.1 i j p q (hl i p hi) (hl j q hj) e, fun k q hk => hD.2 k q (hl k q hk)⟩ (hD1.weaken (fun k q _ h => hA2 q.1 h)) (fun i j x y hx hy hxy => ?_)⟩
  · obtain ⟨g1, g2⟩ := apart k q hq
    exact (hP k q (hl k q hq)).kept (hk q.1 g1 g2)
  · exact (apart i x hx).2 (by rw [hxy]; exact hD1.2 j y hy)
theorem bs_permP {D : va_G} {cl : List vw_C} {ws ws' : va_W} {H : Heap} (h : ws.Perm ws') (hP : va_P D cl ws H) : va_P D cl ws' H := by
  intro k q hk
  obtain ⟨i, hi⟩ := List.getElem?_of_mem (h.mem_iff.mpr (List.mem_of_getElem? hk))
  exact hP i q hi
theorem bs_permD {A : Nat → Prop} {ws ws' : va_W} (h : ws.Perm ws') (hD : va_D A ws) : va_D A ws' := by
  have nd : (ws.map Prod.fst).Nodup := by
    rw [List.nodup_iff_pairwise_ne, List.pairwise_iff_getElem]
    intro i j hi hj hij e
    rw [List.getElem_map, List.getElem_map] at e
    have hi' : i < ws.length := by simpa using hi
    have hj' : j < ws.length := by simpa using hj
    have := hD.1 i j _ _ (List.getElem?_eq_getElem hi') (List.getElem?_eq_getElem hj') e
    omega
  have nd' : (ws'.map Prod.fst).Nodup := (h.map Prod.fst).nodup_iff.mp nd
  refine ⟨fun i j p q hi hj e => ?_, fun k q hk => ?_⟩
  · have hi' : (ws'.map Prod.fst)[i]? = some p.1 := by rw [List.getElem?_map, hi]; rfl
    have hj' : (ws'.map Prod.fst)[j]? = some p.1 := by rw [List.getElem?_map, hj, e]; rfl
    exact (List.getElem?_inj (List.getElem?_eq_some_iff.mp hi').1 nd').mp (hi'.trans hj'.symm)
  · obtain ⟨i, hi⟩ := List.getElem?_of_mem (h.mem_iff.mpr (List.mem_of_getElem? hk))
    exact hD.2 i q hi
section BSU
variable {p : Program} {l : Launch} {e : Env} {R : Room} {s : State} {m : MethodId} {args : Array Value} {below : List Frame} {meth : Method} {c : Code} {cells slots : Nat} {Q : State → Prop} {cA : Nat → ClassId} {dC : Nat → ClassId} {dI : Nat → Nat → Nat} {A : Nat → Prop} {nL : Nat} {cc : ByteArray} {Ts : List Cond} {own : String} {pc : Nat} {lv : List (Nat × Value)} {st : List Value} {ws ws' : va_W}
theorem u_iconst (C : bsUx p m c cc nL s args Ts own cA dC dI A meth) {n : Int} {v : Int32} (hd : decode cc pc = .ok (.iconst n, 1)) (hv : Int32.ofInt n = v) (k : bsU p l e R s m args below meth c cells slots Q dC dI A nL (pc + 1) lv (.int v :: st) ws) : bsU p l e R s m args below meth c cells slots Q dC dI A nL pc lv st ws := fun ls H locs hl hP hD hS => lv_iconst C.1.1 C.1.2.1 hd hv (k ls H locs hl hP hD hS)
theorem u_bipush (C : bsUx p m c cc nL s args Ts own cA dC dI A meth) {n : Int} {v : Int32} (hd : decode cc pc = .ok (.bipush n, 2)) (hv : (Int8.ofInt n).toInt32 = v) (k : bsU p l e R s m args below meth c cells slots Q dC dI A nL (pc + 2) lv (.int v :: st) ws) : bsU p l e R s m args below meth c cells slots Q dC dI A nL pc lv st ws := fun ls H locs hl hP hD hS => lv_bipush C.1.1 C.1.2.1 hd hv (k ls H locs hl hP hD hS)
theorem u_sipush (C : bsUx p m c cc nL s args Ts own cA dC dI A meth) {n : Int} {v : Int32} (hd : decode cc pc = .ok (.sipush n, 3)) (hv : (Int16.ofInt n).toInt32 = v) (k : bsU p l e R s m args below meth c cells slots Q dC dI A nL (pc + 3) lv (.int v :: st) ws) : bsU p l e R s m args below meth c cells slots Q dC dI A nL pc lv st ws := fun ls H locs hl hP hD hS => lv_sipush C.1.1 C.1.2.1 hd hv (k ls H locs hl hP hD hS)
theorem u_iload_n (C : bsUx p m c cc nL s args Ts own cA dC dI A meth) {k : Fin 4} {i : Nat} {x : Int32} (hd : decode cc pc = .ok (.iload_n k, 1)) (hi : (k : Nat) = i) (hx : lv.lookup i = some (.int x)) (k : bsU p l e R s m args below meth c cells slots Q dC dI A nL (pc + 1) lv (.int x :: st) ws) : bsU p l e R s m args below meth c cells slots Q dC dI A nL pc lv st ws := fun ls H locs hl hP hD hS => lv_iload_n C.1.1 C.1.2.1 hd hi (bs_lv hl hx) (k ls H locs hl hP hD hS)
theorem u_aload_n (C : bsUx p m c cc nL s args Ts own cA dC dI A meth) {k : Fin 4} {i : Nat} {x : Nat} (hd : decode cc pc = .ok (.aload_n k, 1)) (hi : (k : Nat) = i) (hx : lv.lookup i = some (.ref x)) (k : bsU p l e R s m args below meth c cells slots Q dC dI A nL (pc + 1) lv (.ref x :: st) ws) : bsU p l e R s m args below meth c cells slots Q dC dI A nL pc lv st ws := fun ls H locs hl hP hD hS => lv_aload_n C.1.1 C.1.2.1 hd hi (bs_lv hl hx) (k ls H locs hl hP hD hS)
theorem u_istore_n (C : bsUx p m c cc nL s args Ts own cA dC dI A meth) {k : Fin 4} {i : Nat} {x : Int32} {lv' : List (Nat × Value)} (hd : decode cc pc = .ok (.istore_n k, 1)) (hi : (k : Nat) = i) (hn : i < nL) (hx : (i, Value.int x) :: lv.filter (fun q => !(q.1 == i) && !(q.1 + 1 == i && q.2.category == 2)) = lv') (k : bsU p l e R s m args below meth c cells slots Q dC dI A nL (pc + 1) lv' st ws) : bsU p l e R s m args below meth c cells slots Q dC dI A nL pc lv (.int x :: st) ws := fun ls H locs hl hP hD hS => lv_istore_n C.1.1 C.1.2.1 hd hi hl hn hx (fun ls hl => k ls H locs hl hP hD hS)
theorem u_iinc (C : bsUx p m c cc nL s args Ts own cA dC dI A meth) {i k0 : Nat} {n : Int} {x v : Int32} {lv' : List (Nat × Value)} (hd : decode cc pc = .ok (.iinc i n, 3)) (hk : lv[k0]? = some (i, .int x)) (hv : x + Int32.ofInt n = v) (hn : i < nL) (hx : (i, Value.int v) :: lv.filter (fun q => !(q.1 == i) && !(q.1 + 1 == i && q.2.category == 2)) = lv') (k : bsU p l e R s m args below meth c cells slots Q dC dI A nL (pc + 3) lv' st ws) : bsU p l e R s m args below meth c cells slots Q dC dI A nL pc lv st ws := fun ls H locs hl hP hD hS => lv_iinc C.1.1 C.1.2.1 hd hl hk hv hn hx (fun ls hl => k ls H locs hl hP hD hS)
theorem u_dup (C : bsUx p m c cc nL s args Ts own cA dC dI A meth) {v : Value} (hd : decode cc pc = .ok (.dup, 1)) (hv : v.category = 1) (k : bsU p l e R s m args below meth c cells slots Q dC dI A nL (pc + 1) lv (v :: v :: st) ws) : bsU p l e R s m args below meth c cells slots Q dC dI A nL pc lv (v :: st) ws := fun ls H locs hl hP hD hS => lv_dup C.1.1 C.1.2.1 hd hv (k ls H locs hl hP hD hS)
theorem u_icmp_ge (C : bsUx p m c cc nL s args Ts own cA dC dI A meth) {x y : Int32} {off : Int} {tgt : Nat} (hd : decode cc pc = .ok (.if_icmp .ge off, 3)) (ht : (pc : Int) + off = (tgt : Int)) (kt : y ≤ x → bsU p l e R s m args below meth c cells slots Q dC dI A nL tgt lv st ws) (kf : ¬ (y ≤ x) → bsU p l e R s m args below meth c cells slots Q dC dI A nL (pc + 3) lv st ws) : bsU p l e R s m args below meth c cells slots Q dC dI A nL pc lv (.int y :: .int x :: st) ws := fun ls H locs hl hP hD hS => lv_icmp_ge C.1.1 C.1.2.1 hd ht (fun h => kt h ls H locs hl hP hD hS) (fun h => kf h ls H locs hl hP hD hS)
theorem u_goto (C : bsUx p m c cc nL s args Ts own cA dC dI A meth) {off : Int} {tgt : Nat} (hd : decode cc pc = .ok (.goto off, 3)) (ht : (pc : Int) + off = (tgt : Int)) (k : bsU p l e R s m args below meth c cells slots Q dC dI A nL tgt lv st ws) : bsU p l e R s m args below meth c cells slots Q dC dI A nL pc lv st ws := fun ls H locs hl hP hD hS => lv_goto C.1.1 C.1.2.1 hd ht (k ls H locs hl hP hD hS)
theorem u_sub {lv' : List (Nat × Value)} (ks : List Nat) (h : lv_pick lv ks = lv') (k : bsU p l e R s m args below meth c cells slots Q dC dI A nL pc lv' st ws) : bsU p l e R s m args below meth c cells slots Q dC dI A nL pc lv st ws := fun ls H locs hl hP hD hS => k ls H locs (lv_sub hl ks h) hP hD hS
theorem u_eq (h : ws = ws') (k : bsU p l e R s m args below meth c cells slots Q dC dI A nL pc lv st ws') : bsU p l e R s m args below meth c cells slots Q dC dI A nL pc lv st ws := h ▸ k
theorem u_perm (h : ws.Perm ws') (k : bsU p l e R s m args below meth c cells slots Q dC dI A nL pc lv st ws') : bsU p l e R s m args below meth c cells slots Q dC dI A nL pc lv st ws := fun ls H locs hl hP hD hS => k ls H locs hl (bs_permP h hP) (bs_permD h hD) hS
theorem u_widen {k n : Nat} (h1 : cells ≤ k) (h2 : slots ≤ n) (kk : bsU p l e R s m args below meth c k n Q dC dI A nL pc lv st ws) : bsU p l e R s m args below meth c cells slots Q dC dI A nL pc lv st ws := fun ls H locs hl hP hD hS => W.widen h1 h2 (kk ls H locs hl hP hD hS)
theorem oi_1 : Cond.instanceMethod Lib.objectInit ∈ bsG := bsG_in 73 (by decide +kernel) rfl
theorem oi_2 : Cond.code Lib.objectInit ⟨#[0xb1]⟩ 1 none ∈ bsG := bsG_in 74 (by decide +kernel) rfl
theorem u_objInit (C : bsUx p m c cc nL s args Ts own cA dC dI A meth) {idx a : Nat} (hlink : Cond.methodLink own idx objectInit ∈ bsG) (hd : decode cc pc = .ok (.invokespecial idx, 3)) (hR : 1 ≤ R.frames ∧ (st.map fun v => v.category).sum + 12 ≤ R.locals) (k : bsU p l e R s m args below meth c cells slots Q dC dI A nL (pc + 3) lv st ws) : bsU p l e R s m args below meth c cells slots Q dC dI A nL pc lv (.ref a :: st) ws := by
  intro ls H locs hl hP hD hS
  have W9 := fun w (h : w ∈ bsG) => C.1.2.2.2.2 w (C.2.2.1 w h)
  refine W.objInit C.1.1 C.1.2.1 C.1.2.2.2.1 (W9 _ hlink) (W9 _ oi_1) (W9 _ oi_2) rfl (by rw [C.1.2.2.1]; exact hl.1) rfl hd hR.1 (by have := hR.2; show 2 * 0 + _ + 12 ≤ _; omega) ?_
  exact W.eq (g2 := F0 m (pc + 3) ls st) rfl (k ls H locs hl hP hD hS)
theorem u_putF (C : bsUx p m c cc nL s args Ts own cA dC dI A meth) {a ci index N k q0 : Nat} {Cn ref : String} {T : u_T} {fs : List Value} {v : Value} {ty : FieldType} (he : ws[q0]? = some (a, .inr (ci, fs))) (hci : vwCl[ci]? = some (Cn, T, N)) (hin : ∀ w ∈ u_ws Cn T N, w ∈ bsG) (ty0 : Nat → FieldType) (hty : ∀ k, k < N → parseFieldDescriptor (T k).2.2.1 = some (ty0 k)) (hnm : ∀ a, a < N → ∀ b, b < N → a ≠ b → (T a).2.1 ≠ (T b).2.1) (hkN : k < N) (hlink : Cond.fieldLink own index ref (T k).2.1 (T k).2.2.1 ∈ bsG) (hsame : (T k).1 = ref) (hfin : (T k).2.2.2 = true) (hdecl : (T k).1 = own) (htk : ty0 k = ty) (hn : narrow ty v = v) (hf : fits ty v = true) (hlen : k < fs.length) (hw : ws.set q0 (a, .inr (ci, fs.set k v)) = ws') (hd : decode cc pc = .ok (.putfield index, 3)) (kk : bsU p l e R s m args below meth c cells slots Q dC dI A nL (pc + 3) lv st ws') : bsU p l e R s m args below meth c cells slots Q dC dI A nL pc lv (v :: .ref a :: st) ws := by
  intro ls H locs hl hP hD hS
  subst hw
  exact va_putF (D := (dC, dI)) C.1.1 C.1.2.1 C.1.2.2.2.2 (fun w h => C.2.2.1 w (hin w h)) ty0 hty hnm C.1.2.2.2.1 C.2.1 hP hD hS q0 he hci k hkN (C.1.2.2.2.2 _ (C.2.2.1 _ hlink)) (fun x h => by rw [← hsame]; exact h) hfin C.2.2.2.2.2.2.1 hdecl (by rw [← htk]; exact hty k hkN) hn hf hlen hd (fun H locs hP hD hS => kk ls H locs hl hP hD hS)
theorem u_put (C : bsUx p m c cc nL s args Ts own cA dC dI A meth) {a ci index N k q0 : Nat} {Cn ref : String} {T : u_T} {fs : List Value} {v : Value} {ty : FieldType} (he : ws[q0]? = some (a, .inr (ci, fs))) (hci : vwCl[ci]? = some (Cn, T, N)) (hin : ∀ w ∈ u_ws Cn T N, w ∈ bsG) (ty0 : Nat → FieldType) (hty : ∀ k, k < N → parseFieldDescriptor (T k).2.2.1 = some (ty0 k)) (hnm : ∀ a, a < N → ∀ b, b < N → a ≠ b → (T a).2.1 ≠ (T b).2.1) (hkN : k < N) (hlink : Cond.fieldLink own index ref (T k).2.1 (T k).2.2.1 ∈ bsG) (hsame : (T k).1 = ref) (hfin : (T k).2.2.2 = false) (htk : ty0 k = ty) (hn : narrow ty v = v) (hf : fits ty v = true) (hlen : k < fs.length) (hw : ws.set q0 (a, .inr (ci, fs.set k v)) = ws') (hd : decode cc pc = .ok (.putfield index, 3)) (kk : bsU p l e R s m args below meth c cells slots Q dC dI A nL (pc + 3) lv st ws') : bsU p l e R s m args below meth c cells slots Q dC dI A nL pc lv (v :: .ref a :: st) ws := by
  intro ls H locs hl hP hD hS
  subst hw
  exact va_put (D := (dC, dI)) C.1.1 C.1.2.1 C.1.2.2.2.2 (fun w h => C.2.2.1 w (hin w h)) ty0 hty hnm C.1.2.2.2.1 C.2.1 hP hD hS q0 he hci k hkN (C.1.2.2.2.2 _ (C.2.2.1 _ hlink)) (fun x h => by rw [← hsame]; exact h) hfin (by rw [← htk]; exact hty k hkN) hn hf hlen hd (fun H locs hP hD hS => kk ls H locs hl hP hD hS)
theorem u_get (C : bsUx p m c cc nL s args Ts own cA dC dI A meth) {a ci index N k q0 : Nat} {Cn ref : String} {T : u_T} {fs : List Value} {v : Value} (he : ws[q0]? = some (a, .inr (ci, fs))) (hci : vwCl[ci]? = some (Cn, T, N)) (hin : ∀ w ∈ u_ws Cn T N, w ∈ bsG) (hkN : k < N) (hlink : Cond.fieldLink own index ref (T k).2.1 (T k).2.2.1 ∈ bsG) (hsame : (T k).1 = ref) (hv : fs[k]? = some v) (hd : decode cc pc = .ok (.getfield index, 3)) (kk : bsU p l e R s m args below meth c cells slots Q dC dI A nL (pc + 3) lv (v :: st) ws) : bsU p l e R s m args below meth c cells slots Q dC dI A nL pc lv (.ref a :: st) ws := by
  intro ls H locs hl hP hD hS
  exact va_get C.1.1 C.1.2.1 C.1.2.2.2.2 (fun w h => C.2.2.1 w (hin w h)) C.1.2.2.2.1 C.2.1 hP q0 he hci k hkN (C.1.2.2.2.2 _ (C.2.2.1 _ hlink)) (fun x h => by rw [← hsame]; exact h) hv hd (kk ls H locs hl hP hD hS)
theorem u_new (C : bsUx p m c cc nL s args Ts own cA dC dI A meth) {ci index N : Nat} {Cn : String} {T : u_T} {fs : List Value} (hin : ∀ w ∈ u_ws Cn T N, w ∈ bsG) (ty0 : Nat → FieldType) (hty : ∀ k, k < N → parseFieldDescriptor (T k).2.2.1 = some (ty0 k)) (hcl : Cond.classLink own index Cn ∈ bsG) (hinst : Cond.instantiable Cn N ∈ bsG) (hini : Cond.initialized Cn ∈ bsG) (hci : vwCl[ci]? = some (Cn, T, N)) (hfs : ∀ j, j < N → defaultValue (ty0 j) = vp_V fs j) (hR : cells + 1 ≤ R.cells ∧ slots + N ≤ R.slots) (hd : decode cc pc = .ok (.new index, 3)) (kk : ∀ q : Nat, bsU p l e R s m args below meth c (cells + 1) (slots + N) Q dC dI A nL (pc + 3) lv (.ref q :: st) (ws ++ [(q, .inr (ci, fs))])) : bsU p l e R s m args below meth c cells slots Q dC dI A nL pc lv st ws := by
  intro ls H locs hl hP hD hS
  have W9 := fun w (h : w ∈ bsG) => C.1.2.2.2.2 w (C.2.2.1 w h)
  exact va_new C.1.1 C.1.2.1 C.1.2.2.2.2 (fun w h => C.2.2.1 w (hin w h)) ty0 hty C.1.2.2.2.1 (W9 _ hcl) (W9 _ hinst) (W9 _ hini) C.2.1 hP hD hS C.2.2.2.2.2.2.2 hci hfs hR.1 hR.2 hd (fun q H hP hD hS => kk q ls H locs hl hP hD hS)
theorem bsRA_eq {U : State} {c1 c2 : ClassId} {ty : FieldType} (h1 : va_RA U c1 ty) (h2 : va_RA U c2 ty) : c1 = c2 := by
  cases ty with
  | object C =>
    obtain ⟨_, _, -, -, -, e1⟩ := h1
    obtain ⟨_, _, -, -, -, e2⟩ := h2
    exact Option.some.inj (e1.symm.trans e2)
  | _ => exact Option.some.inj (h1.symm.trans h2)
theorem u_newa (C : bsUx p m c cc nL s args Ts own cA dC dI A meth) {atype : ArrayType} {ty : FieldType} {n : Int32} {N t0 : Nat} (harr : Cond.arrayClass (newarray.typeOf atype) ∈ bsG) (hty : newarray.typeOf atype = ty) (ht : (bsTys cA)[t0]? = some (cA t0, ty)) (ha : ∀ c0 : ClassId, vp_cell c0 (N, .inl (fun _ => (0 : Int32))) = arrV c0 N (fun _ => defaultValue ty)) (hn : ¬ n < 0) (hN : n.toNatClampNeg = N) (hby : N * componentBytes ty ≤ 536870912) (hR : cells + 1 ≤ R.cells ∧ slots + N ≤ R.slots) (hd : decode cc pc = .ok (.newarray atype, 2)) (kk : ∀ q : Nat, bsU p l e R s m args below meth c (cells + 1) (slots + N) Q dC dI A nL (pc + 2) lv (.ref q :: st) (ws ++ [(q, .inl (cA t0, N, .inl (fun _ => (0 : Int32))))])) : bsU p l e R s m args below meth c cells slots Q dC dI A nL pc lv (.int n :: st) ws := by
  intro ls H locs hl hP hD hS
  have W9 := fun w (h : w ∈ bsG) => C.1.2.2.2.2 w (C.2.2.1 w h)
  refine va_newa C.1.1 C.1.2.1 (atype := atype) (W9 _ harr) hty C.2.1 hP hD hS C.2.2.2.2.2.2.2 ha hn hN hby hR.1 hR.2 hd (fun q c1 H hK hP hD hS => ?_)
  have e1 : (bsTys cA ++ [(c1, ty)])[9]? = some (c1, ty) := rfl
  have e2 : c1 = cA t0 := bsRA_eq (hK.2 9 _ e1).2 (C.2.1.2 t0 _ ht).2
  subst e2
  exact kk q ls H locs hl hP hD hS
theorem u_newq (C : bsUx p m c cc nL s args Ts own cA dC dI A meth) {Cn : String} {index : Nat} {n : Int32} {N t0 : Nat} (hcl : Cond.classLink own index Cn ∈ bsG) (hover : va_AO Cn s) (ht : (bsTys cA)[t0]? = some (cA t0, .object Cn)) (hn : ¬ n < 0) (hN : n.toNatClampNeg = N) (hby : N * 4 ≤ 536870912) (hR : cells + 1 ≤ R.cells ∧ slots + N ≤ R.slots) (hd : decode cc pc = .ok (.anewarray index, 3)) (kk : ∀ q : Nat, bsU p l e R s m args below meth c (cells + 1) (slots + N) Q dC dI A nL (pc + 3) lv (.ref q :: st) (ws ++ [(q, .inl (cA t0, N, .inr (.inr (.inr (.inr (fun _ => none))))))])) : bsU p l e R s m args below meth c cells slots Q dC dI A nL pc lv (.int n :: st) ws := by
  intro ls H locs hl hP hD hS
  have W9 := fun w (h : w ∈ bsG) => C.1.2.2.2.2 w (C.2.2.1 w h)
  refine va_newq C.1.1 C.1.2.1 C.1.2.2.2.1 (W9 _ hcl) hover C.2.1 hP hD hS C.2.2.2.2.2.2.2 hn hN hby hR.1 hR.2 hd (fun q c1 H hK hP hD hS => ?_)
  have e1 : (bsTys cA ++ [(c1, .object Cn)])[9]? = some (c1, .object Cn) := rfl
  have e2 : c1 = cA t0 := bsRA_eq (hK.2 9 _ e1).2 (C.2.1.2 t0 _ ht).2
  subst e2
  exact kk q ls H locs hl hP hD hS
theorem u_astq (C : bsUx p m c cc nL s args Ts own cA dC dI A meth) {t0 q0 qk ci a n v : Nat} {i : Int32} {r : vw_C} {vs : List Value} {f : Nat → Option Nat} (ha : ws[q0]? = some (a, .inl (cA t0, n, .inr (.inr (.inr (.inr f)))))) (ht : (bsTys cA)[t0]? = some (cA t0, .object r.1)) (hv : ws[qk]? = some (v, .inr (ci, vs))) (hc : vwCl[ci]? = some r) (hin : bsIn i n) (hw : ws.set q0 (a, .inl (cA t0, n, .inr (.inr (.inr (.inr (va_up f i.toNatClampNeg (some v))))))) = ws') (hd : decode cc pc = .ok (.aastore, 1)) (kk : bsU p l e R s m args below meth c cells slots Q dC dI A nL (pc + 1) lv st ws') : bsU p l e R s m args below meth c cells slots Q dC dI A nL pc lv (.ref v :: .int i :: .ref a :: st) ws := by
  intro ls H locs hl hP hD hS
  subst hw
  exact va_astq C.1.1 C.1.2.1 C.2.1 hP hD hS q0 t0 qk ci ha ht hv hc (vp_in_iff.mpr hin) hd (fun H locs hP hD hS => kk ls H locs hl hP hD hS)
theorem u_vret (C : bsUx p m c cc nL s args Ts own cA dC dI A meth) {w0 : va_W} {P : va_W → Prop} {mc ms : Nat} (hA : A = va_A w0 s.heap.size) (hP0 : P ws) (h1 : cells ≤ mc) (h2 : slots ≤ ms) (hd : decode cc pc = .ok (.return_, 1)) : bsU p l e R s m args below meth c cells slots (MQ below (va_Qv (fun u : va_W => P u) (fun u t => va_P (dC, dI) vwCl u t.heap ∧ va_K (dC, dI) vwCl (bsTys cA) t ∧ va_D (va_A w0 s.heap.size) u) (va_A w0 s.heap.size)) args s mc ms (va_A w0 s.heap.size)) dC dI A nL pc lv [] ws := by
  intro ls H locs hl hP hD hS
  subst hA
  exact W.widen h1 h2 (W.vret C.1.1 C.1.2.1 C.2.2.2.2.2.1 (fun t ht hW => ⟨⟨ws, rfl, hP0, by rw [ht]; exact hP, va_K.moved hW.alike C.2.1, hD⟩, hS.F ht⟩) hS.2.2 hd C.2.2.2.2.1)
theorem bsU_blind {av : List Value} {sz : Nat} {w0 : va_W} : FrameBlind (va_Pc av (fun U => U.heap.size = sz ∧ bsUp cA dC dI w0 U)) := fun a U g mk q => by
  obtain ⟨q0, q1, qP, qK, qD, qN⟩ := q
  exact ⟨q0, q1, qP, va_K.moved (u := U) (U := U.calling g mk a) (Vm.Alike.refl U.vm) qK, qD, bsNc.warm (U := U.calling g mk a) (State.WarmedH.refl U) qN⟩
theorem u_ctor (C : bsUx p m c cc nL s args Ts own cA dC dI A meth) {y : MethodName} {b : ByteArray} {nL' index a : Nat} {rm' : Room} {As rest : List Value} {f : va_E} {P : va_W → Prop} (hM : bsK l y b nL' rm' cA dC dI (.ref a :: As) [(a, f)] P)
    (hl0 : Cond.methodLink own index y ∈ bsG) (hw : Cond.instanceMethod y ∈ bsG ∧ Cond.initialized y.cls ∈ bsG ∧ Cond.code y b nL' none ∈ bsG ∧ y.name = "<init>" ∧ (y.cls ≠ "java/lang/invoke/MethodHandle" ∧ y.cls ≠ "java/lang/invoke/VarHandle")) (hde : (parseMethodDescriptor y.desc).map (fun d => d.parameters.length) = some As.length)
    (hR : rm'.frames + 1 ≤ R.frames ∧ 8 + (nL' + 11) + rm'.locals ≤ R.locals) (hcs : cells + rm'.cells ≤ R.cells ∧ slots + rm'.slots ≤ R.slots) (hst : st = As.reverse ++ .ref a :: rest) (hW : (rest.map fun v => v.category).sum ≤ 8) (hd : decode cc pc = .ok (.invokespecial index, 3))
    (kk : ∀ u : va_W, P u → bsU p l e R s m args below meth c (cells + rm'.cells) (slots + rm'.slots) Q dC dI A nL (pc + 3) lv rest (ws ++ u)) : bsU p l e R s m args below meth c cells slots Q dC dI A nL pc lv st (ws ++ [(a, f)]) := by
  intro ls H locs hl hP hD hS
  have W9 := fun w (h : w ∈ bsG) => C.1.2.2.2.2 w (C.2.2.1 w h)
  have hAH : ∀ q : Nat, H.size ≤ q → A q := fun q h => C.2.2.2.2.2.2.2 q (Nat.le_trans hS.1 h)
  have hl1 : (ws ++ [(a, f)])[ws.length]? = some (a, f) := by simp
  have hPc : va_P (dC, dI) vwCl [(a, f)] H := fun k q hk => by
    have hz : k < 1 := (List.getElem?_eq_some_iff.mp hk).1
    rw [show k = 0 by omega] at hk
    cases hk
    exact hP _ _ hl1
  have hDc : va_D (fun _ => True) [(a, f)] := ⟨fun i j p q hi hj _ => by
    have h1 : i < 1 := (List.getElem?_eq_some_iff.mp hi).1
    have h2 : j < 1 := (List.getElem?_eq_some_iff.mp hj).1
    omega, fun _ _ _ => trivial⟩
  have hFc : ∀ q, va_A [(a, f)] H.size q → A q := by
    intro q h
    rcases h with ⟨k2, e2, h⟩ | h
    · have h3 := List.mem_of_getElem? h
      rw [List.mem_singleton] at h3
      rw [show q = a from congrArg Prod.fst h3]
      exact hD.2 _ _ hl1
    · exact hAH q h
  refine va_callv (va_runI (As := As) (rest := rest) C.1 (hM H.size) (cwI As.length C.1.2.2.2.2 (bs_goodC C.2.2.1 hw.2.2.1) rfl rfl rfl (W9 _ hw.2.1) (W9 _ hl0) (W9 _ hw.1) hw.2.2.2.1 ⟨hw.2.2.2.2.1, hw.2.2.2.2.2, hde⟩ hR) ⟨bsU_blind, fun U hU hW => ⟨rfl, by rw [hU], by rw [hU]; exact hPc, va_K.moved hW.alike C.2.1, hDc, bsNc.warm hW C.2.2.2.1⟩⟩ rfl rfl hl.1 hst (lv_room hW) hd hcs) hS (fun q _ h => hFc q h) hFc (fun u t H1 locs1 ht hvm hr hB hz1 hk1 hS1 => ?_)
  obtain ⟨hP1, -, hD1⟩ := hB
  rw [ht] at hP1
  obtain ⟨hP2, hD2⟩ := bs_apart hP hD hAH hk1 hP1 hD1
  exact kk u hr ls H1 locs1 hl hP2 hD2 hS1
theorem u_ctorN (C : bsUx p m c cc nL s args Ts own cA dC dI A meth) {y : MethodName} {b : ByteArray} {nL' index a : Nat} {rm' : Room} {As rest : List Value} {f : va_E} {P : va_W → Prop} (hM : bsK l y b nL' rm' cA dC dI (.ref a :: As) [(a, f)] P)
    {host : String} (hl0 : (own, index, y, host) ∈ bsNM) (hw : Cond.instanceMethod y ∈ bsG ∧ Cond.initialized y.cls ∈ bsG ∧ Cond.code y b nL' none ∈ bsG ∧ y.name = "<init>" ∧ (y.cls ≠ "java/lang/invoke/MethodHandle" ∧ y.cls ≠ "java/lang/invoke/VarHandle")) (hde : (parseMethodDescriptor y.desc).map (fun d => d.parameters.length) = some As.length)
    (hR : rm'.frames + 1 ≤ R.frames ∧ 8 + (nL' + 11) + rm'.locals ≤ R.locals) (hcs : cells + rm'.cells ≤ R.cells ∧ slots + rm'.slots ≤ R.slots) (hst : st = As.reverse ++ .ref a :: rest) (hW : (rest.map fun v => v.category).sum ≤ 8) (hd : decode cc pc = .ok (.invokespecial index, 3))
    (kk : ∀ u : va_W, P u → bsU p l e R s m args below meth c (cells + rm'.cells) (slots + rm'.slots) Q dC dI A nL (pc + 3) lv rest (ws ++ u)) : bsU p l e R s m args below meth c cells slots Q dC dI A nL pc lv st (ws ++ [(a, f)]) := by
  intro ls H locs hl hP hD hS
  have W9 := fun w (h : w ∈ bsG) => C.1.2.2.2.2 w (C.2.2.1 w h)
  have hAH : ∀ q : Nat, H.size ≤ q → A q := fun q h => C.2.2.2.2.2.2.2 q (Nat.le_trans hS.1 h)
  have hl1 : (ws ++ [(a, f)])[ws.length]? = some (a, f) := by simp
  have hPc : va_P (dC, dI) vwCl [(a, f)] H := fun k q hk => by
    have hz : k < 1 := (List.getElem?_eq_some_iff.mp hk).1
    rw [show k = 0 by omega] at hk
    cases hk
    exact hP _ _ hl1
  have hDc : va_D (fun _ => True) [(a, f)] := ⟨fun i j p q hi hj _ => by
    have h1 : i < 1 := (List.getElem?_eq_some_iff.mp hi).1
    have h2 : j < 1 := (List.getElem?_eq_some_iff.mp hj).1
    omega, fun _ _ _ => trivial⟩
  have hFc : ∀ q, va_A [(a, f)] H.size q → A q := by
    intro q h
    rcases h with ⟨k2, e2, h⟩ | h
    · have h3 := List.mem_of_getElem? h
      rw [List.mem_singleton] at h3
      rw [show q = a from congrArg Prod.fst h3]
      exact hD.2 _ _ hl1
    · exact hAH q h
  refine va_callv (va_runIN (As := As) (rest := rest) C.1 (hM H.size) ⟨va_cnB As.length C.1.2.2.2.2 (bs_goodC C.2.2.1 hw.2.2.1) rfl rfl rfl (C.2.2.2.1.1 _ hl0) (W9 _ hw.2.1) ⟨hw.2.2.2.2.1, hw.2.2.2.2.2, hde⟩ hR, hw.2.2.2.1, W9 _ hw.1⟩ ⟨bsU_blind, fun U hU hW => ⟨rfl, by rw [hU], by rw [hU]; exact hPc, va_K.moved hW.alike C.2.1, hDc, bsNc.warm hW C.2.2.2.1⟩⟩ rfl rfl hl.1 hst (lv_room hW) hd hcs) hS (fun q _ h => hFc q h) hFc (fun u t H1 locs1 ht hvm hr hB hz1 hk1 hS1 => ?_)
  obtain ⟨hP1, -, hD1⟩ := hB
  rw [ht] at hP1
  obtain ⟨hP2, hD2⟩ := bs_apart hP hD hAH hk1 hP1 hD1
  exact kk u hr ls H1 locs1 hl hP2 hD2 hS1
end BSU
