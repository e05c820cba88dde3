/-! ARRAYS OF ARRAYS, clones; cells that take another place in the world -/
section XA
variable {p : Program} {l : Launch} {e : Env} {R : Room} {s : State} {m : MethodId} {args : Array Value} {below : List Frame} {meth : Method} {c : Code} {cells slots : Nat} {Q : State → Prop} {ρ : bsR} {sc L : Nat} {xs : Nat → Int32} {cA : Nat → ClassId} {dC : Nat → ClassId} {dI : Nat → Nat → Nat} {A : Nat → Prop} {Rz Rz' : va_W} {nL : Nat} {cc : ByteArray} {Ts : List Cond} {own : String} {ret : Option FieldType} {pc : Nat} {lv : List (Nat × Value)} {st : List Value} {X : bsX}
theorem x_RA8 (C : xCx p m c cc nL s args Ts own ρ sc L xs cA dC dI A meth ret) : s.vm.findClass ("[" ++ (FieldType.array .int).toString) = some (cA 8) := (C.2.1.2 8 _ rfl).2
theorem xt_AI : (FieldType.array .int).toString = "[I" := by decide +kernel
theorem xt_I : ("[" ++ FieldType.int.toString) = "[I" := by decide +kernel
theorem xt_B : ("[" ++ FieldType.byte.toString) = "[B" := by decide +kernel
theorem x_RA0 (C : xCx p m c cc nL s args Ts own ρ sc L xs cA dC dI A meth ret) : s.vm.findClass "[I" = some (cA 0) := by
  have h : s.vm.findClass ("[" ++ FieldType.int.toString) = some (cA 0) := (C.2.1.2 0 _ rfl).2
  rw [xt_I] at h
  exact h
theorem x_RA1 (C : xCx p m c cc nL s args Ts own ρ sc L xs cA dC dI A meth ret) : s.vm.findClass "[B" = some (cA 1) := by
  have h : s.vm.findClass ("[" ++ FieldType.byte.toString) = some (cA 1) := (C.2.1.2 1 _ rfl).2
  rw [xt_B] at h
  exact h
theorem xAA.use {B : Array Value} {U : State} (h : xAA U) : (Cond.arrayOver (.array .int)).before B U = true := h
theorem x_anewA (C : xCx p m c cc nL s args Ts own ρ sc L xs cA dC dI A meth ret) {index : Nat} {n : Int32} {N : Nat} (hcl : Cond.classLink own index "[I" ∈ bsG) (hn : ¬ n < 0) (hN : n.toNatClampNeg = N) (hby : N * 4 ≤ 536870912) (hR : cells + 1 ≤ R.cells ∧ slots + N ≤ R.slots) (hd : decode cc pc = .ok (.anewarray index, 3)) (kk : ∀ q : Nat, xV p l e R s m args below meth c (cells + 1) (slots + N) Q ρ cA dC dI A (Rz ++ [(q, .inl (cA 8, N, (.inr (.inr (.inr (.inr (fun _ => none)))))))]) nL (pc + 3) lv (.ref q :: st) X) : xV p l e R s m args below meth c cells slots Q ρ cA dC dI A Rz nL pc lv (.int n :: st) X := by
  intro ls H locs hl hP hD hS
  subst hN
  refine W.anewA (t := .int) C.1.1 C.1.2.1 C.1.2.2.2.1 (by rw [xt_AI]; exact C.1.2.2.2.2 _ (C.2.2.1 _ hcl)) (xAA.use C.2.2.2.1.2.2.2.2.2.2.1) rfl hd rfl hn hby hR.1 hR.2 fun c1 kA comp f1 f2 f3 f4 => ?_
  have ec : c1 = cA 8 := Option.some.inj (f1.symm.trans (x_RA8 C))
  subst ec
  generalize hH1 : H.push ({ cls := cA 8, slots := Array.replicate n.toNatClampNeg .null, vm := .none } : Cell) = H1
  have z1 : H1.size = H.size + 1 := by rw [← hH1, Array.size_push]
  have e1 : H1[H.size]? = some (arrV (cA 8) n.toNatClampNeg (fun _ => .null)) := by rw [← hH1, Array.getElem?_push_size, ← arrV_new]
  have o1 : ∀ q : Nat, q < H.size → H1[q]? = H[q]? := fun q hq => by rw [← hH1, Array.getElem?_push, if_neg (Nat.ne_of_lt hq)]
  have hk : ∀ (k : Nat) (x : Nat × va_E), (bsWs ρ cA X Rz)[k]? = some x → H1[x.1]? = H[x.1]? := fun k x hx => o1 x.1 ((hP k x hx).lt)
  have hP1 := (hP.kept hk).app (w2 := [(H.size, .inl (cA 8, n.toNatClampNeg, (.inr (.inr (.inr (.inr (fun _ => none)))))))]) (fun k x hx => by
    have hz : k < 1 := (List.getElem?_eq_some_iff.mp hx).1
    rw [show k = 0 by omega] at hx
    cases hx
    show H1[H.size]? = some (vp_cell _ _)
    rw [vp_cell_q]
    exact e1)
  have hD1 := hD.push (e := .inl (cA 8, n.toNatClampNeg, (.inr (.inr (.inr (.inr (fun _ => none))))))) hP rfl (C.2.2.2.2.2.2 _ hS.1)
  rw [xW_app] at hP1 hD1
  exact kk H.size ls H1 locs hl hP1 hD1 ⟨Nat.le_trans hS.1 (by omega), fun x h1 h2 => (o1 x (Nat.lt_of_lt_of_le h1 hS.1)).trans (hS.2.1 x h1 h2), hS.2.2⟩
theorem x_astA (C : xCx p m c cc nL s args Ts own ρ sc L xs cA dC dI A meth ret) {q0 qk a n v nv : Nat} {f : Nat → Option Nat} {g : Nat → Int32} {i : Int32} (ha : Rz[q0]? = some (a, .inl (cA 8, n, (.inr (.inr (.inr (.inr f))))))) (hv : Rz[qk]? = some (v, .inl (cA 0, nv, .inl g))) (hin : bsIn i n) (hR : Rz.set q0 (a, .inl (cA 8, n, (.inr (.inr (.inr (.inr (va_up f (bsIx i) (some v)))))))) = Rz') (hd : decode cc pc = .ok (.aastore, 1)) (kk : xV p l e R s m args below meth c cells slots Q ρ cA dC dI A Rz' nL (pc + 1) lv st X) : xV p l e R s m args below meth c cells slots Q ρ cA dC dI A Rz nL pc lv (.ref v :: .int i :: .ref a :: st) X := by
  intro ls H locs hl hP hD hS
  have hin' := vp_in_iff.mpr hin
  have hlt : i.toNatClampNeg < n := Nat.not_le.mp fun q => hin' (Or.inr q)
  have h0 : ¬ i < 0 := fun q => hin' (Or.inl q)
  obtain ⟨kA, k1, k2⟩ := C.2.2.2.1.2.2.2.2.2.2.2.1
  obtain ⟨-, kE, hkE, -⟩ := (C.2.1.2 0 _ rfl).1 nv (fun j => .int (g j))
  have hsa : s.vm.assignable (cA 0) (cA 0) = true := by
    show s.vm.assignableAux (255 + 1) _ _ = true
    rw [Vm.assignableAux, Bool.or_eq_true, beq_iff_eq]
    exact Or.inl rfl
  have hcv : H[v]? = some (vp_cell (cA 0) (nv, .inl g)) := hP _ _ ((xW_at qk).trans hv)
  refine W.aast C.1.1 C.1.2.1 (hP _ _ ((xW_at q0).trans ha)) (fun q h => by cases h) (fun h => by cases h) k1 k2 rfl hkE ⟨h0, by show _ < (arrV _ _ _).slots.size; rw [arrV_size]; exact hlt⟩ hcv (fun q h => by cases h) hkE hsa rfl rfl hd fun H1 e z oq => ?_
  have hP1 := hP.set hD ((xW_at q0).trans ha) (e := .inl (cA 8, n, (.inr (.inr (.inr (.inr (va_up f i.toNatClampNeg (some v)))))))) (H1 := H1) (by
    show H1[a]? = some (vp_cell _ _)
    rw [e]
    rw [vp_cell_q, vp_cell_q, arrV_store]
    congr 2
    funext q
    by_cases hq : q = i.toNatClampNeg
    · subst hq
      simp [updV, va_up, va_rf]
    · simp [updV, va_up, hq]) oq
  have hD1 := hD.set (e := .inl (cA 8, n, (.inr (.inr (.inr (.inr (va_up f i.toNatClampNeg (some v)))))))) ((xW_at (ρ := ρ) (cA := cA) (X := X) q0).trans ha)
  rw [xW_set, hR] at hP1 hD1
  exact kk ls H1 _ hl hP1 hD1 (hS.put z oq (hD.2 _ _ ((xW_at q0).trans ha)))
theorem ac_ok : Cond.native arraycopyName ∈ bsG ∧ Cond.static arraycopyName ∈ bsG ∧ Cond.initialized "java/lang/System" ∈ bsG := by decide +kernel
theorem x_copyA (C : xCx p m c cc nL s args Ts own ρ sc L xs cA dC dI A meth ret) {q0 q1 a0 a n0 n1 : Nat} {index : Nat} {f g : Nat → Option Nat} {sp dp n : Int32} (hlink : Cond.methodLink own index arraycopyName ∈ bsG) (ha0 : Rz[q0]? = some (a0, .inl (cA 8, n0, (.inr (.inr (.inr (.inr f))))))) (ha1 : Rz[q1]? = some (a, .inl (cA 8, n1, (.inr (.inr (.inr (.inr g))))))) (h1 : ¬ sp < 0) (h2 : ¬ dp < 0) (h3 : ¬ n < 0) (h4 : bsIx sp + bsIx n ≤ n0) (h5 : bsIx dp + bsIx n ≤ n1) (hel : ∀ i : Nat, i < bsIx n → ∀ y : Nat, f (bsIx sp + i) = some y → ∃ (qk nv : Nat) (h : Nat → Int32), Rz[qk]? = some (y, .inl (cA 0, nv, .inl h))) (hfr : 1 ≤ R.frames) (hlo : (st.map fun v => v.category).sum + (nativeFrameWords "java/lang/System" "arraycopy" 5 + 11) ≤ R.locals) (hR : Rz.set q1 (a, .inl (cA 8, n1, (.inr (.inr (.inr (.inr (va_cpy f g (bsIx sp) (bsIx dp) (bsIx n)))))))) = Rz') (hd : decode cc pc = .ok (.invokestatic index, 3)) (kk : xV p l e R s m args below meth c cells slots Q ρ cA dC dI A Rz' nL (pc + 3) lv st X) : xV p l e R s m args below meth c cells slots Q ρ cA dC dI A Rz nL pc lv (.int n :: .int dp :: .ref a :: .int sp :: .ref a0 :: st) X := by
  intro ls H locs hl hP hD hS
  have nn : ∀ z : Int32, ¬ z < 0 → z.toInt = (z.toNatClampNeg : Int) := by
    intro z hz
    have hz0 : (0 : Int) ≤ z.toInt := by
      have := Int32.not_lt.mp hz
      simpa using Int32.le_iff_toInt_le.mp this
    show z.toInt = ((z.toInt.toNat : Nat) : Int)
    omega
  have W9 := fun w (h : w ∈ bsG) => C.1.2.2.2.2 w (C.2.2.1 w h)
  have ha0' := (xW_at (ρ := ρ) (cA := cA) (X := X) q0).trans ha0
  have ha1' := (xW_at (ρ := ρ) (cA := cA) (X := X) q1).trans ha1
  have hc0 : H[a0]? = some (vp_cell (cA 8) (n0, (.inr (.inr (.inr (.inr f)))))) := hP _ _ ha0'
  have hc1 : H[a]? = some (vp_cell (cA 8) (n1, (.inr (.inr (.inr (.inr g)))))) := hP _ _ ha1'
  obtain ⟨kA, k1, k2⟩ := C.2.2.2.1.2.2.2.2.2.2.2.1
  obtain ⟨-, kE, hkE, -⟩ := (C.2.1.2 0 _ rfl).1 0 (fun j => .int 0)
  have hsa : s.vm.assignable (cA 0) (cA 0) = true := by
    show s.vm.assignableAux (255 + 1) _ _ = true
    rw [Vm.assignableAux, Bool.or_eq_true, beq_iff_eq]
    exact Or.inl rfl
  have step0 : ∀ T : State, T.heap = H → Stand p l e R s m args below meth c T locs cells slots → ∃ t, Steps p.tables e below (T.setTop (F0 m pc ls (.int n :: .int dp :: .ref a :: .int sp :: .ref a0 :: st))) t ∧ Q t := by
    intro T hT X9
    obtain ⟨vm', X', step⟩ := X9.arraycopy C.1.1 C.1.2.2.2.1 (W9 _ hlink) (W9 _ ac_ok.1) (W9 _ ac_ok.2.1) (W9 _ ac_ok.2.2) (src := a0) (dst := a) (cs := vp_cell (cA 8) (n0, (.inr (.inr (.inr (.inr f)))))) (cd := vp_cell (cA 8) (n1, (.inr (.inr (.inr (.inr g)))))) (srcPos := sp) (destPos := dp) (n := n) (by rw [hT]; exact hc0) (by rw [hT]; exact hc1)
      (fun _ h => by cases h) (fun _ h => by cases h) (fun h => by cases h) (fun h => by cases h) k1 k1 k2 k2 rfl h1 h2 h3
      (by rw [nn sp h1, nn n h3]; show ¬ _ > ((arrV (cA 8) n0 (fun j => va_rf (f j))).slots.size : Int); rw [arrV_size]; have h4' : sp.toNatClampNeg + n.toNatClampNeg ≤ n0 := h4; omega)
      (by rw [nn dp h2, nn n h3]; show ¬ _ > ((arrV (cA 8) n1 (fun j => va_rf (g j))).slots.size : Int); rw [arrV_size]; have h5' : dp.toNatClampNeg + n.toNatClampNeg ≤ n1 := h5; omega)
      (fun vm₁ hal i hi => by
        have hi' : i < bsIx n := hi
        have e : (vp_cell (cA 8) (n0, (.inr (.inr (.inr (.inr f)))))).slots.getD (sp.toNatClampNeg + i) .null = va_rf (f (sp.toNatClampNeg + i)) := by
          show (arrV (cA 8) n0 (fun j => va_rf (f j))).slots.getD _ _ = _
          have h4' : sp.toNatClampNeg + n.toNatClampNeg ≤ n0 := h4
          have hi2 : i < n.toNatClampNeg := hi
          rw [Array.getD_eq_getD_getElem?, arrV_read _ _ (by omega)]
          rfl
        rw [e]
        cases hy : f (sp.toNatClampNeg + i) with
        | none => exact ⟨rfl, trivial⟩
        | some y =>
          obtain ⟨qk, nv, h9, hv⟩ := hel i hi' y hy
          have hcv : H[y]? = some (vp_cell (cA 0) (nv, .inl h9)) := hP _ _ ((xW_at qk).trans hv)
          obtain ⟨kE', hkE', -⟩ := hal.2.2 _ _ hkE
          refine ⟨rfl, vp_cell (cA 0) (nv, .inl h9), (show T.heap[y]? = some _ by rw [hT]; exact hcv), (fun q h => by cases h), ⟨kE', hkE'⟩, ⟨kE', hkE'⟩, ?_⟩
          show vm₁.assignable _ _ = true
          rw [hal.assignable]
          exact hsa)
      (g := F0 m pc ls (.int n :: .int dp :: .ref a :: .int sp :: .ref a0 :: st)) rfl (by rw [C.1.2.2.1]; exact hl.1) (rest := st) rfl (by rw [C.1.2.1]; exact hd) hfr (by show 2 * 0 + _ + _ ≤ _; omega)
    have e1 : copied (vp_cell (cA 8) (n0, (.inr (.inr (.inr (.inr f)))))) (vp_cell (cA 8) (n1, (.inr (.inr (.inr (.inr g)))))) sp dp n = vp_cell (cA 8) (n1, (.inr (.inr (.inr (.inr (va_cpy f g sp.toNatClampNeg dp.toNatClampNeg n.toNatClampNeg)))))) := by
      rw [vp_cell_q, vp_cell_q, vp_cell_q]
      exact va_copied (fun z => va_rf z) (cA 8) (cA 8) f g h4
    rw [e1] at X' step
    have hl9 : a < H.size := (Array.getElem?_eq_some_iff.mp hc1).1
    have hheap : ((T.setVm vm').setCell a (vp_cell (cA 8) (n1, (.inr (.inr (.inr (.inr (va_cpy f g sp.toNatClampNeg dp.toNatClampNeg n.toNatClampNeg)))))))).heap = H.setIfInBounds a (vp_cell (cA 8) (n1, (.inr (.inr (.inr (.inr (va_cpy f g sp.toNatClampNeg dp.toNatClampNeg n.toNatClampNeg))))))) := by rw [← hT]; rfl
    have oq : ∀ q : Nat, q ≠ a → (H.setIfInBounds a (vp_cell (cA 8) (n1, (.inr (.inr (.inr (.inr (va_cpy f g sp.toNatClampNeg dp.toNatClampNeg n.toNatClampNeg))))))))[q]? = H[q]? := fun q hq => by simp [Array.getElem?_setIfInBounds, Ne.symm hq]
    have hP1 := hP.set hD ha1' (e := .inl (cA 8, n1, (.inr (.inr (.inr (.inr (va_cpy f g sp.toNatClampNeg dp.toNatClampNeg n.toNatClampNeg))))))) (H1 := H.setIfInBounds a (vp_cell (cA 8) (n1, (.inr (.inr (.inr (.inr (va_cpy f g sp.toNatClampNeg dp.toNatClampNeg n.toNatClampNeg)))))))) (show (H.setIfInBounds a _)[a]? = some _ by simp [Array.getElem?_setIfInBounds, hl9]) oq
    have hD1 := hD.set (e := .inl (cA 8, n1, (.inr (.inr (.inr (.inr (va_cpy f g sp.toNatClampNeg dp.toNatClampNeg n.toNatClampNeg))))))) ha1'
    rw [xW_set, hR] at hP1 hD1
    obtain ⟨t, a1, b1⟩ := kk ls _ _ hl hP1 hD1 ⟨by simp; exact hS.1, fun q g1 g2 => by
        rw [oq q (fun e => g2 (by rw [e]; exact hD.2 _ _ ha1'))]
        exact hS.2.1 q g1 g2, fun q hq => by
        rcases List.mem_append.mp hq with h | h
        · exact hS.2.2 q h
        · obtain ⟨z, -, hz⟩ := List.mem_map.mp h
          rw [← hz]
          exact hD.2 _ _ ha1'⟩ _ hheap X'
    exact ⟨t, step t a1, b1⟩
  exact step0
theorem cl_ok : Cond.sameMethod "[I" "java/lang/Object" "clone" "()Ljava/lang/Object;" ∈ bsG ∧ Cond.native ⟨"java/lang/Object", "clone", "()Ljava/lang/Object;"⟩ ∈ bsG ∧ Cond.instanceMethod ⟨"java/lang/Object", "clone", "()Ljava/lang/Object;"⟩ ∈ bsG ∧ Cond.selects "[I" ⟨"[I", "clone", "()Ljava/lang/Object;"⟩ ⟨"java/lang/Object", "clone", "()Ljava/lang/Object;"⟩ ∈ bsG := by decide +kernel
theorem x_clone (C : xCx p m c cc nL s args Ts own ρ sc L xs cA dC dI A meth ret) {q0 a n index : Nat} {f : Nat → Int32} (hlink : Cond.methodLink own index ⟨"[I", "clone", "()Ljava/lang/Object;"⟩ ∈ bsG) (ha : Rz[q0]? = some (a, .inl (cA 0, n, .inl f))) (hfr : 1 ≤ R.frames) (hlo : (st.map fun v => v.category).sum + 14 ≤ R.locals) (hR : cells + 1 ≤ R.cells ∧ slots + n ≤ R.slots) (hd : decode cc pc = .ok (.invokevirtual index, 3)) (kk : ∀ q : Nat, xV p l e R s m args below meth c (cells + 1) (slots + n) Q ρ cA dC dI A (Rz ++ [(q, .inl (cA 0, n, .inl f))]) nL (pc + 3) lv (.ref q :: st) X) : xV p l e R s m args below meth c cells slots Q ρ cA dC dI A Rz nL pc lv (.ref a :: st) X := by
  intro ls H locs hl hP hD hS
  have W9 := fun w (h : w ∈ bsG) => C.1.2.2.2.2 w (C.2.2.1 w h)
  refine va_clone C.1.1 C.1.2.1 (C.1.2.2.1.trans hl.1.symm) C.1.2.2.2.1 (W9 _ hlink) (W9 _ cl_ok.1) (W9 _ cl_ok.2.1) (W9 _ cl_ok.2.2.1) (W9 _ cl_ok.2.2.2) C.2.2.2.1.2.2.2.2.2.2.2.2.1 C.2.1 hP hD hS C.2.2.2.2.2.2 (bsKeys.length + q0) 0 ((xW_at q0).trans ha) rfl (x_RA0 C) (fun i v hv => ?_) hfr hlo hR.1 hR.2 hd (fun q H1 hK hP hD hS => ?_)
  · have hs : (vp_cell (cA 0) (n, .inl f)).slots = (arrV (cA 0) n (fun j => .int (f j))).slots := rfl
    rw [hs] at hv
    have hi : i < n := by
      have := (Array.getElem?_eq_some_iff.mp hv).1
      rwa [arrV_size] at this
    rw [arrV_read _ _ hi] at hv
    cases hv
    rfl
  · rw [xW_app] at hP hD
    exact kk q ls H1 locs hl hP hD hS
theorem x_castI (C : xCx p m c cc nL s args Ts own ρ sc L xs cA dC dI A meth ret) {q0 a index : Nat} {x : vp_A} (hlink : Cond.classLink own index "[I" ∈ bsG) (ha : Rz[q0]? = some (a, .inl (cA 0, x))) (hd : decode cc pc = .ok (.checkcast index, 3)) (kk : xV p l e R s m args below meth c cells slots Q ρ cA dC dI A Rz nL (pc + 3) lv (.ref a :: st) X) : xV p l e R s m args below meth c cells slots Q ρ cA dC dI A Rz nL pc lv (.ref a :: st) X := by
  intro ls H locs hl hP hD hS
  exact va_castA C.1.1 C.1.2.1 C.1.2.2.2.1 (C.1.2.2.2.2 _ (C.2.2.1 _ hlink)) hP (bsKeys.length + q0) ((xW_at q0).trans ha) (x_RA0 C) hd (kk ls H locs hl hP hD hS)
/-- the keyed cells over again, some of them now out of T -/
theorem x_re {ks ks' : List (Nat × Nat)} {A0 A1 : Nat × Nat → Nat} {e0 e1 : Nat × Nat → va_E} {F T : va_W} (hR : Rz = ks.map (fun t => (A0 t, e0 t)) ++ (F ++ T)) (hR' : Rz' = ks'.map (fun t => (A1 t, e1 t)) ++ F) (hk : ks'.Nodup) (new : Nat × Nat → Prop)
    (h1 : ∀ t ∈ ks', (t ∈ ks ∧ A1 t = A0 t ∧ e1 t = e0 t) ∨ (new t ∧ (A1 t, e1 t) ∈ T)) (h2 : (T.map Prod.fst).Nodup → ∀ t ∈ ks', ∀ t' ∈ ks', new t → new t' → A1 t = A1 t' → t = t') (hks : ks.Nodup) (kk : xV p l e R s m args below meth c cells slots Q ρ cA dC dI A Rz' nL pc lv st X) : xV p l e R s m args below meth c cells slots Q ρ cA dC dI A Rz nL pc lv st X := by
  subst hR hR'
  refine x_mem (fun q hq => ?_) (fun hn => ?_) kk
  · rcases List.mem_append.mp hq with h | h
    · obtain ⟨t, ht, rfl⟩ := List.mem_map.mp h
      rcases h1 t ht with ⟨h3, h4, h5⟩ | ⟨-, h3⟩
      · exact List.mem_append_left _ (List.mem_map.mpr ⟨t, h3, by rw [h4, h5]⟩)
      · exact List.mem_append_right _ (List.mem_append_right _ h3)
    · exact List.mem_append_right _ (List.mem_append_left _ h)
  · rw [List.map_append, List.map_append, List.nodup_append, List.nodup_append] at hn
    obtain ⟨n1, ⟨n2, n3, n4⟩, n5⟩ := hn
    have hin0 : ∀ t ∈ ks, ∀ t' ∈ ks, A0 t = A0 t' → t = t' := by
      intro t ht t' ht' he
      obtain ⟨i, hi⟩ := List.getElem?_of_mem ht
      obtain ⟨j, hj⟩ := List.getElem?_of_mem ht'
      have hi' : ((ks.map (fun t => (A0 t, e0 t))).map Prod.fst)[i]? = some (A0 t) := by rw [List.getElem?_map, List.getElem?_map, hi]; rfl
      have hj' : ((ks.map (fun t => (A0 t, e0 t))).map Prod.fst)[j]? = some (A0 t') := by rw [List.getElem?_map, List.getElem?_map, hj]; rfl
      have : i = j := (List.getElem?_inj (List.getElem?_eq_some_iff.mp hi').1 n1).mp (by rw [hi', hj', he])
      subst this
      exact Option.some.inj (hi.symm.trans hj)
    have mA : ∀ t ∈ ks, A0 t ∈ (ks.map (fun t => (A0 t, e0 t))).map Prod.fst := fun t ht => List.mem_map.mpr ⟨(A0 t, e0 t), List.mem_map.mpr ⟨t, ht, rfl⟩, rfl⟩
    have mT : ∀ t, (A1 t, e1 t) ∈ T → A1 t ∈ T.map Prod.fst := fun t ht => List.mem_map.mpr ⟨_, ht, rfl⟩
    have inj : ∀ t ∈ ks', ∀ t' ∈ ks', A1 t = A1 t' → t = t' := by
      intro t ht t' ht' he
      rcases h1 t ht with ⟨a1, a2, -⟩ | ⟨a9, a1⟩ <;> rcases h1 t' ht' with ⟨b1, b2, -⟩ | ⟨b9, b1⟩
      · exact hin0 t a1 t' b1 (by rw [← a2, ← b2, he])
      · exact absurd (by rw [← a2, he] : A0 t = A1 t') (n5 _ (mA t a1) _ (List.mem_append_right _ (mT t' b1)))
      · exact absurd (by rw [← b2, he] : A0 t' = A1 t) (n5 _ (mA t' b1) _ (List.mem_append_right _ (mT t a1)))
      · exact h2 n3 t ht t' ht' a9 b9 he
    rw [List.map_append, List.nodup_append]
    refine ⟨?_, n2, ?_⟩
    · rw [List.map_map, List.nodup_iff_pairwise_ne, List.pairwise_map]
      exact List.Pairwise.imp_of_mem (fun ha hb hne he => hne (inj _ ha _ hb he)) (List.nodup_iff_pairwise_ne.mp hk)
    · intro x hx y hy
      obtain ⟨q, hq, rfl⟩ := List.mem_map.mp hx
      obtain ⟨t, ht, rfl⟩ := List.mem_map.mp hq
      rcases h1 t ht with ⟨a1, a2, -⟩ | ⟨-, a1⟩
      · show A1 t ≠ y
        rw [a2]
        exact n5 _ (mA t a1) y (List.mem_append_left _ hy)
      · exact fun he => n4 y hy _ (mT t a1) he.symm
end XA
