/-! A StringBuilder out of the written list, and in again -/
theorem xq_perm (B F P T2 S : va_W) : List.Perm ((B ++ (F ++ (P ++ S))) ++ T2) (B ++ (F ++ (P ++ (T2 ++ S)))) := by
  rw [List.append_assoc, List.append_assoc, List.append_assoc]
  exact ((List.perm_append_comm.append_left P).append_left F).append_left B
theorem x_out {p : Program} {l : Launch} {e : Env} {R : Room} {s : State} {m : MethodId} {args : Array Value} {below : List Frame} {meth : Method} {c : Code} {cells slots : Nat} {Q : State → Prop} {ρ : bsR} {cA : Nat → ClassId} {dC : Nat → ClassId} {dI : Nat → Nat → Nat} {A : Nat → Prop} {nL pc : Nat} {lv : List (Nat × Value)} {st : List Value} {X : bsX} {B F W : va_W} (P T2 S : va_W) (h : W = P ++ (T2 ++ S)) (kk : xV p l e R s m args below meth c cells slots Q ρ cA dC dI A ((B ++ (F ++ (P ++ S))) ++ T2) nL pc lv st X) : xV p l e R s m args below meth c cells slots Q ρ cA dC dI A (B ++ (F ++ W)) nL pc lv st X := by
  subst h
  exact x_perm (xq_perm B F P T2 S) kk
theorem x_in {p : Program} {l : Launch} {e : Env} {R : Room} {s : State} {m : MethodId} {args : Array Value} {below : List Frame} {meth : Method} {c : Code} {cells slots : Nat} {Q : State → Prop} {ρ : bsR} {cA : Nat → ClassId} {dC : Nat → ClassId} {dI : Nat → Nat → Nat} {A : Nat → Prop} {nL pc : Nat} {lv : List (Nat × Value)} {st : List Value} {X : bsX} {B F W : va_W} (P T2 S : va_W) (h : P ++ (T2 ++ S) = W) (kk : xV p l e R s m args below meth c cells slots Q ρ cA dC dI A (B ++ (F ++ W)) nL pc lv st X) : xV p l e R s m args below meth c cells slots Q ρ cA dC dI A ((B ++ (F ++ (P ++ S))) ++ T2) nL pc lv st X := by
  subst h
  exact x_perm (xq_perm B F P T2 S).symm kk
theorem jd_nat {x : Int32} (h : 0 ≤ x) : x = nI (bsIx x) := by
  have h1 := Int32.le_iff_toInt_le.mp h
  rw [Int32.toInt_zero] at h1
  apply Int32.toInt_inj.mp
  have h2 : (nI (bsIx x)).toInt = (bsIx x : Int) := by
    show (Int32.ofNat (bsIx x)).toInt = _
    rw [Int32.toInt_ofNat_of_lt (by show x.toInt.toNat < 2 ^ 31; have := x.toInt_lt; omega)]
  rw [h2]
  show x.toInt = ((x.toInt.toNat : Nat) : Int)
  omega
theorem jd_natlt (x : Int32) : bsIx x < 2 ^ 31 := by
  show x.toInt.toNat < 2 ^ 31
  have := x.toInt_lt
  omega
theorem wyJ4_append_cf468 : bsWy yJ4_append_cf468 cJ4_append_cf468 2 (some (.object "java/lang/StringBuilder")) := ⟨(bsG_in 648 (by decide +kernel) rfl), (bsG_in 649 (by decide +kernel) rfl), (bsG_in 41 (by decide +kernel) rfl), (bsG_in 650 (by decide +kernel) rfl), by decide +kernel, by decide +kernel⟩
theorem wyJ4_append_bf812 : bsWy yJ4_append_bf812 cJ4_append_bf812 2 (some (.object "java/lang/StringBuilder")) := ⟨(bsG_in 623 (by decide +kernel) rfl), (bsG_in 624 (by decide +kernel) rfl), (bsG_in 41 (by decide +kernel) rfl), (bsG_in 625 (by decide +kernel) rfl), by decide +kernel, by decide +kernel⟩
theorem wyJ4_length_8abf5 : bsWy yJ4_length_8abf5 cJ4_length_8abf5 1 (some .int) := ⟨(bsG_in 1472 (by decide +kernel) rfl), (bsG_in 1473 (by decide +kernel) rfl), (bsG_in 41 (by decide +kernel) rfl), (bsG_in 1474 (by decide +kernel) rfl), by decide +kernel, by decide +kernel⟩
theorem wyJ4_toString_0e30d : bsWy yJ4_toString_0e30d cJ4_toString_0e30d 1 (some (.object "java/lang/String")) := ⟨(bsG_in 1501 (by decide +kernel) rfl), (bsG_in 1502 (by decide +kernel) rfl), (bsG_in 41 (by decide +kernel) rfl), (bsG_in 1503 (by decide +kernel) rfl), by decide +kernel, by decide +kernel⟩
theorem dpJ4_toString_0e30d : (parseMethodDescriptor yJ4_toString_0e30d.desc).map (fun d => d.parameters.length) = some 0 := by decide +kernel
theorem dpJ4_append_cf468 : (parseMethodDescriptor yJ4_append_cf468.desc).map (fun d => d.parameters.length) = some 1 := by decide +kernel
theorem dpJ4_append_bf812 : (parseMethodDescriptor yJ4_append_bf812.desc).map (fun d => d.parameters.length) = some 1 := by decide +kernel
theorem dpJ4_length_8abf5 : (parseMethodDescriptor yJ4_length_8abf5.desc).map (fun d => d.parameters.length) = some 0 := by decide +kernel
theorem wiJ4_init_da8c8 : xWi yJ4_init_da8c8 cJ4_init_da8c8 1 := ⟨(bsG_in 1451 (by decide +kernel) rfl), (bsG_in 41 (by decide +kernel) rfl), (bsG_in 1452 (by decide +kernel) rfl), ⟨by decide +kernel, by decide +kernel⟩, rfl⟩
theorem dpJ4_init_da8c8 : (parseMethodDescriptor yJ4_init_da8c8.desc).map (fun d => d.parameters.length) = some 0 := by decide +kernel
theorem wiJ4_init_a7421 : xWi yJ4_init_a7421 cJ4_init_a7421 2 := ⟨(bsG_in 468 (by decide +kernel) rfl), (bsG_in 41 (by decide +kernel) rfl), (bsG_in 469 (by decide +kernel) rfl), ⟨by decide +kernel, by decide +kernel⟩, rfl⟩
theorem dpJ4_init_a7421 : (parseMethodDescriptor yJ4_init_a7421.desc).map (fun d => d.parameters.length) = some 1 := by decide +kernel
