/-! rows for arrays of places -/
section XQ
variable {p : Program} {l : Launch} {e : Env} {R : Room} {s : State} {m : MethodId} {args : Array Value} {below : List Frame} {meth : Method} {c : Code} {cells slots : Nat} {Q : State → Prop} {ρ : bsR} {sc L : Nat} {xs : Nat → Int32} {cA : Nat → ClassId} {dC : Nat → ClassId} {dI : Nat → Nat → Nat} {A : Nat → Prop} {Rz Rz' : va_W} {nL : Nat} {cc : ByteArray} {Ts : List Cond} {own : String} {ret : Option FieldType} {pc : Nat} {lv : List (Nat × Value)} {st : List Value} {X : bsX} {mc ms : Nat}
theorem x_anewP (C : xCx p m c cc nL s args Ts own ρ sc L xs cA dC dI A meth ret) {index : Nat} {n : Int32} {N : Nat} (hcl : Cond.classLink own index "BootSlotsLaw$Place" ∈ bsG) (hn : ¬ n < 0) (hN : n.toNatClampNeg = N) (hby : N * 4 ≤ 536870912) (hR : cells + 1 ≤ R.cells ∧ slots + N ≤ R.slots) (hd : decode cc pc = .ok (.anewarray index, 3)) (kk : ∀ q : Nat, xVY p l e R s m args below meth c (cells + 1) (slots + N) Q ρ cA dC dI A (Rz ++ [(q, .inl (cA 7, N, (.inr (.inr (.inr (.inr (fun _ => none)))))))]) nL (pc + 3) lv (.ref q :: st) X) : xVY p l e R s m args below meth c cells slots Q ρ cA dC dI A Rz nL pc lv (.int n :: st) X := by
  intro ls H locs hl hP hD hS
  have W9 := fun w (h : w ∈ bsG) => C.1.2.2.2.2 w (C.2.2.1 w h)
  refine va_newq C.1.1 C.1.2.1 C.1.2.2.2.1 (W9 _ hcl) C.2.2.2.1.2.2.2.2.2.1 C.2.1 hP hD hS C.2.2.2.2.2.2 hn hN hby hR.1 hR.2 hd (fun q c1 H1 hK hP hD hS => ?_)
  have e1 : (bsTys cA ++ [(c1, .object "BootSlotsLaw$Place")])[9]? = some (c1, .object "BootSlotsLaw$Place") := rfl
  have e2 : c1 = cA 7 := by
    obtain ⟨_, _, -, -, -, z1⟩ := (hK.2 9 _ e1).2
    obtain ⟨_, _, -, -, -, z2⟩ := (C.2.1.2 7 _ rfl).2
    exact Option.some.inj (z1.symm.trans z2)
  subst e2
  rw [xW_appY] at hP hD
  exact kk q ls H1 locs hl hP hD hS
theorem x_astP (C : xCx p m c cc nL s args Ts own ρ sc L xs cA dC dI A meth ret) {q0 qk a n v : Nat} {i : Int32} {vs : List Value} {f : Nat → Option Nat} (ha : Rz[q0]? = some (a, .inl (cA 7, n, .inr (.inr (.inr (.inr f)))))) (hv : Rz[qk]? = some (v, .inr (12, vs))) (hin : bsIn i n) (hR : Rz.set q0 (a, .inl (cA 7, n, .inr (.inr (.inr (.inr (va_up f (bsIx i) (some v))))))) = Rz') (hd : decode cc pc = .ok (.aastore, 1)) (kk : xVY p l e R s m args below meth c cells slots Q ρ cA dC dI A Rz' nL (pc + 1) lv st X) : xVY p l e R s m args below meth c cells slots Q ρ cA dC dI A Rz nL pc lv (.ref v :: .int i :: .ref a :: st) X := by
  intro ls H locs hl hP hD hS
  refine va_astq C.1.1 C.1.2.1 C.2.1 hP hD hS (bsKeysY.length + q0) 7 (bsKeysY.length + qk) 12 ((xW_atY q0).trans ha) rfl ((xW_atY qk).trans hv) rfl (vp_in_iff.mpr hin) hd (fun H locs hP hD hS => ?_)
  rw [xW_setY, show i.toNatClampNeg = bsIx i from rfl, hR] at hP hD
  exact kk ls H locs hl hP hD hS
end XQ
