/-! SMALL HELP for the walks over decompiled functions -/
theorem bs_if {α : Type} {c : Prop} [Decidable c] {a : Option α} {z : α} (h : (if c then a else none) = some z) : c ∧ a = some z := by
  by_cases hc : c
  · rw [if_pos hc] at h; exact ⟨hc, h⟩
  · rw [if_neg hc] at h; cases h
theorem bs_pos {α : Type} {c : Prop} [Decidable c] {a b : Option α} {z : α} (hc : c) (h : (if c then a else b) = some z) : a = some z := by rw [if_pos hc] at h; exact h
theorem bs_neg {α : Type} {c : Prop} [Decidable c] {a b : Option α} {z : α} (hc : ¬ c) (h : (if c then a else b) = some z) : b = some z := by rw [if_neg hc] at h; exact h
theorem bs_bind {α β : Type} {o : Option α} {k : α → Option β} {z : β} (h : o.bind k = some z) : ∃ a, o = some a ∧ k a = some z := by
  cases o with
  | none => cases h
  | some a => exact ⟨a, rfl, h⟩
def bsF : Nat := 2000
theorem bsIx_lt {i : Int32} {n : Nat} (h : bsIn i n) : bsIx i < n := by
  have h1 : vp_in i n := vp_in_iff.mpr h
  exact Nat.not_le.mp fun q => h1 (Or.inr q)
theorem bsIx_lt3 {i : Int32} (h : bsIn i 8) : 2 + bsIx i < 13 := by have := bsIx_lt h; omega
theorem bsIx_lt4 {i : Int32} (h : bsIn i 2) : 10 + bsIx i < 13 := by have := bsIx_lt h; omega
abbrev bsLc (x y : Int64) : Int32 := lg_cmp x y
def bsMax (x y : Int32) : Int32 := if x < y then y else x
def bsMin (x y : Int32) : Int32 := if y < x then y else x
section BSH
variable {p : Program} {l : Launch} {e : Env} {R : Room} {s : State} {m : MethodId} {args : Array Value} {below : List Frame} {meth : Method} {c : Code} {cells slots : Nat} {Q : State → Prop} {ρ : bsR} {cA : Nat → ClassId} {dC : Nat → ClassId} {dI : Nat → Nat → Nat} {Rz : va_W} {nL : Nat} {cc : ByteArray} {Ts : List Cond} {own : String} {ret : Option FieldType} {pc : Nat} {lv : List (Nat × Value)} {st : List Value} {X : bsX}
theorem v_lcmp (C : bsCx p m c cc nL s args Ts own ρ cA dC dI Rz meth ret) {x y : Int64} (hd : decode cc pc = .ok (.lcmp, 1)) (k : bsV p l e R s m args below meth c cells slots Q ρ cA dC dI Rz nL (pc + 1) lv (.int (bsLc x y) :: st) X) : bsV p l e R s m args below meth c cells slots Q ρ cA dC dI Rz nL pc lv (.long y :: .long x :: st) X := fun ls H locs hl hP hD hS => W.lcmp C.1.1 C.1.2.1 hd (k ls H locs hl hP hD hS)
theorem mm_max : Cond.static Lib.Math.max.name ∈ bsG ∧ Cond.initialized "java/lang/Math" ∈ bsG ∧ Cond.code Lib.Math.max.name Lib.Math.max.code 2 (some .int) ∈ bsG := by decide +kernel
theorem mm_min : Cond.static Lib.Math.min.name ∈ bsG ∧ Cond.initialized "java/lang/Math" ∈ bsG ∧ Cond.code Lib.Math.min.name Lib.Math.min.code 2 (some .int) ∈ bsG := by decide +kernel
theorem v_mmax (C : bsCx p m c cc nL s args Ts own ρ cA dC dI Rz meth ret) {x y : Int32} {index : Nat} (hf : 1 ≤ R.frames) (hlo : (st.map fun v => v.category).sum + 13 ≤ R.locals) (hc : cells ≤ R.cells) (hs : slots ≤ R.slots) (hlink : Cond.methodLink own index Lib.Math.max.name ∈ bsG) (hd : decode cc pc = .ok (.invokestatic index, 3)) (k : bsV p l e R s m args below meth c cells slots Q ρ cA dC dI Rz nL (pc + 3) lv (.int (bsMax x y) :: st) X) : bsV p l e R s m args below meth c cells slots Q ρ cA dC dI Rz nL pc lv (.int y :: .int x :: st) X := by
  intro ls H locs hl hP hD hS
  have W9 := fun w (h : w ∈ bsG) => C.1.2.2.2.2 w (C.2.2.1 w h)
  exact va_mmax C.1.1 C.1.2.1 (C.1.2.2.1.trans hl.1.symm) C.1.2.2.2.1 (W9 _ hlink) (W9 _ mm_max.1) (W9 _ mm_max.2.1) (W9 _ mm_max.2.2) hf hlo hc hs hd (k ls H locs hl hP hD hS)
theorem v_mmin (C : bsCx p m c cc nL s args Ts own ρ cA dC dI Rz meth ret) {x y : Int32} {index : Nat} (hf : 1 ≤ R.frames) (hlo : (st.map fun v => v.category).sum + 13 ≤ R.locals) (hc : cells ≤ R.cells) (hs : slots ≤ R.slots) (hlink : Cond.methodLink own index Lib.Math.min.name ∈ bsG) (hd : decode cc pc = .ok (.invokestatic index, 3)) (k : bsV p l e R s m args below meth c cells slots Q ρ cA dC dI Rz nL (pc + 3) lv (.int (bsMin x y) :: st) X) : bsV p l e R s m args below meth c cells slots Q ρ cA dC dI Rz nL pc lv (.int y :: .int x :: st) X := by
  intro ls H locs hl hP hD hS
  have W9 := fun w (h : w ∈ bsG) => C.1.2.2.2.2 w (C.2.2.1 w h)
  exact va_mmin C.1.1 C.1.2.1 (C.1.2.2.1.trans hl.1.symm) C.1.2.2.2.1 (W9 _ hlink) (W9 _ mm_min.1) (W9 _ mm_min.2.1) (W9 _ mm_min.2.2) hf hlo hc hs hd (k ls H locs hl hP hD hS)
end BSH
section BSI
variable {p : Program} {l : Launch} {e : Env} {R : Room} {s : State} {m : MethodId} {args : Array Value} {below : List Frame} {meth : Method} {c : Code} {cells slots : Nat} {Q : State → Prop} {ρ : bsR} {cA : Nat → ClassId} {dC : Nat → ClassId} {dI : Nat → Nat → Nat} {Rz : va_W} {nL : Nat} {cc : ByteArray} {Ts : List Cond} {own : String} {ret : Option FieldType} {pc : Nat} {lv : List (Nat × Value)} {st : List Value} {X : bsX}
theorem v_lconst (C : bsCx p m c cc nL s args Ts own ρ cA dC dI Rz meth ret) {n : Fin 2} {v : Int64} (hd : decode cc pc = .ok (.lconst n, 1)) (hv : Int64.ofNat (n : Nat) = v) (k : bsV p l e R s m args below meth c cells slots Q ρ cA dC dI Rz nL (pc + 1) lv (.long v :: st) X) : bsV p l e R s m args below meth c cells slots Q ρ cA dC dI Rz nL pc lv st X := fun ls H locs hl hP hD hS => lv_lconst C.1.1 C.1.2.1 hd hv (k ls H locs hl hP hD hS)
theorem v_ldc2 (C : bsCx p m c cc nL s args Ts own ρ cA dC dI Rz meth ret) {index : Nat} {v : Int64} (h : Cond.constantLong own index v ∈ bsG) (hd : decode cc pc = .ok (.ldc2_w index, 3)) (k : bsV p l e R s m args below meth c cells slots Q ρ cA dC dI Rz nL (pc + 3) lv (.long v :: st) X) : bsV p l e R s m args below meth c cells slots Q ρ cA dC dI Rz nL pc lv st X := fun ls H locs hl hP hD hS => lv_ldc2 C.1.1 C.1.2.1 C.1.2.2.2.1 (C.1.2.2.2.2 _ (C.2.2.1 _ h)) hd (k ls H locs hl hP hD hS)
theorem v_tabOut (C : bsCx p m c cc nL s args Ts own ρ cA dC dI Rz meth ret) {dflt lo hi : Int} {offs : Array Int} {len : Nat} {x : Int32} {tgt : Nat} (hd : decode cc pc = .ok (.tableswitch dflt lo hi offs, len)) (h : x.toInt < lo ∨ hi < x.toInt) (ht : (pc : Int) + dflt = (tgt : Int)) (k : bsV p l e R s m args below meth c cells slots Q ρ cA dC dI Rz nL tgt lv st X) : bsV p l e R s m args below meth c cells slots Q ρ cA dC dI Rz nL pc lv (.int x :: st) X := fun ls H locs hl hP hD hS => lv_tableOut C.1.1 C.1.2.1 hd h ht (k ls H locs hl hP hD hS)
theorem v_tabIn (C : bsCx p m c cc nL s args Ts own ρ cA dC dI Rz meth ret) {dflt lo hi : Int} {offs : Array Int} {len : Nat} {x : Int32} {off : Int} {tgt : Nat} (x0 : Int32) (hd : decode cc pc = .ok (.tableswitch dflt lo hi offs, len)) (hx : x = x0) (h1 : ¬ x0.toInt < lo) (h2 : ¬ hi < x0.toInt) (ho : offs[(x0.toInt - lo).toNat]? = some off) (ht : (pc : Int) + off = (tgt : Int)) (k : bsV p l e R s m args below meth c cells slots Q ρ cA dC dI Rz nL tgt lv st X) : bsV p l e R s m args below meth c cells slots Q ρ cA dC dI Rz nL pc lv (.int x :: st) X := by
  subst hx
  exact fun ls H locs hl hP hD hS => lv_tableIn C.1.1 C.1.2.1 hd h1 h2 ho ht (k ls H locs hl hP hD hS)
end BSI
theorem v_widen {p : Program} {l : Launch} {e : Env} {R : Room} {s : State} {m : MethodId} {args : Array Value} {below : List Frame} {meth : Method} {c : Code} {cells slots k n : Nat} {Q : State → Prop} {ρ : bsR} {cA : Nat → ClassId} {dC : Nat → ClassId} {dI : Nat → Nat → Nat} {Rz : va_W} {nL pc : Nat} {lv : List (Nat × Value)} {st : List Value} {X : bsX} (h1 : cells ≤ k) (h2 : slots ≤ n) (kk : bsV p l e R s m args below meth c k n Q ρ cA dC dI Rz nL pc lv st X) : bsV p l e R s m args below meth c cells slots Q ρ cA dC dI Rz nL pc lv st X := fun ls H locs hl hP hD hS => W.widen h1 h2 (kk ls H locs hl hP hD hS)
