/-! DRAWS; A PLACE EMPTIED; THE END OF A BOOT; AN IMAGE THAT COMES -/
theorem bsin_X9 : ∀ w ∈ u_ws RX9 TX9 2, w ∈ bsG := by decide +kernel
section X310a
variable {p : Program} {l : Launch} {e : Env} {R : Room} {s : State} {m : MethodId} {args : Array Value} {below : List Frame} {meth : Method} {c : Code} {cells slots : Nat} {Q : State → Prop} {ρ : bsR} {sc L : Nat} {xs : Nat → Int32} {cA : Nat → ClassId} {dC : Nat → ClassId} {dI : Nat → Nat → Nat} {A : Nat → Prop} {Rz Rz' : va_W} {nL : Nat} {cc : ByteArray} {Ts : List Cond} {own : String} {ret : Option FieldType} {pc : Nat} {lv : List (Nat × Value)} {st : List Value} {X : bsX}
theorem x_scl (C : xCx p m c cc nL s args Ts own ρ sc L xs cA dC dI A meth ret) (hd : decode cc pc = .ok (.arraylength, 1)) (kk : xV p l e R s m args below meth c cells slots Q ρ cA dC dI A Rz nL (pc + 1) lv (.int (nI L) :: st) X) : xV p l e R s m args below meth c cells slots Q ρ cA dC dI A Rz nL pc lv (.ref sc :: st) X := fun ls H locs hl hP hD hS => va_tlen C.1.1 C.1.2.1 C.2.2.2.1.2.2.1.1 hS rfl hd (kk ls H locs hl hP hD hS)
theorem x_scd (C : xCx p m c cc nL s args Ts own ρ sc L xs cA dC dI A meth ret) {i : Nat} (hi : i < L) (hb : i < 2147483648) (hd : decode cc pc = .ok (.iaload, 1)) (kk : xV p l e R s m args below meth c cells slots Q ρ cA dC dI A Rz nL (pc + 1) lv (.int (xs i) :: st) X) : xV p l e R s m args below meth c cells slots Q ρ cA dC dI A Rz nL pc lv (.int (nI i) :: .ref sc :: st) X := fun ls H locs hl hP hD hS => va_ti C.1.1 C.1.2.1 C.2.2.2.1.2.2.1.1 hS (vp_in_iff.mpr ((pu_in i L hb).mpr hi)) (by show Value.int (xs (bsIx (nI i))) = _; rw [pu_ix i hb]) hd (kk ls H locs hl hP hD hS)
end X310a
abbrev rmX9_next : Room := { frames := 0, cells := 0, slots := 0, locals := 0 }
theorem dN_le {a b : Nat} (ha : a < 1000000) (hb : b ≤ 260) : nI b ≤ nI a ↔ b ≤ a := pu_le b a (by omega) (by omega)
set_option maxHeartbeats 4000000 in
set_option maxRecDepth 100000 in
theorem qX9_next_28 {p : Program} {l : Launch} {e : Env} {s : State} {m : MethodId} {args : Array Value} {below : List Frame} {meth : Method} {c : Code} {ρ : bsR} {sc L : Nat} {xs : Nat → Int32} {cA : Nat → ClassId} {dC : Nat → ClassId} {dI : Nat → Nat → Nat} {A : Nat → Prop} {Ts : List Cond} {X : bsX} {Rz : va_W} {q0 δ at0 : Nat} {lo hi v : Int32} (C : xCx p m c cX9_next 4 s args Ts RX9 ρ sc L xs cA dC dI A meth (some .int)) (he : Rz[q0]? = some (δ, dCell sc at0)) (hne : ¬ hi - lo + 1 = 0) (hv : v = if at0 < L then xs at0 &&& (2147483647 : Int32) else 0) : xV p l e rmX9_next s m args below meth c 0 0 (MQ below (xQi ρ cA dC dI A (fun r X' R' => r = dVal xs L at0 lo hi ∧ X' = X ∧ R' = Rz.set q0 (δ, dCell sc (at0 + 1)))) args s 0 0 A) ρ cA dC dI A Rz 4 28 [(0, .ref δ), (1, .int lo), (2, .int hi)] [.int v] X := by
  refine x_istore_n (lv' := [(3, .int v), (0, .ref δ), (1, .int lo), (2, .int hi)]) C dX9_next_28 rfl (by decide) rfl ?_
  refine x_aload_n C dX9_next_29 rfl rfl ?_
  refine x_dup C dX9_next_30 rfl ?_
  refine x_get C (N := 2) (k := 1) (T := TX9) (Cn := RX9) (ref := "BootSlotsLaw$Draws") he rfl bsin_X9 (by decide) (bsG_in 444 (by decide +kernel) rfl) rfl rfl dX9_next_31 ?_
  refine x_iconst (v := 1) C dX9_next_34 (by decide) ?_
  refine x_iadd C dX9_next_35 ?_
  rw [show (nI at0 + (1 : Int32)) = nI (at0 + 1) from pu_succ at0]
  refine x_put C (N := 2) (k := 1) (T := TX9) (Cn := RX9) (ref := "BootSlotsLaw$Draws") (ty := .int) he rfl bsin_X9 tyX9 tyX9_ok nmX9 (by decide) (bsG_in 444 (by decide +kernel) rfl) rfl rfl rfl rfl rfl (Nat.le_of_ble_eq_true rfl) rfl dX9_next_36 ?_
  refine x_iload_n C dX9_next_39 rfl rfl ?_
  refine x_iload_n C dX9_next_40 rfl rfl ?_
  refine x_iload_n C dX9_next_41 rfl rfl ?_
  refine x_iload_n C dX9_next_42 rfl rfl ?_
  refine x_isub C dX9_next_43 ?_
  refine x_iconst (v := 1) C dX9_next_44 (by decide) ?_
  refine x_iadd C dX9_next_45 ?_
  refine x_irem C dX9_next_46 hne ?_
  refine x_iadd C dX9_next_47 ?_
  exact x_iret C ⟨by rw [hv]; rfl, rfl, rfl⟩ (Nat.le_refl _) (Nat.le_refl _) dX9_next_48
set_option maxHeartbeats 4000000 in
set_option maxRecDepth 100000 in
theorem cX9_next_ok {l : Launch} {ρ : bsR} {sc L : Nat} {xs : Nat → Int32} {cA : Nat → ClassId} {dC : Nat → ClassId} {dI : Nat → Nat → Nat} {X : bsX} {Rz : va_W} {q0 δ at0 : Nat} {lo hi : Int32} (he : Rz[q0]? = some (δ, dCell sc at0)) (hne : ¬ hi - lo + 1 = 0) (hat : at0 < 1000000) : xMi l yX9_next cX9_next 4 (some .int) rmX9_next ρ sc L xs cA dC dI [.ref δ, .int lo, .int hi] X Rz (fun r X' R' => r = dVal xs L at0 lo hi ∧ X' = X ∧ R' = Rz.set q0 (δ, dCell sc (at0 + 1))) := by
  refine xMi_of (by decide) (Nat.le_of_ble_eq_true rfl) (fun p e s m args below meth c C => ?_)
  have C : xCx p m c cX9_next 4 s args (Cond.code yX9_next cX9_next 4 (some .int) :: bsG) RX9 ρ sc L xs cA dC dI (bsA ρ cA Rz s.heap.size) meth (some .int) := C
  generalize (bsA ρ cA Rz s.heap.size) = A at C ⊢
  have hT := C.2.2.2.1.2.2.1
  refine x_sub [0, 1, 2] rfl ?_
  refine x_aload_n C dX9_next_0 rfl rfl ?_
  refine x_get C (N := 2) (k := 1) (T := TX9) (Cn := RX9) (ref := "BootSlotsLaw$Draws") he rfl bsin_X9 (by decide) (bsG_in 444 (by decide +kernel) rfl) rfl rfl dX9_next_1 ?_
  refine x_aload_n C dX9_next_4 rfl rfl ?_
  refine x_get C (N := 2) (k := 0) (T := TX9) (Cn := RX9) (ref := "BootSlotsLaw$Draws") he rfl bsin_X9 (by decide) (bsG_in 443 (by decide +kernel) rfl) rfl rfl dX9_next_5 ?_
  refine x_scl C dX9_next_8 ?_
  refine x_icmp_ge (tgt := 27) C dX9_next_9 (by decide) (fun h => ?_) (fun h => ?_)
  · refine x_iconst (v := 0) C dX9_next_27 (by decide) ?_
    exact qX9_next_28 C he hne (by rw [if_neg]; have := (dN_le hat hT.2).mp h; omega)
  · have hlt : at0 < L := by
      rcases Nat.lt_or_ge at0 L with z | z
      · exact z
      · exact absurd ((dN_le hat hT.2).mpr z) h
    refine x_aload_n C dX9_next_12 rfl rfl ?_
    refine x_get C (N := 2) (k := 0) (T := TX9) (Cn := RX9) (ref := "BootSlotsLaw$Draws") he rfl bsin_X9 (by decide) (bsG_in 443 (by decide +kernel) rfl) rfl rfl dX9_next_13 ?_
    refine x_aload_n C dX9_next_16 rfl rfl ?_
    refine x_get C (N := 2) (k := 1) (T := TX9) (Cn := RX9) (ref := "BootSlotsLaw$Draws") he rfl bsin_X9 (by decide) (bsG_in 444 (by decide +kernel) rfl) rfl rfl dX9_next_17 ?_
    refine x_scd (i := at0) C hlt (by omega) dX9_next_20 ?_
    refine x_ldc (v := 2147483647) C (bsG_in 454 (by decide +kernel) rfl) dX9_next_21 ?_
    refine x_iand C dX9_next_23 ?_
    refine x_goto (tgt := 28) C dX9_next_24 (by decide) ?_
    exact qX9_next_28 C he hne (by rw [if_pos hlt])
theorem dpX9_next : (parseMethodDescriptor yX9_next.desc).map (fun d => d.parameters.length) = some 2 := by decide +kernel
theorem wyX9_next : bsWy yX9_next cX9_next 4 (some .int) := ⟨bsG_in 451 (by decide +kernel) rfl, bsG_in 452 (by decide +kernel) rfl, bsG_in 38 (by decide +kernel) rfl, bsG_in 453 (by decide +kernel) rfl, by decide +kernel, by decide +kernel⟩
section X310
variable {p : Program} {l : Launch} {e : Env} {R : Room} {s : State} {m : MethodId} {args : Array Value} {below : List Frame} {meth : Method} {c : Code} {cells slots : Nat} {Q : State → Prop} {ρ : bsR} {sc L : Nat} {xs : Nat → Int32} {cA : Nat → ClassId} {dC : Nat → ClassId} {dI : Nat → Nat → Nat} {A : Nat → Prop} {Rz Rz' : va_W} {nL : Nat} {cc : ByteArray} {Ts : List Cond} {own : String} {ret : Option FieldType} {pc : Nat} {lv : List (Nat × Value)} {st : List Value} {X : bsX} {B F T T' : va_W}
theorem xu_next (C : xCx p m c cc nL s args Ts own ρ sc L xs cA dC dI A meth ret) {index : Nat} {As rest : List Value} {δ at0 : Nat} {lo hi : Int32} (k0 : Nat) (he : T[k0]? = some (δ, dCell sc at0)) (hT : T.set k0 (δ, dCell sc (at0 + 1)) = T') (hne : ¬ hi - lo + 1 = 0) (hat : at0 < 1000000) (hl0 : Cond.methodLink own index yX9_next ∈ bsG) (hAs : As = [.int lo, .int hi]) (hR : 1 ≤ R.frames ∧ 23 ≤ R.locals) (hcs : cells ≤ R.cells ∧ slots ≤ R.slots) (hst : st = As.reverse ++ .ref δ :: rest) (hW : (rest.map fun v => v.category).sum ≤ 8) (hd : decode cc pc = .ok (.invokevirtual index, 3)) (kk : xV p l e R s m args below meth c cells slots Q ρ cA dC dI A (B ++ (F ++ T')) nL (pc + 3) lv (.int (dVal xs L at0 lo hi) :: rest) X) : xV p l e R s m args below meth c cells slots Q ρ cA dC dI A (B ++ (F ++ T)) nL pc lv st X := by
  subst hAs
  refine x_callVi (y := yX9_next) (As := [.int lo, .int hi]) (rest := rest) C (cX9_next_ok ((xu_at B F T k0).trans he) hne hat) hl0 wyX9_next ((xu_at B F T k0).trans he) rfl dpX9_next hR hcs hst hW hd (fun r X' R' hp => ?_)
  obtain ⟨rfl, rfl, rfl⟩ := hp
  rw [xu_set, hT]
  exact kk
end X310
def zEmp (j : Nat) (Z : pY) : pY := wr (wr (wr (wr (wr (wr (wr (wr (wr Z 6 j 1 (-1)) 6 j 2 0) 6 j 3 0) 6 j 4 0) 6 j 5 0) 5 j 2 0) 5 j 3 0) 5 j 5 0) 5 j 4 0
/-- a new image put in place j: the array at a takes the key (6, j) -/
theorem x_newImg {p : Program} {l : Launch} {e : Env} {R : Room} {s : State} {m : MethodId} {args : Array Value} {below : List Frame} {meth : Method} {c : Code} {cells slots : Nat} {Q : State → Prop} {ρ : bsR} {cA : Nat → ClassId} {dC : Nat → ClassId} {dI : Nat → Nat → Nat} {A : Nat → Prop} {nL pc : Nat} {lv : List (Nat × Value)} {st : List Value} {X : bsX} {σ θ : xA2} {Z Z' : pY} {F : va_W} {j a q0 : Nat} {f : Nat → Int32} (hj : j < ln Z) (hq : (lwK (ln Z) (lm Z))[q0]? = some (5, j)) (h1 : ln Z' = ln Z) (h2 : lm Z' = lm Z) (hf : (fun i => Z' 6 j (i + 1)) = f) (hs : ∀ K k i, ¬ (K = 6 ∧ k = j) → Z' K k i = Z K k i)
    (kk : ∀ θ' : xA2, xV p l e R s m args below meth c cells slots Q ρ cA dC dI A (lwWs σ θ' cA Z' ++ F) nL pc lv st X) : xV p l e R s m args below meth c cells slots Q ρ cA dC dI A ((lwWs σ θ cA Z).set q0 (σ 5 j, .inr (12, (lwF5 θ Z j).set 0 (.ref a))) ++ (F ++ [(a, .inl (cA 0, 5, .inl f))])) nL pc lv st X := by
  have hlen : q0 < (lwK (ln Z) (lm Z)).length := (List.getElem?_eq_some_iff.mp hq).1
  refine x_re (ks := lwK (ln Z) (lm Z)) (ks' := lwK (ln Z) (lm Z)) (A0 := fun t => lwA σ θ t.1 t.2) (A1 := fun t => lwA σ (fun K k => if K = 6 ∧ k = j then a else θ K k) t.1 t.2)
    (e0 := fun t => if t = (5, j) then .inr (12, (lwF5 θ Z j).set 0 (.ref a)) else lwC σ θ cA Z t.1 t.2) (e1 := fun t => lwC σ (fun K k => if K = 6 ∧ k = j then a else θ K k) cA Z' t.1 t.2) (F := F) (T := [(a, .inl (cA 0, 5, .inl f))]) (Rz' := lwWs σ (fun K k => if K = 6 ∧ k = j then a else θ K k) cA Z' ++ F) ?_ (by unfold lwWs; rw [h1, h2]) (lwK_nd _ _) (fun t => t = (6, j)) ?_ (fun _ t _ t' _ e e' _ => e.trans e'.symm) (lwK_nd _ _) (kk _)
  · congr 1
    refine List.ext_getElem? fun n => ?_
    rw [List.getElem?_set]
    by_cases hn : q0 = n
    · subst hn
      rw [if_pos rfl, if_pos (by simpa [lwWs] using hlen), List.getElem?_map, hq]
      simp [lwA]
    · rw [if_neg hn, lwWs, List.getElem?_map, List.getElem?_map]
      cases ht : (lwK (ln Z) (lm Z))[n]? with
      | none => rfl
      | some t =>
        have hne : t ≠ (5, j) := fun e => hn (by
          subst e
          exact (List.getElem?_inj hlen (lwK_nd _ _)).mp (by rw [hq, ht]))
        simp only [Option.map_some, if_neg hne]
  · rintro ⟨K, k⟩ ht
    by_cases h6 : K = 6 ∧ k = j
    · obtain ⟨rfl, rfl⟩ := h6
      refine Or.inr ⟨rfl, ?_⟩
      have e1 : (fun i => Z' 6 k (i + 1)) = f := hf
      simp [lwA, lwC, e1]
    · refine Or.inl ⟨ht, ?_, ?_⟩
      · have hm := lwK_mem.mp ht
        rcases hm with ⟨h, rfl⟩ | ⟨rfl, h⟩ | ⟨rfl, h⟩ | ⟨rfl, h⟩
        · have : K = 0 ∨ K = 1 ∨ K = 2 ∨ K = 3 ∨ K = 4 := by omega
          rcases this with rfl | rfl | rfl | rfl | rfl <;> simp [lwA]
        · simp [lwA]
        · have hk : ¬ k = j := fun e => h6 ⟨rfl, e⟩
          simp [lwA, hk]
        · simp [lwA]
      · have hz : ∀ K k i, K ≠ 6 → Z' K k i = Z K k i := fun K k i h => hs K k i (fun e => h e.1)
        have hm := lwK_mem.mp ht
        rcases hm with ⟨h, rfl⟩ | ⟨rfl, h⟩ | ⟨rfl, h⟩ | ⟨rfl, h⟩
        · have : K = 0 ∨ K = 1 ∨ K = 2 ∨ K = 3 ∨ K = 4 := by omega
          rcases this with rfl | rfl | rfl | rfl | rfl
          · rw [if_neg (fun e => absurd (Prod.mk.inj e).1 (by decide))]
            simp only [lwC, lwF0]
            simp [hz]
          · rw [if_neg (fun e => absurd (Prod.mk.inj e).1 (by decide))]
            have e1 : (fun i => Z' 11 0 i) = fun i => Z 11 0 i := funext fun i => hz 11 0 i (by decide)
            simp only [lwC, e1]
          · rw [if_neg (fun e => absurd (Prod.mk.inj e).1 (by decide))]
            simp only [lwC, h1]
          · rw [if_neg (fun e => absurd (Prod.mk.inj e).1 (by decide))]
            simp [lwC, h2]
          · rw [if_neg (fun e => absurd (Prod.mk.inj e).1 (by decide))]
            have e1 : (fun i => Z' 13 0 (i + 1)) = fun i => Z 13 0 (i + 1) := funext fun i => hz 13 0 (i + 1) (by decide)
            simp only [lwC, e1]
        · by_cases hk : k = j
          · subst hk
            rw [if_pos rfl]
            simp [lwC, lwF5, hz]
          · rw [if_neg (fun e => hk (Prod.mk.inj e).2)]
            simp [lwC, lwF5, hz, hk]
        · have hk : ¬ k = j := fun e => h6 ⟨rfl, e⟩
          rw [if_neg (fun e => absurd (Prod.mk.inj e).1 (by decide))]
          have e1 : (fun i => Z' 6 k (i + 1)) = fun i => Z 6 k (i + 1) := funext fun i => hs 6 k (i + 1) (fun e => hk e.2)
          simp only [lwC, e1]
        · rw [if_neg (fun e => absurd (Prod.mk.inj e).1 (by decide))]
          have e1 : (fun i => Z' 12 k i) = fun i => Z 12 k i := funext fun i => hz 12 k i (by decide)
          simp only [lwC, e1]
abbrev rmX10_empties : Room := { frames := 0, cells := 1, slots := 5, locals := 0 }
theorem zEmp_img {Z : pY} {j i : Nat} (hi : i < 5) : (upd (upd (upd (upd (upd (fun _ => (0 : Int32)) 0 (-1)) 1 0) 2 0) 3 0) 4 0) i = (wr (wr (wr (wr (wr Z 6 j 1 (-1)) 6 j 2 0) 6 j 3 0) 6 j 4 0) 6 j 5 0) 6 j (i + 1) := by
  have : i = 0 ∨ i = 1 ∨ i = 2 ∨ i = 3 ∨ i = 4 := by omega
  rcases this with rfl | rfl | rfl | rfl | rfl <;> simp [wr, upd]
set_option maxHeartbeats 4000000 in
set_option maxRecDepth 100000 in
theorem cX10_empties_ok {l : Launch} {ρ : bsR} {sc L : Nat} {xs : Nat → Int32} {cA : Nat → ClassId} {dC : Nat → ClassId} {dI : Nat → Nat → Nat} {σ θ : xA2} {F : va_W} {j : Nat} {X : bsX} {Z : pY} (hj : j < ln Z) : xMv l yX10_empties cX10_empties 1 none rmX10_empties ρ sc L xs cA dC dI [.ref (σ 5 j)] X (lwWs σ θ cA Z ++ F) (fun X' R' => X' = X ∧ ∃ θ' : xA2, R' = lwWs σ θ' cA (zEmp j Z) ++ F) := by
  refine xMv_of (by decide) (Nat.le_of_ble_eq_true rfl) (fun p e s m args below meth c C => ?_)
  have C : xCx p m c cX10_empties 1 s args (Cond.code yX10_empties cX10_empties 1 none :: bsG) RX10 ρ sc L xs cA dC dI (bsA ρ cA (lwWs σ θ cA Z ++ F) s.heap.size) meth none := C
  generalize (bsA ρ cA (lwWs σ θ cA Z ++ F) s.heap.size) = A at C ⊢
  refine x_sub [0] rfl ?_
  refine x_aload_n C dX10_empties_0 rfl rfl ?_
  refine x_iconst (v := 5) C dX10_empties_1 (by decide) ?_
  refine xu_none ?_
  refine xu_newi (c1 := 1) (s1 := 5) (N := 5) C (by decide) (by decide) (by decide) ⟨Nat.le_refl _, Nat.le_refl _⟩ (by omega) (by omega) dX10_empties_2 (fun a => ?_)
  refine x_dup C dX10_empties_4 rfl ?_
  refine x_iconst (v := 0) C dX10_empties_5 (by decide) ?_
  refine x_iconst (v := -1) C dX10_empties_6 (by decide) ?_
  refine xu_st (T' := [(a, .inl (cA 0, 5, .inl (upd (fun _ => (0 : Int32)) 0 (-1))))]) C 0 rfl (by decide) rfl dX10_empties_7 ?_
  refine x_dup C dX10_empties_8 rfl ?_
  refine x_iconst (v := 1) C dX10_empties_9 (by decide) ?_
  refine x_iconst (v := 0) C dX10_empties_10 (by decide) ?_
  refine xu_st (T' := [(a, .inl (cA 0, 5, .inl (upd (upd (fun _ => (0 : Int32)) 0 (-1)) 1 0)))]) C 0 rfl (by decide) rfl dX10_empties_11 ?_
  refine x_dup C dX10_empties_12 rfl ?_
  refine x_iconst (v := 2) C dX10_empties_13 (by decide) ?_
  refine x_iconst (v := 0) C dX10_empties_14 (by decide) ?_
  refine xu_st (T' := [(a, .inl (cA 0, 5, .inl (upd (upd (upd (fun _ => (0 : Int32)) 0 (-1)) 1 0) 2 0)))]) C 0 rfl (by decide) rfl dX10_empties_15 ?_
  refine x_dup C dX10_empties_16 rfl ?_
  refine x_iconst (v := 3) C dX10_empties_17 (by decide) ?_
  refine x_iconst (v := 0) C dX10_empties_18 (by decide) ?_
  refine xu_st (T' := [(a, .inl (cA 0, 5, .inl (upd (upd (upd (upd (fun _ => (0 : Int32)) 0 (-1)) 1 0) 2 0) 3 0)))]) C 0 rfl (by decide) rfl dX10_empties_19 ?_
  refine x_dup C dX10_empties_20 rfl ?_
  refine x_iconst (v := 4) C dX10_empties_21 (by decide) ?_
  refine x_iconst (v := 0) C dX10_empties_22 (by decide) ?_
  refine xu_st (T' := [(a, .inl (cA 0, 5, .inl (upd (upd (upd (upd (upd (fun _ => (0 : Int32)) 0 (-1)) 1 0) 2 0) 3 0) 4 0)))]) C 0 rfl (by decide) rfl dX10_empties_23 ?_
  refine xu_same (T' := [(a, .inl (cA 0, 5, .inl (fun i => (wr (wr (wr (wr (wr Z 6 j 1 (-1)) 6 j 2 0) 6 j 3 0) 6 j 4 0) 6 j 5 0) 6 j (i + 1))))]) 0 rfl (cell_I (fun i hi => zEmp_img hi)) rfl ?_
  obtain ⟨q0, hq, he⟩ := lw_at (σ := σ) (θ := θ) (cA := cA) (Z := Z) (K := 5) (j := j) (lwK_mem.mpr (Or.inr (Or.inl ⟨rfl, hj⟩))) (F ++ [(a, .inl (cA 0, 5, .inl (fun i => (wr (wr (wr (wr (wr Z 6 j 1 (-1)) 6 j 2 0) 6 j 3 0) 6 j 4 0) 6 j 5 0) 6 j (i + 1))))])
  refine x_put C (N := 8) (k := 0) (T := TX10) (Cn := RX10) (ref := "BootSlotsLaw$Place") (fs := lwF5 θ Z j) (ty := .array .int) he rfl bsin_X10 tyX10 tyX10_ok nmX10 (by decide) (bsG_in 676 (by decide +kernel) rfl) rfl rfl rfl rfl rfl (Nat.le_of_ble_eq_true rfl) (show _ = (lwWs σ θ cA Z).set q0 (σ 5 j, .inr (12, (lwF5 θ Z j).set 0 (.ref a))) ++ (F ++ [(a, .inl (cA 0, 5, .inl (fun i => (wr (wr (wr (wr (wr Z 6 j 1 (-1)) 6 j 2 0) 6 j 3 0) 6 j 4 0) 6 j 5 0) 6 j (i + 1))))]) from by rw [List.set_append, if_pos (by have := (List.getElem?_eq_some_iff.mp hq).1; simpa [lwWs] using this)]) dX10_empties_24 ?_
  refine x_newImg (Z' := (wr (wr (wr (wr (wr Z 6 j 1 (-1)) 6 j 2 0) 6 j 3 0) 6 j 4 0) 6 j 5 0)) hj hq ?_ ?_ rfl ?_ (fun θ' => ?_)
  · unfold ln; rw [wr_no (by omega), wr_no (by omega), wr_no (by omega), wr_no (by omega), wr_no (by omega)]
  · unfold lm; rw [wr_no (by omega), wr_no (by omega), wr_no (by omega), wr_no (by omega), wr_no (by omega)]
  · intro K k i h; rw [wr_no (by omega), wr_no (by omega), wr_no (by omega), wr_no (by omega), wr_no (by omega)]
  refine x_aload_n C dX10_empties_27 rfl rfl ?_
  refine x_iconst (v := 0) C dX10_empties_28 (by decide) ?_
  refine xp_X10_19 C (ln_lt (ln_lt (ln_lt (ln_lt (ln_lt hj (by omega)) (by omega)) (by omega)) (by omega)) (by omega)) dX10_empties_29 ?_
  refine x_aload_n C dX10_empties_32 rfl rfl ?_
  refine x_iconst (v := 0) C dX10_empties_33 (by decide) ?_
  refine xp_X10_23 C (ln_lt (ln_lt (ln_lt (ln_lt (ln_lt (ln_lt hj (by omega)) (by omega)) (by omega)) (by omega)) (by omega)) (by omega)) dX10_empties_34 ?_
  refine x_aload_n C dX10_empties_37 rfl rfl ?_
  refine x_iconst (v := 0) C dX10_empties_38 (by decide) ?_
  refine xp_X10_26 C (ln_lt (ln_lt (ln_lt (ln_lt (ln_lt (ln_lt (ln_lt hj (by omega)) (by omega)) (by omega)) (by omega)) (by omega)) (by omega)) (by omega)) dX10_empties_39 ?_
  refine x_aload_n C dX10_empties_42 rfl rfl ?_
  refine x_iconst (v := 0) C dX10_empties_43 (by decide) ?_
  refine xp_X10_38 C (ln_lt (ln_lt (ln_lt (ln_lt (ln_lt (ln_lt (ln_lt (ln_lt hj (by omega)) (by omega)) (by omega)) (by omega)) (by omega)) (by omega)) (by omega)) (by omega)) (by decide) dX10_empties_44 ?_
  exact x_vret C ⟨rfl, θ', rfl⟩ (Nat.le_refl _) (Nat.le_refl _) dX10_empties_47
theorem zEmp_no {Z : pY} {j K k i : Nat} (h1 : ¬ (K = 6 ∧ k = j)) (h2 : ¬ (K = 5 ∧ k = j)) : zEmp j Z K k i = Z K k i := by
  unfold zEmp
  rw [wr_no (fun h => h2 ⟨h.1, h.2.1⟩), wr_no (fun h => h2 ⟨h.1, h.2.1⟩), wr_no (fun h => h2 ⟨h.1, h.2.1⟩), wr_no (fun h => h2 ⟨h.1, h.2.1⟩), wr_no (fun h => h1 ⟨h.1, h.2.1⟩), wr_no (fun h => h1 ⟨h.1, h.2.1⟩), wr_no (fun h => h1 ⟨h.1, h.2.1⟩), wr_no (fun h => h1 ⟨h.1, h.2.1⟩), wr_no (fun h => h1 ⟨h.1, h.2.1⟩)]
theorem zEmp_ln {Z : pY} {j : Nat} : ln (zEmp j Z) = ln Z := by unfold ln; rw [zEmp_no (by omega) (by omega)]
theorem zEmp_lm {Z : pY} {j : Nat} : lm (zEmp j Z) = lm Z := by unfold lm; rw [zEmp_no (by omega) (by omega)]
theorem zEmp_lt {Z : pY} {j k : Nat} (h : k < ln Z) : k < ln (zEmp j Z) := by rw [zEmp_ln]; exact h
def zImg (j : Nat) (Z : pY) : pY := wr (wr (wr (wr (wr Z 6 j 1 (Z 13 0 1)) 6 j 2 (Z 13 0 2)) 6 j 3 (Z 13 0 3)) 6 j 4 (Z 13 0 4)) 6 j 5 (Z 13 0 5)
theorem zImg_img {Z : pY} {j i : Nat} (hi : i < 5) : Z 13 0 (i + 1) = zImg j Z 6 j (i + 1) := by
  have : i = 0 ∨ i = 1 ∨ i = 2 ∨ i = 3 ∨ i = 4 := by omega
  rcases this with rfl | rfl | rfl | rfl | rfl <;> simp [zImg, wr]
theorem zImg_no {Z : pY} {j K k i : Nat} (h1 : ¬ (K = 6 ∧ k = j)) : zImg j Z K k i = Z K k i := by
  unfold zImg
  rw [wr_no (fun h => h1 ⟨h.1, h.2.1⟩), wr_no (fun h => h1 ⟨h.1, h.2.1⟩), wr_no (fun h => h1 ⟨h.1, h.2.1⟩), wr_no (fun h => h1 ⟨h.1, h.2.1⟩), wr_no (fun h => h1 ⟨h.1, h.2.1⟩)]
theorem zImg_ln {Z : pY} {j : Nat} : ln (zImg j Z) = ln Z := by unfold ln; rw [zImg_no (by omega)]
theorem zImg_lm {Z : pY} {j : Nat} : lm (zImg j Z) = lm Z := by unfold lm; rw [zImg_no (by omega)]
theorem zImg_lt {Z : pY} {j k : Nat} (h : k < ln Z) : k < ln (zImg j Z) := by rw [zImg_ln]; exact h
theorem dpX10_empties : (parseMethodDescriptor yX10_empties.desc).map (fun d => d.parameters.length) = some 0 := by decide +kernel
theorem wyX10_empties : bsWy yX10_empties cX10_empties 1 none := ⟨bsG_in 1353 (by decide +kernel) rfl, bsG_in 1354 (by decide +kernel) rfl, bsG_in 51 (by decide +kernel) rfl, bsG_in 1355 (by decide +kernel) rfl, by decide +kernel, by decide +kernel⟩
def zLog (cz gv r : Int32) (Z : pY) : pY := wr (wr (wr (wr (wr Z 12 (lm Z) 0 (Z 0 0 9)) 12 (lm Z) 1 cz) 12 (lm Z) 2 gv) 12 (lm Z) 3 r) 14 0 0 (nI (lm Z + 1))
theorem zLog_no {cz gv r : Int32} {Z : pY} {K j i : Nat} (h1 : ¬ (K = 12 ∧ j = lm Z)) (h2 : ¬ (K = 14 ∧ j = 0 ∧ i = 0)) : zLog cz gv r Z K j i = Z K j i := by
  unfold zLog
  rw [wr_no (fun h => h2 h), wr_no (fun h => h1 ⟨h.1, h.2.1⟩), wr_no (fun h => h1 ⟨h.1, h.2.1⟩), wr_no (fun h => h1 ⟨h.1, h.2.1⟩), wr_no (fun h => h1 ⟨h.1, h.2.1⟩)]
theorem zLog_ln {cz gv r : Int32} {Z : pY} : ln (zLog cz gv r Z) = ln Z := by unfold ln; rw [zLog_no (by omega) (by omega)]
theorem zLog_lm {cz gv r : Int32} {Z : pY} (h : lm Z < 1000000) : lm (zLog cz gv r Z) = lm Z + 1 := by
  have e : zLog cz gv r Z 14 0 0 = nI (lm Z + 1) := by simp [zLog, wr]
  show bsIx (zLog cz gv r Z 14 0 0) = _
  rw [e, pu_ix _ (by omega)]
theorem zLog_row {cz gv r : Int32} {Z : pY} {i : Nat} (hi : i < 4) : (upd (upd (upd (upd (fun _ => (0 : Int32)) 0 (Z 0 0 9)) 1 cz) 2 gv) 3 r) i = zLog cz gv r Z 12 (lm Z) i := by
  have : i = 0 ∨ i = 1 ∨ i = 2 ∨ i = 3 := by omega
  rcases this with rfl | rfl | rfl | rfl <;> simp [zLog, wr, upd]
/-- the addresses behind a boot -/
def thLog (θ : xA2) (m a b : Nat) : xA2 := fun K k => if K = 3 then a else if K = 7 ∧ k = m then b else θ K k
theorem thLog_arr {θ : xA2} {m a b : Nat} {i : Nat} (hi : i < m + 1) : va_up (va_cpy (fun i => some (θ 7 i)) (fun _ => none) 0 0 m) m (some b) i = some (thLog θ m a b 7 i) := by
  by_cases h : i = m
  · subst h
    rw [va_up_self]
    simp [thLog]
  · rw [va_up_ne _ _ h, pk_cpy_in (by omega) (by omega)]
    simp [thLog, h]
theorem x_log {p : Program} {l : Launch} {e : Env} {R : Room} {s : State} {m : MethodId} {args : Array Value} {below : List Frame} {meth : Method} {c : Code} {cells slots : Nat} {Q : State → Prop} {ρ : bsR} {cA : Nat → ClassId} {dC : Nat → ClassId} {dI : Nat → Nat → Nat} {A : Nat → Prop} {nL pc : Nat} {lv : List (Nat × Value)} {st : List Value} {X : bsX} {σ θ : xA2} {Z : pY} {F : va_W} {a b q0 : Nat} {cz gv r : Int32} (hm : lm Z < 1000000) (hq : (lwK (ln Z) (lm Z))[q0]? = some (0, 0))
    (kk : ∀ θ' : xA2, xV p l e R s m args below meth c cells slots Q ρ cA dC dI A (lwWs σ θ' cA (zLog cz gv r Z) ++ F) nL pc lv st X) : xV p l e R s m args below meth c cells slots Q ρ cA dC dI A ((lwWs σ θ cA Z).set q0 (σ 0 0, .inr (13, (lwF0 σ θ Z).set 14 (.ref a))) ++ (F ++ [(a, .inl (cA 8, lm Z + 1, (.inr (.inr (.inr (.inr (fun i => some (thLog θ (lm Z) a b 7 i)))))))), (b, .inl (cA 0, 4, .inl (fun i => zLog cz gv r Z 12 (lm Z) i)))])) nL pc lv st X := by
  have hlen : q0 < (lwK (ln Z) (lm Z)).length := (List.getElem?_eq_some_iff.mp hq).1
  refine x_re (ks := lwK (ln Z) (lm Z)) (ks' := lwK (ln Z) (lm Z + 1)) (A0 := fun t => lwA σ θ t.1 t.2) (A1 := fun t => lwA σ (thLog θ (lm Z) a b) t.1 t.2)
    (e0 := fun t => if t = (0, 0) then .inr (13, (lwF0 σ θ Z).set 14 (.ref a)) else lwC σ θ cA Z t.1 t.2) (e1 := fun t => lwC σ (thLog θ (lm Z) a b) cA (zLog cz gv r Z) t.1 t.2) (F := F) (T := [(a, .inl (cA 8, lm Z + 1, (.inr (.inr (.inr (.inr (fun i => some (thLog θ (lm Z) a b 7 i)))))))), (b, .inl (cA 0, 4, .inl (fun i => zLog cz gv r Z 12 (lm Z) i)))]) (Rz' := lwWs σ (thLog θ (lm Z) a b) cA (zLog cz gv r Z) ++ F) ?_ (by unfold lwWs; rw [zLog_ln, zLog_lm hm]) (lwK_nd _ _) (fun t => t = (3, 0) ∨ t = (7, lm Z)) ?_ ?_ (lwK_nd _ _) (kk _)
  · congr 1
    refine List.ext_getElem? fun n => ?_
    rw [List.getElem?_set]
    by_cases hn : q0 = n
    · subst hn
      rw [if_pos rfl, if_pos (by simpa [lwWs] using hlen), List.getElem?_map, hq]
      simp [lwA]
    · rw [if_neg hn, lwWs, List.getElem?_map, List.getElem?_map]
      cases ht : (lwK (ln Z) (lm Z))[n]? with
      | none => rfl
      | some t =>
        have hne : t ≠ (0, 0) := fun e => hn (by
          subst e
          exact (List.getElem?_inj hlen (lwK_nd _ _)).mp (by rw [hq, ht]))
        simp only [Option.map_some, if_neg hne]
  · rintro ⟨K, k⟩ ht
    have hz : ∀ K k i, ¬ K = 12 → ¬ K = 14 → zLog cz gv r Z K k i = Z K k i := fun K k i h h2 => zLog_no (fun e => h e.1) (fun e => h2 e.1)
    have hlm := zLog_lm (cz := cz) (gv := gv) (r := r) hm
    have hm' := lwK_mem.mp ht
    rcases hm' with ⟨h, rfl⟩ | ⟨rfl, h⟩ | ⟨rfl, h⟩ | ⟨rfl, h⟩
    · have : K = 0 ∨ K = 1 ∨ K = 2 ∨ K = 3 ∨ K = 4 := by omega
      rcases this with rfl | rfl | rfl | rfl | rfl
      · refine Or.inl ⟨lwK_mem.mpr (Or.inl ⟨by decide, rfl⟩), by simp [lwA], ?_⟩
        rw [if_pos rfl]
        simp [lwC, lwF0, hz, thLog]
      · refine Or.inl ⟨lwK_mem.mpr (Or.inl ⟨by decide, rfl⟩), by simp [lwA], ?_⟩
        rw [if_neg (by decide)]
        have e1 : (fun i => zLog cz gv r Z 11 0 i) = fun i => Z 11 0 i := funext fun i => hz 11 0 i (by decide) (by decide)
        simp only [lwC, e1]
      · refine Or.inl ⟨lwK_mem.mpr (Or.inl ⟨by decide, rfl⟩), by simp [lwA], ?_⟩
        rw [if_neg (by decide)]
        simp only [lwC, zLog_ln]
      · refine Or.inr ⟨Or.inl rfl, ?_⟩
        simp [lwA, lwC, hlm, thLog]
      · refine Or.inl ⟨lwK_mem.mpr (Or.inl ⟨by decide, rfl⟩), by simp [lwA], ?_⟩
        rw [if_neg (by decide)]
        have e1 : (fun i => zLog cz gv r Z 13 0 (i + 1)) = fun i => Z 13 0 (i + 1) := funext fun i => hz 13 0 (i + 1) (by decide) (by decide)
        simp only [lwC, e1]
    · refine Or.inl ⟨lwK_mem.mpr (Or.inr (Or.inl ⟨rfl, h⟩)), by simp [lwA], ?_⟩
      rw [if_neg (fun e => absurd (Prod.mk.inj e).1 (by decide))]
      simp [lwC, lwF5, hz, thLog]
    · refine Or.inl ⟨lwK_mem.mpr (Or.inr (Or.inr (Or.inl ⟨rfl, h⟩))), by simp [lwA, thLog], ?_⟩
      rw [if_neg (fun e => absurd (Prod.mk.inj e).1 (by decide))]
      have e1 : (fun i => zLog cz gv r Z 6 k (i + 1)) = fun i => Z 6 k (i + 1) := funext fun i => hz 6 k (i + 1) (by decide) (by decide)
      simp only [lwC, e1]
    · by_cases hk : k = lm Z
      · subst hk
        refine Or.inr ⟨Or.inr rfl, ?_⟩
        simp [lwA, lwC, thLog]
      · refine Or.inl ⟨lwK_mem.mpr (Or.inr (Or.inr (Or.inr ⟨rfl, by omega⟩))), by simp [lwA, thLog, hk], ?_⟩
        rw [if_neg (fun e => absurd (Prod.mk.inj e).1 (by decide))]
        have e1 : (fun i => zLog cz gv r Z 12 k i) = fun i => Z 12 k i := funext fun i => zLog_no (fun e => hk e.2) (by omega)
        simp only [lwC, e1]
  · intro hT t ht t' ht' e e' he
    have hab : a ≠ b := by
      simp at hT
      exact hT
    rcases e with rfl | rfl <;> rcases e' with rfl | rfl
    · rfl
    · exact absurd he (by simp [lwA, thLog, hab])
    · exact absurd he (by simp [lwA, thLog, Ne.symm hab])
    · rfl
set_option maxHeartbeats 4000000 in
set_option maxRecDepth 100000 in
theorem qX11_boot_165 {p : Program} {l : Launch} {e : Env} {R : Room} {s : State} {m : MethodId} {args : Array Value} {below : List Frame} {meth : Method} {c : Code} {ρ : bsR} {sc L : Nat} {xs : Nat → Int32} {cA : Nat → ClassId} {dC : Nat → ClassId} {dI : Nat → Nat → Nat} {A : Nat → Prop} {Ts : List Cond} {σ : xA2} {F : va_W} {mc ms : Nat} {z : Int32 × bsX × pY} (C : xCx p m c cX11_boot 5 s args Ts RX11 ρ sc L xs cA dC dI A meth (some .int)) (hRf : 1 ≤ R.frames) (hRl : 0 + (nativeFrameWords "java/lang/System" "arraycopy" 5 + 11) ≤ R.locals) {B : Nat} (x1 x2 x3 : Int32) (X : bsX) (Z : pY) (θ : xA2) (cl sl : Nat) (hB : lm Z ≤ B) (hB9 : B ≤ 90000) (hcl : cl + 2 ≤ mc) (hsl : sl + (5 + 1 * B) ≤ ms) (hmc : mc ≤ R.cells) (hms : ms ≤ R.slots) (hf : some (x2, X, zLog x1 x2 x3 Z) = some z) : xV p l e R s m args below meth c cl sl (MQ below (xQi ρ cA dC dI A (fun r X' R' => r = z.1 ∧ X' = z.2.1 ∧ ∃ θ' : xA2, R' = lwWs σ θ' cA z.2.2 ++ F)) args s mc ms A) ρ cA dC dI A (lwWs σ θ cA Z ++ (F ++ [])) 5 165 [(0, .ref (σ 0 0)), (1, .int x1), (2, .int x2), (3, .int x3)] [] X := by
  refine x_aload_n C dX11_boot_165 rfl rfl ?_
  refine xg_X11_24 C dX11_boot_166 ?_
  refine xn_bts C dX11_boot_169 ?_
  refine x_iconst (v := 1) C dX11_boot_170 (by decide) ?_
  refine x_iadd C dX11_boot_171 ?_
  rw [pu_succ]
  refine x_anewA (N := lm Z + 1) C (bsG_in 461 (by decide +kernel) rfl) (pu_neg _ (by omega)) (pu_ix _ (by omega)) (by omega) ⟨by show cl + 1 ≤ _; omega, by show sl + (lm Z + 1) ≤ _; omega⟩ dX11_boot_172 (fun a => ?_)
  refine x_eq (Rz' := lwWs σ θ cA Z ++ (F ++ [(a, .inl (cA 8, lm Z + 1, (.inr (.inr (.inr (.inr (fun _ => none)))))))])) (by simp only [List.append_assoc, List.nil_append]) ?_
  refine x_widen (k := cl + 1) (n := sl + (lm Z + 1)) (Nat.le_refl _) (Nat.le_refl _) ?_
  refine x_astore (lv' := [(4, .ref a), (0, .ref (σ 0 0)), (1, .int x1), (2, .int x2), (3, .int x3)]) C dX11_boot_175 (by decide) rfl ?_
  refine x_aload_n C dX11_boot_177 rfl rfl ?_
  refine xg_X11_24 C dX11_boot_178 ?_
  refine x_iconst (v := 0) C dX11_boot_181 (by decide) ?_
  refine x_aload C dX11_boot_182 rfl ?_
  refine x_iconst (v := 0) C dX11_boot_184 (by decide) ?_
  refine x_aload_n C dX11_boot_185 rfl rfl ?_
  refine xg_X11_24 C dX11_boot_186 ?_
  refine xn_bts C dX11_boot_189 ?_
  obtain ⟨q3, -, he3⟩ := lw_at (σ := σ) (θ := θ) (cA := cA) (Z := Z) (K := 3) (j := 0) (lwK_mem.mpr (Or.inl ⟨by decide, rfl⟩)) (F ++ [(a, .inl (cA 8, lm Z + 1, (.inr (.inr (.inr (.inr (fun _ => none)))))))])
  refine x_copyA C (bsG_in 1328 (by decide +kernel) rfl) he3 (xu_at _ F _ 0) (by decide) (by decide) (pu_neg _ (by omega)) ?_ ?_ ?_ hRf hRl (xu_set _ F _ 0 _) dX11_boot_190 ?_
  · rw [pu_ix _ (by omega)]; show bsIx (0 : Int32) + lm Z ≤ lm Z; have : bsIx (0 : Int32) = 0 := by decide
    omega
  · rw [pu_ix _ (by omega)]; have : bsIx (0 : Int32) = 0 := by decide
    omega
  · intro i hi y hy
    rw [pu_ix _ (by omega)] at hi
    have h0 : bsIx (0 : Int32) = 0 := by decide
    rw [h0, Nat.zero_add] at hy
    cases hy
    obtain ⟨q7, -, he7⟩ := lw_at (σ := σ) (θ := θ) (cA := cA) (Z := Z) (K := 7) (j := i) (lwK_mem.mpr (Or.inr (Or.inr (Or.inr ⟨rfl, hi⟩)))) (F ++ [(a, .inl (cA 8, lm Z + 1, (.inr (.inr (.inr (.inr (fun _ => none)))))))])
    exact ⟨q7, _, _, he7⟩
  refine x_eq (Rz' := lwWs σ θ cA Z ++ (F ++ [(a, .inl (cA 8, lm Z + 1, (.inr (.inr (.inr (.inr (va_cpy (fun i => some (θ 7 i)) (fun _ => none) (bsIx (0 : Int32)) (bsIx (0 : Int32)) (bsIx (nI (lm Z))))))))))])) rfl ?_
  refine x_aload C dX11_boot_193 rfl ?_
  refine x_aload_n C dX11_boot_195 rfl rfl ?_
  refine xg_X11_24 C dX11_boot_196 ?_
  refine xn_bts C dX11_boot_199 ?_
  refine x_iconst (v := 4) C dX11_boot_200 (by decide) ?_
  refine xu_newi (c1 := cl + 2) (s1 := sl + (lm Z + 5)) (N := 4) C (by decide) (by decide) (by decide) ⟨by omega, by omega⟩ (by omega) (by omega) dX11_boot_201 (fun b => ?_)
  refine x_dup C dX11_boot_203 rfl ?_
  refine x_iconst (v := 0) C dX11_boot_204 (by decide) ?_
  refine x_aload_n C dX11_boot_205 rfl rfl ?_
  refine xg_X11_102 C dX11_boot_206 ?_
  refine xu_st (T' := [(a, .inl (cA 8, lm Z + 1, (.inr (.inr (.inr (.inr (va_cpy (fun i => some (θ 7 i)) (fun _ => none) (bsIx (0 : Int32)) (bsIx (0 : Int32)) (bsIx (nI (lm Z)))))))))), (b, .inl (cA 0, 4, .inl (upd (fun _ => (0 : Int32)) 0 (Z 0 0 9))))]) C 1 rfl (by decide) rfl dX11_boot_209 ?_
  refine x_dup C dX11_boot_210 rfl ?_
  refine x_iconst (v := 1) C dX11_boot_211 (by decide) ?_
  refine x_iload_n C dX11_boot_212 rfl rfl ?_
  refine xu_st (T' := [(a, .inl (cA 8, lm Z + 1, (.inr (.inr (.inr (.inr (va_cpy (fun i => some (θ 7 i)) (fun _ => none) (bsIx (0 : Int32)) (bsIx (0 : Int32)) (bsIx (nI (lm Z)))))))))), (b, .inl (cA 0, 4, .inl (upd (upd (fun _ => (0 : Int32)) 0 (Z 0 0 9)) 1 x1)))]) C 1 rfl (by decide) rfl dX11_boot_213 ?_
  refine x_dup C dX11_boot_214 rfl ?_
  refine x_iconst (v := 2) C dX11_boot_215 (by decide) ?_
  refine x_iload_n C dX11_boot_216 rfl rfl ?_
  refine xu_st (T' := [(a, .inl (cA 8, lm Z + 1, (.inr (.inr (.inr (.inr (va_cpy (fun i => some (θ 7 i)) (fun _ => none) (bsIx (0 : Int32)) (bsIx (0 : Int32)) (bsIx (nI (lm Z)))))))))), (b, .inl (cA 0, 4, .inl (upd (upd (upd (fun _ => (0 : Int32)) 0 (Z 0 0 9)) 1 x1) 2 x2)))]) C 1 rfl (by decide) rfl dX11_boot_217 ?_
  refine x_dup C dX11_boot_218 rfl ?_
  refine x_iconst (v := 3) C dX11_boot_219 (by decide) ?_
  refine x_iload_n C dX11_boot_220 rfl rfl ?_
  refine xu_st (T' := [(a, .inl (cA 8, lm Z + 1, (.inr (.inr (.inr (.inr (va_cpy (fun i => some (θ 7 i)) (fun _ => none) (bsIx (0 : Int32)) (bsIx (0 : Int32)) (bsIx (nI (lm Z)))))))))), (b, .inl (cA 0, 4, .inl (upd (upd (upd (upd (fun _ => (0 : Int32)) 0 (Z 0 0 9)) 1 x1) 2 x2) 3 x3)))]) C 1 rfl (by decide) rfl dX11_boot_221 ?_
  refine x_astA C (xu_at _ F _ 0) (xu_at _ F _ 1) ((pu_in _ _ (by omega)).mpr (by omega)) (xu_set _ F _ 0 _) dX11_boot_222 ?_
  refine x_eq (Rz' := lwWs σ θ cA Z ++ (F ++ [(a, .inl (cA 8, lm Z + 1, (.inr (.inr (.inr (.inr (va_up (va_cpy (fun i => some (θ 7 i)) (fun _ => none) (bsIx (0 : Int32)) (bsIx (0 : Int32)) (bsIx (nI (lm Z)))) (bsIx (nI (lm Z))) (some b)))))))), (b, .inl (cA 0, 4, .inl (upd (upd (upd (upd (fun _ => (0 : Int32)) 0 (Z 0 0 9)) 1 x1) 2 x2) 3 x3)))])) rfl ?_
  refine xu_same (T' := [(a, .inl (cA 8, lm Z + 1, (.inr (.inr (.inr (.inr (fun i => some (thLog θ (lm Z) a b 7 i)))))))), (b, .inl (cA 0, 4, .inl (upd (upd (upd (upd (fun _ => (0 : Int32)) 0 (Z 0 0 9)) 1 x1) 2 x2) 3 x3)))]) 0 rfl (cell_R (fun i hi => ?_)) rfl ?_
  · have h0 : bsIx (0 : Int32) = 0 := by decide
    rw [h0, pu_ix _ (by omega)]
    exact thLog_arr hi
  refine xu_same (T' := [(a, .inl (cA 8, lm Z + 1, (.inr (.inr (.inr (.inr (fun i => some (thLog θ (lm Z) a b 7 i)))))))), (b, .inl (cA 0, 4, .inl (fun i => zLog x1 x2 x3 Z 12 (lm Z) i)))]) 1 rfl (cell_I (fun i hi => zLog_row hi)) rfl ?_
  refine x_aload_n C dX11_boot_223 rfl rfl ?_
  refine x_aload C dX11_boot_224 rfl ?_
  obtain ⟨q0, hq, he⟩ := lw_at (σ := σ) (θ := θ) (cA := cA) (Z := Z) (K := 0) (j := 0) (lwK_mem.mpr (Or.inl ⟨by decide, rfl⟩)) (F ++ [(a, .inl (cA 8, lm Z + 1, (.inr (.inr (.inr (.inr (fun i => some (thLog θ (lm Z) a b 7 i)))))))), (b, .inl (cA 0, 4, .inl (fun i => zLog x1 x2 x3 Z 12 (lm Z) i)))])
  refine x_put C (N := 15) (k := 14) (T := TX11) (Cn := RX11) (ref := "BootSlotsLaw$World") (fs := lwF0 σ θ Z) (ty := .array (.array .int)) he rfl bsin_X11 tyX11 tyX11_ok nmX11 (by decide) (bsG_in 750 (by decide +kernel) rfl) rfl rfl rfl rfl rfl (Nat.le_of_ble_eq_true rfl) (show _ = (lwWs σ θ cA Z).set q0 (σ 0 0, .inr (13, (lwF0 σ θ Z).set 14 (.ref a))) ++ (F ++ [(a, .inl (cA 8, lm Z + 1, (.inr (.inr (.inr (.inr (fun i => some (thLog θ (lm Z) a b 7 i)))))))), (b, .inl (cA 0, 4, .inl (fun i => zLog x1 x2 x3 Z 12 (lm Z) i)))]) from by rw [List.set_append, if_pos (by have := (List.getElem?_eq_some_iff.mp hq).1; simpa [lwWs] using this)]) dX11_boot_226 ?_
  refine x_log (by omega) hq (fun θ' => ?_)
  refine x_iload_n C dX11_boot_229 rfl rfl ?_
  obtain rfl := Option.some.inj hf
  exact x_iret C ⟨rfl, rfl, θ', rfl⟩ (by omega) (by omega) dX11_boot_230
def zCom (f : Nat → Int32) (Z : pY) : pY := wr (wr (wr (wr (wr Z 13 0 1 (f 0)) 13 0 2 (f 1)) 13 0 3 (f 2)) 13 0 4 (f 3)) 13 0 5 (f 4)
theorem zCom_img {f : Nat → Int32} {Z : pY} {i : Nat} (hi : i < 5) : f i = zCom f Z 13 0 (i + 1) := by
  have : i = 0 ∨ i = 1 ∨ i = 2 ∨ i = 3 ∨ i = 4 := by omega
  rcases this with rfl | rfl | rfl | rfl | rfl <;> simp [zCom, wr]
theorem zCom_no {f : Nat → Int32} {Z : pY} {K k i : Nat} (h : ¬ K = 13) : zCom f Z K k i = Z K k i := by
  unfold zCom
  rw [wr_no (fun e => h e.1), wr_no (fun e => h e.1), wr_no (fun e => h e.1), wr_no (fun e => h e.1), wr_no (fun e => h e.1)]
theorem zCom_ln {f : Nat → Int32} {Z : pY} : ln (zCom f Z) = ln Z := by unfold ln; rw [zCom_no (by decide)]
theorem zCom_lm {f : Nat → Int32} {Z : pY} : lm (zCom f Z) = lm Z := by unfold lm; rw [zCom_no (by decide)]
theorem zCom_lt {f : Nat → Int32} {Z : pY} {k : Nat} (h : k < ln Z) : k < ln (zCom f Z) := by rw [zCom_ln]; exact h
theorem x_newCom {p : Program} {l : Launch} {e : Env} {R : Room} {s : State} {m : MethodId} {args : Array Value} {below : List Frame} {meth : Method} {c : Code} {cells slots : Nat} {Q : State → Prop} {ρ : bsR} {cA : Nat → ClassId} {dC : Nat → ClassId} {dI : Nat → Nat → Nat} {A : Nat → Prop} {nL pc : Nat} {lv : List (Nat × Value)} {st : List Value} {X : bsX} {σ θ : xA2} {Z : pY} {F : va_W} {a q0 : Nat} {f : Nat → Int32} (hq : (lwK (ln Z) (lm Z))[q0]? = some (0, 0))
    (kk : ∀ σ' : xA2, σ' 4 0 = a → (∀ K k, ¬ (K = 4 ∧ k = 0) → σ' K k = σ K k) → xV p l e R s m args below meth c cells slots Q ρ cA dC dI A (lwWs σ' θ cA (zCom f Z) ++ F) nL pc lv st X) : xV p l e R s m args below meth c cells slots Q ρ cA dC dI A ((lwWs σ θ cA Z).set q0 (σ 0 0, .inr (13, (lwF0 σ θ Z).set 13 (.ref a))) ++ (F ++ [(a, .inl (cA 0, 5, .inl (fun i => zCom f Z 13 0 (i + 1))))])) nL pc lv st X := by
  have hlen : q0 < (lwK (ln Z) (lm Z)).length := (List.getElem?_eq_some_iff.mp hq).1
  refine x_re (ks := lwK (ln Z) (lm Z)) (ks' := lwK (ln Z) (lm Z)) (A0 := fun t => lwA σ θ t.1 t.2) (A1 := fun t => lwA (fun K k => if K = 4 ∧ k = 0 then a else σ K k) θ t.1 t.2)
    (e0 := fun t => if t = (0, 0) then .inr (13, (lwF0 σ θ Z).set 13 (.ref a)) else lwC σ θ cA Z t.1 t.2) (e1 := fun t => lwC (fun K k => if K = 4 ∧ k = 0 then a else σ K k) θ cA (zCom f Z) t.1 t.2) (F := F) (T := [(a, .inl (cA 0, 5, .inl (fun i => zCom f Z 13 0 (i + 1))))]) (Rz' := lwWs (fun K k => if K = 4 ∧ k = 0 then a else σ K k) θ cA (zCom f Z) ++ F) ?_ (by unfold lwWs; rw [zCom_ln, zCom_lm]) (lwK_nd _ _) (fun t => t = (4, 0)) ?_ (fun _ t _ t' _ e e' _ => e.trans e'.symm) (lwK_nd _ _) (kk _ (by simp) (fun K k h => by simp only [if_neg h]))
  · congr 1
    refine List.ext_getElem? fun n => ?_
    rw [List.getElem?_set]
    by_cases hn : q0 = n
    · subst hn
      rw [if_pos rfl, if_pos (by simpa [lwWs] using hlen), List.getElem?_map, hq]
      simp [lwA]
    · rw [if_neg hn, lwWs, List.getElem?_map, List.getElem?_map]
      cases ht : (lwK (ln Z) (lm Z))[n]? with
      | none => rfl
      | some t =>
        have hne : t ≠ (0, 0) := fun e => hn (by
          subst e
          exact (List.getElem?_inj hlen (lwK_nd _ _)).mp (by rw [hq, ht]))
        simp only [Option.map_some, if_neg hne]
  · rintro ⟨K, k⟩ ht
    have hz : ∀ K k i, ¬ K = 13 → zCom f Z K k i = Z K k i := fun K k i h => zCom_no h
    have hm' := lwK_mem.mp ht
    rcases hm' with ⟨h, rfl⟩ | ⟨rfl, h⟩ | ⟨rfl, h⟩ | ⟨rfl, h⟩
    · have : K = 0 ∨ K = 1 ∨ K = 2 ∨ K = 3 ∨ K = 4 := by omega
      rcases this with rfl | rfl | rfl | rfl | rfl
      · refine Or.inl ⟨ht, by simp [lwA], ?_⟩
        rw [if_pos rfl]
        simp [lwC, lwF0, hz]
      · refine Or.inl ⟨ht, by simp [lwA], ?_⟩
        rw [if_neg (by decide)]
        have e1 : (fun i => zCom f Z 11 0 i) = fun i => Z 11 0 i := funext fun i => hz 11 0 i (by decide)
        simp only [lwC, e1]
      · refine Or.inl ⟨ht, by simp [lwA], ?_⟩
        rw [if_neg (by decide)]
        simp [lwC, zCom_ln]
      · refine Or.inl ⟨ht, by simp [lwA], ?_⟩
        rw [if_neg (by decide)]
        simp [lwC, zCom_lm]
      · refine Or.inr ⟨rfl, ?_⟩
        simp [lwA, lwC]
    · refine Or.inl ⟨ht, by simp [lwA], ?_⟩
      rw [if_neg (fun e => absurd (Prod.mk.inj e).1 (by decide))]
      simp [lwC, lwF5, hz]
    · refine Or.inl ⟨ht, by simp [lwA], ?_⟩
      rw [if_neg (fun e => absurd (Prod.mk.inj e).1 (by decide))]
      have e1 : (fun i => zCom f Z 6 k (i + 1)) = fun i => Z 6 k (i + 1) := funext fun i => hz 6 k (i + 1) (by decide)
      simp only [lwC, e1]
    · refine Or.inl ⟨ht, by simp [lwA], ?_⟩
      rw [if_neg (fun e => absurd (Prod.mk.inj e).1 (by decide))]
      have e1 : (fun i => zCom f Z 12 k i) = fun i => Z 12 k i := funext fun i => hz 12 k i (by decide)
      simp only [lwC, e1]
