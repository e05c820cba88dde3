theorem ml_L_157 : Cond.methodLink RL 157 yL_count ∈ bsG := bsG_in 1300 (by decide +kernel) rfl
theorem dpL_count : (parseMethodDescriptor yL_count.desc).map (fun d => d.parameters.length) = some 2 := by decide +kernel
theorem wzL_count : bsWz yL_count cL_count 4 (some .int) := ⟨bsG_in 1301 (by decide +kernel) rfl, bsG_in 37 (by decide +kernel) rfl, bsG_in 1302 (by decide +kernel) rfl, by decide +kernel, by decide +kernel⟩
/-! BootSlotsLaw.isLike(LBootSlots;LBootSlotsLaw$World;)Z -/
def hL_isLike_117 (k74 : (Nat → Int32) → Int32 → bsX → pY → Option (Int32 × bsX × pY)) (f2 : (Nat → Int32)) (x3 : Int32) (y0 : Int32) (y1 : Int32) (X : bsX) (Z : pY) : Option (Int32 × bsX × pY) := if y0 = y1 then (k74 f2 (x3 + (1 : Int32)) X Z) else (some ((0 : Int32), X, Z))
def hL_isLike_321 (k130 : Int32 → bsX → pY → Option (Int32 × bsX × pY)) (k288 : Int32 → Nat → Int32 → bsX → pY → Option (Int32 × bsX × pY)) (x3 : Int32) (q4 : Nat) (x6 : Int32) (y0 : Int32) (y1 : Int32) (X : bsX) (Z : pY) : Option (Int32 × bsX × pY) := if y0 = y1 then (k288 x3 q4 (x6 + (1 : Int32)) X Z) else (some ((0 : Int32), X, Z))
def hL_isLike_288 (k130 : Int32 → bsX → pY → Option (Int32 × bsX × pY)) : Nat → Int32 → Nat → Int32 → bsX → pY → Option (Int32 × bsX × pY)
  | 0, _, _, _, _, _ => none
  | n + 1, x3, q4, x6, X, Z => if (5 : Int32) ≤ x6 then (k130 (x3 + (1 : Int32)) X Z) else ((fX8_image x3 x6 X).bind fun r48 => if r48.1 = 0 then ((hX10_isEmpty q4  r48.2.2 Z).bind fun r51 => if r51.1 = 0 then (if q4 < ln r51.2.2 then (if bsIn x6 5 then (hL_isLike_321  k130 (hL_isLike_288  k130 n) x3 q4 x6 r48.2.1 (r51.2.2 6 q4 (bsIx x6 + 1)) r51.2.1 r51.2.2) else none) else none) else (if q4 < ln r51.2.2 then (hL_isLike_321  k130 (hL_isLike_288  k130 n) x3 q4 x6 r48.2.1 (-1 : Int32) r51.2.1 r51.2.2) else none)) else none)
def hL_isLike_255 (k130 : Int32 → bsX → pY → Option (Int32 × bsX × pY)) : Nat → Int32 → Nat → (Nat → Int32) → Int32 → bsX → pY → Option (Int32 × bsX × pY)
  | 0, _, _, _, _, _, _ => none
  | n + 1, x3, q4, f5, x6, X, Z => if (9 : Int32) ≤ x6 then (hL_isLike_288  k130 6 x3 q4 (0 : Int32) X Z) else ((fX8_slot x3 x6 X).bind fun r76 => if r76.1 = 0 then (if bsIn x6 9 then (if r76.2.1 = (f5 (bsIx x6)) then (hL_isLike_255  k130 n x3 q4 f5 (x6 + (1 : Int32)) r76.2.2 Z) else (some ((0 : Int32), r76.2.2, Z))) else none) else none)
def hL_isLike_222 (k130 : Int32 → bsX → pY → Option (Int32 × bsX × pY)) (x3 : Int32) (q4 : Nat) (f0 : (Nat → Int32)) (y2 : Int32) (y3 : Int32) (X : bsX) (Z : pY) : Option (Int32 × bsX × pY) := if bsIn y2 9 then (hL_isLike_255  k130 10 x3 q4 (upd (upd (upd (upd f0 (bsIx y2) y3) 6 (Z 5 q4 6)) 7 (Z 5 q4 7)) 8 (Z 5 q4 8)) (0 : Int32) X Z) else none
def hL_isLike_198 (k130 : Int32 → bsX → pY → Option (Int32 × bsX × pY)) (x3 : Int32) (q4 : Nat) (f0 : (Nat → Int32)) (y2 : Int32) (y3 : Int32) (X : bsX) (Z : pY) : Option (Int32 × bsX × pY) := if bsIn y2 9 then ((hX11_why  x3 X Z).bind fun r13 => if r13.1 = 0 then (if q4 < ln r13.2.2 then (hL_isLike_222  k130 x3 q4 (upd (upd f0 (bsIx y2) y3) 4 (Z 5 q4 5)) (5 : Int32) (1 : Int32) r13.2.1 r13.2.2) else none) else (if q4 < ln r13.2.2 then (hL_isLike_222  k130 x3 q4 (upd (upd f0 (bsIx y2) y3) 4 (Z 5 q4 5)) (5 : Int32) (0 : Int32) r13.2.1 r13.2.2) else none)) else none
def hL_isLike_166 (k130 : Int32 → bsX → pY → Option (Int32 × bsX × pY)) (x3 : Int32) (q4 : Nat) (f0 : (Nat → Int32)) (y2 : Int32) (y3 : Int32) (X : bsX) (Z : pY) : Option (Int32 × bsX × pY) := if bsIn y2 9 then (if (Z 5 q4 4) = 0 then (hL_isLike_198  k130 x3 q4 (upd (upd (upd f0 (bsIx y2) y3) 1 (Z 5 q4 2)) 2 (Z 5 q4 3)) (3 : Int32) (0 : Int32) X Z) else (hL_isLike_198  k130 x3 q4 (upd (upd (upd f0 (bsIx y2) y3) 1 (Z 5 q4 2)) 2 (Z 5 q4 3)) (3 : Int32) (1 : Int32) X Z)) else none
def hL_isLike_399 (k372 : (Nat → Int32) → Int32 → bsX → pY → Option (Int32 × bsX × pY)) (f3 : (Nat → Int32)) (x4 : Int32) (y0 : Int32) (y1 : Int32) (X : bsX) (Z : pY) : Option (Int32 × bsX × pY) := if y0 = y1 then (k372 f3 (x4 + (1 : Int32)) X Z) else (some ((0 : Int32), X, Z))
def hL_isLike_477 (k413 : Int32 → bsX → pY → Option (Int32 × bsX × pY)) (k423 : Int32 → Int32 → bsX → pY → Option (Int32 × bsX × pY)) (x4 : Int32) (x5 : Int32) (y0 : Int32) (y1 : Int32) (X : bsX) (Z : pY) : Option (Int32 × bsX × pY) := if y0 = y1 then (k423 x4 (x5 + (1 : Int32)) X Z) else (some ((0 : Int32), X, Z))
def hL_isLike_475 (k413 : Int32 → bsX → pY → Option (Int32 × bsX × pY)) (k423 : Int32 → Int32 → bsX → pY → Option (Int32 × bsX × pY)) (x4 : Int32) (x5 : Int32) (y0 : Int32) (X : bsX) (Z : pY) : Option (Int32 × bsX × pY) := hL_isLike_477  k413 k423 x4 x5 y0 (-2 : Int32) X Z
def hL_isLike_423 (k413 : Int32 → bsX → pY → Option (Int32 × bsX × pY)) : Nat → Int32 → Int32 → bsX → pY → Option (Int32 × bsX × pY)
  | 0, _, _, _, _ => none
  | n + 1, x4, x5, X, Z => if (4 : Int32) ≤ x5 then (k413 (x4 + (1 : Int32)) X Z) else ((fX8_boot x4 x5 X).bind fun r61 => if r61.1 = 0 then (if (12 : Int32) ≤ x4 then (hL_isLike_475  k413 (hL_isLike_423  k413 n) x4 x5 r61.2.1 r61.2.2 Z) else (if (nI (lm Z)) ≤ x4 then (hL_isLike_475  k413 (hL_isLike_423  k413 n) x4 x5 r61.2.1 r61.2.2 Z) else (if bsIn (((nI (lm Z)) - (1 : Int32)) - x4) (lm Z) then (if bsIn x5 4 then (hL_isLike_477  k413 (hL_isLike_423  k413 n) x4 x5 r61.2.1 (Z 12 (bsIx (((nI (lm Z)) - (1 : Int32)) - x4)) (bsIx x5)) r61.2.2 Z) else none) else none))) else none)
def hL_isLike_413 : Nat → Int32 → bsX → pY → Option (Int32 × bsX × pY)
  | 0, _, _, _ => none
  | n + 1, x4, X, Z => if (13 : Int32) ≤ x4 then ((fX8_boot (-1 : Int32) (0 : Int32) X).bind fun r31 => if r31.1 = 0 then (if r31.2.1 = (-2 : Int32) then ((fX8_slot (nI (ln Z)) (0 : Int32) r31.2.2).bind fun r35 => if 0 < r35.1 ∧ r35.1 ≤ 3 then (if (nI r35.1) = (2 : Int32) then ((fX8_image (-1 : Int32) (0 : Int32) r35.2.2).bind fun r39 => if 0 < r39.1 ∧ r39.1 ≤ 3 then (if (nI r39.1) = (2 : Int32) then (some ((1 : Int32), r39.2.2, Z)) else (some ((0 : Int32), r39.2.2, Z))) else none) else (some ((0 : Int32), r35.2.2, Z))) else none) else (some ((0 : Int32), r31.2.2, Z))) else none) else (hL_isLike_423  (hL_isLike_413   n) 5 x4 (0 : Int32) X Z)
def hL_isLike_372 : Nat → (Nat → Int32) → Int32 → bsX → pY → Option (Int32 × bsX × pY)
  | 0, _, _, _, _ => none
  | n + 1, f3, x4, X, Z => if (4 : Int32) ≤ x4 then (hL_isLike_413   14 (0 : Int32) X Z) else ((fX8_install x4 X).bind fun r69 => if r69.1 = 0 then (if 0 ≤ (Z 2 0 1) then (if bsIn x4 4 then (hL_isLike_399  (hL_isLike_372   n) f3 x4 r69.2.1 (f3 (bsIx x4)) r69.2.2 Z) else none) else (hL_isLike_399  (hL_isLike_372   n) f3 x4 r69.2.1 (-1 : Int32) r69.2.2 Z)) else none)
def hL_isLike_130 : Nat → Int32 → bsX → pY → Option (Int32 × bsX × pY)
  | 0, _, _, _ => none
  | n + 1, x3, X, Z => if (nI (ln Z)) ≤ x3 then (hL_isLike_372   5 (upd (upd (upd (upd (fun _ => (0 : Int32)) 0 (Z 2 0 1)) 1 (Z 2 0 2)) 2 (Z 13 0 1)) 3 (3 : Int32)) (0 : Int32) X Z) else (if bsIn x3 (ln Z) then ((hX10_isEmpty (bsIx x3)  X Z).bind fun r5 => if r5.1 = 0 then (if (bsIx x3) < ln r5.2.2 then (hL_isLike_166  (hL_isLike_130   n) x3 (bsIx x3) (fun _ => (0 : Int32)) (0 : Int32) (1 : Int32) r5.2.1 r5.2.2) else none) else (if (bsIx x3) < ln r5.2.2 then (hL_isLike_166  (hL_isLike_130   n) x3 (bsIx x3) (fun _ => (0 : Int32)) (0 : Int32) (0 : Int32) r5.2.1 r5.2.2) else none)) else none)
def hL_isLike_74 : Nat → (Nat → Int32) → Int32 → bsX → pY → Option (Int32 × bsX × pY)
  | 0, _, _, _, _ => none
  | n + 1, f2, x3, X, Z => if (20 : Int32) ≤ x3 then (hL_isLike_130   8 (0 : Int32) X Z) else ((fX8_count x3 X).bind fun r19 => if r19.1 = 0 then (if (9 : Int32) ≤ x3 then (if (12 : Int32) ≤ x3 then (if bsIn x3 20 then (hL_isLike_117  (hL_isLike_74   n) f2 x3 r19.2.1 (Z 11 0 (bsIx x3)) r19.2.2 Z) else none) else ((hL_count  x3 r19.2.2 Z).bind fun r23 => hL_isLike_117  (hL_isLike_74   n) f2 x3 r19.2.1 r23.1 r23.2.1 r23.2.2)) else (if bsIn x3 9 then (hL_isLike_117  (hL_isLike_74   n) f2 x3 r19.2.1 (f2 (bsIx x3)) r19.2.2 Z) else none)) else none)
def hL_isLike (X : bsX) (Z : pY) : Option (Int32 × bsX × pY) := hL_isLike_74   21 (upd (upd (upd (upd (upd (upd (upd (upd (upd (fun _ => (0 : Int32)) 0 (nI (ln Z))) 1 (Z 0 0 9)) 2 (Z 0 0 5)) 3 (Z 0 0 6)) 4 (Z 0 0 7)) 5 (Z 0 0 8)) 6 (Z 0 0 10)) 7 (Z 0 0 11)) 8 (Z 0 0 12)) (0 : Int32) X Z
abbrev rmL_isLike : Room := { frames := 11, cells := 610, slots := 3677, locals := 324 }
set_option maxHeartbeats 4000000 in
set_option maxRecDepth 100000 in
theorem qL_isLike_117 {p : Program} {l : Launch} {e : Env} {s : State} {m : MethodId} {args : Array Value} {below : List Frame} {meth : Method} {c : Code} {ρ : bsR} {sc L : Nat} {xs : Nat → Int32} {cA : Nat → ClassId} {dC : Nat → ClassId} {dI : Nat → Nat → Nat} {A : Nat → Prop} {Ts : List Cond} {σ : xA2} {F : va_W} (k74 : (Nat → Int32) → Int32 → bsX → pY → Option (Int32 × bsX × pY)) {z : (Int32 × bsX × pY)} (C : xCx p m c cL_isLike 7 s args Ts RL ρ sc L xs cA dC dI A meth (some .boolean)) (hst : l.stackTraces = false) {NC74 NS74 : Nat} (hk74 : ∀ (f2 : (Nat → Int32)) (x3 : Int32) (X : bsX) (Z : pY) (θ : xA2) (α2 : Nat) (cl sl : Nat), cl + NC74 ≤ 610 → sl + NS74 ≤ 3677 → k74 f2 x3 X Z = some z → xV p l e rmL_isLike s m args below meth c cl sl (MQ below (xQi ρ cA dC dI A (fun r X' R' => r = z.1 ∧ X' = z.2.1 ∧ ∃ θ' : xA2, R' = lwWs σ θ' cA z.2.2 ++ F)) args s rmL_isLike.cells rmL_isLike.slots A) ρ cA dC dI A (lwWs σ θ cA Z ++ (F ++ [(α2, .inl (cA 0, 9, .inl f2))])) 7 74 [(0, .ref (ρ 13 0 0)), (1, .ref (σ 0 0)), (2, .ref α2), (3, .int x3)] [] X) (hn74 : 567 ≤ NC74 ∧ 3416 ≤ NS74)  : ∀ (f2 : (Nat → Int32)) (x3 : Int32) (y0 : Int32) (y1 : Int32) (X : bsX) (Z : pY) (θ : xA2) (α2 : Nat) (cl sl : Nat), cl + ((0 + NC74)) ≤ 610 → sl + ((0 + NS74)) ≤ 3677 → hL_isLike_117 k74 f2 x3 y0 y1 X Z = some z → xV p l e rmL_isLike s m args below meth c cl sl (MQ below (xQi ρ cA dC dI A (fun r X' R' => r = z.1 ∧ X' = z.2.1 ∧ ∃ θ' : xA2, R' = lwWs σ θ' cA z.2.2 ++ F)) args s rmL_isLike.cells rmL_isLike.slots A) ρ cA dC dI A (lwWs σ θ cA Z ++ (F ++ [(α2, .inl (cA 0, 9, .inl f2))])) 7 117 [(0, .ref (ρ 13 0 0)), (1, .ref (σ 0 0)), (2, .ref α2), (3, .int x3)] [.int y1, .int y0] X := by
  intro f2 x3 y0 y1 X Z θ α2 cl sl hcl hsl hf
  rw [hL_isLike_117] at hf
  refine x_icmp_eq (tgt := 122) C dL_isLike_117 (by decide) (fun h75 => ?_) (fun h75 => ?_)
  · replace hf := bs_pos h75 hf
    refine x_iinc (k0 := 3) (v := (x3 + (1 : Int32))) (lv' := [(3, .int (x3 + (1 : Int32))), (0, .ref (ρ 13 0 0)), (1, .ref (σ 0 0)), (2, .ref α2)]) C dL_isLike_122 rfl rfl (by decide) rfl ?_
    refine x_goto (tgt := 74) C dL_isLike_125 (by decide) ?_
    refine x_sub [1, 2, 3, 0] rfl ?_
    exact hk74 _ _ _ _ _ _ _ _  (by omega) (by omega) hf
  · replace hf := bs_neg h75 hf
    refine x_iconst (v := 0) C dL_isLike_120 (by decide) ?_
    obtain rfl := Option.some.inj hf
    refine xu_dropall ?_
    exact x_xret C (bsZ01 (by decide)).1 ⟨rfl, rfl, _, rfl⟩ (by show _ ≤ 610; omega) (by show _ ≤ 3677; omega) dL_isLike_121
set_option maxHeartbeats 4000000 in
set_option maxRecDepth 100000 in
theorem qL_isLike_321 {p : Program} {l : Launch} {e : Env} {s : State} {m : MethodId} {args : Array Value} {below : List Frame} {meth : Method} {c : Code} {ρ : bsR} {sc L : Nat} {xs : Nat → Int32} {cA : Nat → ClassId} {dC : Nat → ClassId} {dI : Nat → Nat → Nat} {A : Nat → Prop} {Ts : List Cond} {σ : xA2} {F : va_W} (k130 : Int32 → bsX → pY → Option (Int32 × bsX × pY)) (k288 : Int32 → Nat → Int32 → bsX → pY → Option (Int32 × bsX × pY)) {z : (Int32 × bsX × pY)} (C : xCx p m c cL_isLike 7 s args Ts RL ρ sc L xs cA dC dI A meth (some .boolean)) (hst : l.stackTraces = false) {NC130 NS130 : Nat} (hk130 : ∀ (x3 : Int32) (X : bsX) (Z : pY) (θ : xA2) (cl sl : Nat), cl + NC130 ≤ 610 → sl + NS130 ≤ 3677 → k130 x3 X Z = some z → xV p l e rmL_isLike s m args below meth c cl sl (MQ below (xQi ρ cA dC dI A (fun r X' R' => r = z.1 ∧ X' = z.2.1 ∧ ∃ θ' : xA2, R' = lwWs σ θ' cA z.2.2 ++ F)) args s rmL_isLike.cells rmL_isLike.slots A) ρ cA dC dI A (lwWs σ θ cA Z ++ (F ++ [])) 7 130 [(0, .ref (ρ 13 0 0)), (1, .ref (σ 0 0)), (3, .int x3)] [] X) (hn130 : 175 ≤ NC130 ∧ 1040 ≤ NS130) {NC288 NS288 : Nat} (hk288 : ∀ (x3 : Int32) (q4 : Nat) (x6 : Int32) (X : bsX) (Z : pY) (θ : xA2) (cl sl : Nat), q4 < ln Z → cl + NC288 ≤ 610 → sl + NS288 ≤ 3677 → k288 x3 q4 x6 X Z = some z → xV p l e rmL_isLike s m args below meth c cl sl (MQ below (xQi ρ cA dC dI A (fun r X' R' => r = z.1 ∧ X' = z.2.1 ∧ ∃ θ' : xA2, R' = lwWs σ θ' cA z.2.2 ++ F)) args s rmL_isLike.cells rmL_isLike.slots A) ρ cA dC dI A (lwWs σ θ cA Z ++ (F ++ [])) 7 288 [(0, .ref (ρ 13 0 0)), (1, .ref (σ 0 0)), (3, .int x3), (4, .ref (σ 5 q4)), (6, .int x6)] [] X) (hn288 : 0 + NC130 ≤ NC288 ∧ 0 + NS130 ≤ NS288)  : ∀ (x3 : Int32) (q4 : Nat) (x6 : Int32) (y0 : Int32) (y1 : Int32) (X : bsX) (Z : pY) (θ : xA2) (cl sl : Nat), q4 < ln Z → cl + ((0 + NC288)) ≤ 610 → sl + ((0 + NS288)) ≤ 3677 → hL_isLike_321 k130 k288 x3 q4 x6 y0 y1 X Z = some z → xV p l e rmL_isLike s m args below meth c cl sl (MQ below (xQi ρ cA dC dI A (fun r X' R' => r = z.1 ∧ X' = z.2.1 ∧ ∃ θ' : xA2, R' = lwWs σ θ' cA z.2.2 ++ F)) args s rmL_isLike.cells rmL_isLike.slots A) ρ cA dC dI A (lwWs σ θ cA Z ++ (F ++ [])) 7 321 [(0, .ref (ρ 13 0 0)), (1, .ref (σ 0 0)), (3, .int x3), (4, .ref (σ 5 q4)), (6, .int x6)] [.int y1, .int y0] X := by
  intro x3 q4 x6 y0 y1 X Z θ cl sl hq4 hcl hsl hf
  rw [hL_isLike_321] at hf
  refine x_icmp_eq (tgt := 326) C dL_isLike_321 (by decide) (fun h1 => ?_) (fun h1 => ?_)
  · replace hf := bs_pos h1 hf
    refine x_iinc (k0 := 4) (v := (x6 + (1 : Int32))) (lv' := [(6, .int (x6 + (1 : Int32))), (0, .ref (ρ 13 0 0)), (1, .ref (σ 0 0)), (3, .int x3), (4, .ref (σ 5 q4))]) C dL_isLike_326 rfl rfl (by decide) rfl ?_
    refine x_goto (tgt := 288) C dL_isLike_329 (by decide) ?_
    refine x_sub [1, 2, 3, 4, 0] rfl ?_
    exact hk288 _ _ _ _ _ _  _ _ hq4 (by omega) (by omega) hf
  · replace hf := bs_neg h1 hf
    refine x_iconst (v := 0) C dL_isLike_324 (by decide) ?_
    obtain rfl := Option.some.inj hf
    refine xu_dropall ?_
    exact x_xret C (bsZ01 (by decide)).1 ⟨rfl, rfl, _, rfl⟩ (by show _ ≤ 610; omega) (by show _ ≤ 3677; omega) dL_isLike_325
set_option maxHeartbeats 4000000 in
set_option maxRecDepth 100000 in
theorem qL_isLike_288 {p : Program} {l : Launch} {e : Env} {s : State} {m : MethodId} {args : Array Value} {below : List Frame} {meth : Method} {c : Code} {ρ : bsR} {sc L : Nat} {xs : Nat → Int32} {cA : Nat → ClassId} {dC : Nat → ClassId} {dI : Nat → Nat → Nat} {A : Nat → Prop} {Ts : List Cond} {σ : xA2} {F : va_W} (k130 : Int32 → bsX → pY → Option (Int32 × bsX × pY)) {z : (Int32 × bsX × pY)} (C : xCx p m c cL_isLike 7 s args Ts RL ρ sc L xs cA dC dI A meth (some .boolean)) (hst : l.stackTraces = false) {NC130 NS130 : Nat} (hk130 : ∀ (x3 : Int32) (X : bsX) (Z : pY) (θ : xA2) (cl sl : Nat), cl + NC130 ≤ 610 → sl + NS130 ≤ 3677 → k130 x3 X Z = some z → xV p l e rmL_isLike s m args below meth c cl sl (MQ below (xQi ρ cA dC dI A (fun r X' R' => r = z.1 ∧ X' = z.2.1 ∧ ∃ θ' : xA2, R' = lwWs σ θ' cA z.2.2 ++ F)) args s rmL_isLike.cells rmL_isLike.slots A) ρ cA dC dI A (lwWs σ θ cA Z ++ (F ++ [])) 7 130 [(0, .ref (ρ 13 0 0)), (1, .ref (σ 0 0)), (3, .int x3)] [] X) (hn130 : 175 ≤ NC130 ∧ 1040 ≤ NS130)  : ∀ (n : Nat), ∀ (x3 : Int32) (q4 : Nat) (x6 : Int32) (X : bsX) (Z : pY) (θ : xA2) (cl sl : Nat), q4 < ln Z → cl + (n * 3 + (0 + NC130)) ≤ 610 → sl + (n * 18 + (0 + NS130)) ≤ 3677 → hL_isLike_288 k130 n x3 q4 x6 X Z = some z → xV p l e rmL_isLike s m args below meth c cl sl (MQ below (xQi ρ cA dC dI A (fun r X' R' => r = z.1 ∧ X' = z.2.1 ∧ ∃ θ' : xA2, R' = lwWs σ θ' cA z.2.2 ++ F)) args s rmL_isLike.cells rmL_isLike.slots A) ρ cA dC dI A (lwWs σ θ cA Z ++ (F ++ [])) 7 288 [(0, .ref (ρ 13 0 0)), (1, .ref (σ 0 0)), (3, .int x3), (4, .ref (σ 5 q4)), (6, .int x6)] [] X := by
  intro n
  induction n with
  | zero => intro x3 q4 x6 X Z θ cl sl hq4 hcl hsl hf; exact (nomatch hf)
  | succ n ih =>
    intro x3 q4 x6 X Z θ cl sl hq4 hcl hsl hf
    rw [hL_isLike_288] at hf
    refine x_iload C dL_isLike_288 rfl ?_
    refine x_iconst (v := 5) C dL_isLike_290 (by decide) ?_
    refine x_icmp_ge (tgt := 332) C dL_isLike_291 (by decide) (fun h58 => ?_) (fun h58 => ?_)
    · replace hf := bs_pos h58 hf
      refine x_iinc (k0 := 2) (v := (x3 + (1 : Int32))) (lv' := [(3, .int (x3 + (1 : Int32))), (0, .ref (ρ 13 0 0)), (1, .ref (σ 0 0)), (4, .ref (σ 5 q4)), (6, .int x6)]) C dL_isLike_332 rfl rfl (by decide) rfl ?_
      refine x_goto (tgt := 130) C dL_isLike_335 (by decide) ?_
      refine x_sub [1, 2, 0] rfl ?_
      exact hk130 _ _ _ _  _ _  (by omega) (by omega) hf
    · replace hf := bs_neg h58 hf
      refine x_aload_n C dL_isLike_294 rfl rfl ?_
      refine x_iload_n C dL_isLike_295 rfl rfl ?_
      refine x_iload C dL_isLike_296 rfl ?_
      obtain ⟨r48, hc49, hf⟩ := bs_bind hf
      obtain ⟨h050, hf⟩ := bs_if hf
      refine x_callT (y := yX8_image) (As := [.int x3, .int x6]) (rest := []) C (cX8_image_ok hst hc49) h050 ml_L_40 wyX8_image bsm_X8 bsc_X8 rfl dpX8_image ⟨Nat.le_of_ble_eq_true rfl, Nat.le_of_ble_eq_true rfl⟩ ⟨by show (cl) + 3 ≤ 610; omega, by show (sl) + 18 ≤ 3677; omega⟩ rfl (Nat.le_of_ble_eq_true rfl) dL_isLike_298 ?_
      refine x_widen (k := (cl + 3)) (n := (sl + 18)) (by show (cl) + 3 ≤ _; omega) (by show (sl) + 18 ≤ _; omega) ?_
      refine x_aload C dL_isLike_301 rfl ?_
      obtain ⟨r51, hc52, hf⟩ := bs_bind hf
      obtain ⟨q0, he⟩ := xr_plc (Z := Z) σ θ cA (F ++ []) hq4
      refine x_callVi (y := yX10_isEmpty) (As := []) (rest := [.int r48.2.1]) C (cX10_isEmpty_ok (F := F ++ []) hq4 hc52) ml_L_164 wyX10_isEmpty he rfl dpX10_isEmpty ⟨Nat.le_of_ble_eq_true rfl, Nat.le_of_ble_eq_true rfl⟩ ⟨by show (cl + 3) + 0 ≤ 610; omega, by show (sl + 18) + (0) ≤ 3677; omega⟩ rfl (Nat.le_of_ble_eq_true rfl) dL_isLike_303 (fun r' X' R' hp => ?_)
      obtain ⟨rfl, rfl, θ, rfl⟩ := hp
      refine x_widen (k := (cl + 3)) (n := (sl + 18)) (by show (cl + 3) + 0 ≤ _; omega) (by show (sl + 18) + (0) ≤ _; omega) ?_
      refine x_if_eq (tgt := 313) C dL_isLike_306 (by decide) (fun h57 => ?_) (fun h57 => ?_)
      · replace hf := bs_pos h57 hf
        refine x_aload C dL_isLike_313 rfl ?_
        obtain ⟨hg54, hf⟩ := bs_if hf
        refine xg_L_183 C hg54 dL_isLike_315 ?_
        refine x_iload C dL_isLike_318 rfl ?_
        obtain ⟨hg55, hf⟩ := bs_if hf
        refine xl_img C hg54 hg55 dL_isLike_320 ?_
        refine x_sub [0, 1, 2, 3, 4] rfl ?_
        exact qL_isLike_321 k130 (hL_isLike_288  k130 n) C hst hk130 hn130 ih ⟨by omega, by omega⟩ _ _ _ _ _ _ _ _  _ _ hg54 (by omega) (by omega) hf
      · replace hf := bs_neg h57 hf
        refine x_iconst (v := -1) C dL_isLike_309 (by decide) ?_
        refine x_goto (tgt := 321) C dL_isLike_310 (by decide) ?_
        obtain ⟨hg56, hf⟩ := bs_if hf
        refine x_sub [0, 1, 2, 3, 4] rfl ?_
        exact qL_isLike_321 k130 (hL_isLike_288  k130 n) C hst hk130 hn130 ih ⟨by omega, by omega⟩ _ _ _ _ _ _ _ _  _ _ hg56 (by omega) (by omega) hf
set_option maxHeartbeats 4000000 in
set_option maxRecDepth 100000 in
theorem qL_isLike_255 {p : Program} {l : Launch} {e : Env} {s : State} {m : MethodId} {args : Array Value} {below : List Frame} {meth : Method} {c : Code} {ρ : bsR} {sc L : Nat} {xs : Nat → Int32} {cA : Nat → ClassId} {dC : Nat → ClassId} {dI : Nat → Nat → Nat} {A : Nat → Prop} {Ts : List Cond} {σ : xA2} {F : va_W} (k130 : Int32 → bsX → pY → Option (Int32 × bsX × pY)) {z : (Int32 × bsX × pY)} (C : xCx p m c cL_isLike 7 s args Ts RL ρ sc L xs cA dC dI A meth (some .boolean)) (hst : l.stackTraces = false) {NC130 NS130 : Nat} (hk130 : ∀ (x3 : Int32) (X : bsX) (Z : pY) (θ : xA2) (cl sl : Nat), cl + NC130 ≤ 610 → sl + NS130 ≤ 3677 → k130 x3 X Z = some z → xV p l e rmL_isLike s m args below meth c cl sl (MQ below (xQi ρ cA dC dI A (fun r X' R' => r = z.1 ∧ X' = z.2.1 ∧ ∃ θ' : xA2, R' = lwWs σ θ' cA z.2.2 ++ F)) args s rmL_isLike.cells rmL_isLike.slots A) ρ cA dC dI A (lwWs σ θ cA Z ++ (F ++ [])) 7 130 [(0, .ref (ρ 13 0 0)), (1, .ref (σ 0 0)), (3, .int x3)] [] X) (hn130 : 175 ≤ NC130 ∧ 1040 ≤ NS130)  : ∀ (n : Nat), ∀ (x3 : Int32) (q4 : Nat) (f5 : (Nat → Int32)) (x6 : Int32) (X : bsX) (Z : pY) (θ : xA2) (α5 : Nat) (cl sl : Nat), q4 < ln Z → cl + (n * 3 + (18 + NC130)) ≤ 610 → sl + (n * 18 + (108 + NS130)) ≤ 3677 → hL_isLike_255 k130 n x3 q4 f5 x6 X Z = some z → xV p l e rmL_isLike s m args below meth c cl sl (MQ below (xQi ρ cA dC dI A (fun r X' R' => r = z.1 ∧ X' = z.2.1 ∧ ∃ θ' : xA2, R' = lwWs σ θ' cA z.2.2 ++ F)) args s rmL_isLike.cells rmL_isLike.slots A) ρ cA dC dI A (lwWs σ θ cA Z ++ (F ++ [(α5, .inl (cA 0, 9, .inl f5))])) 7 255 [(0, .ref (ρ 13 0 0)), (1, .ref (σ 0 0)), (3, .int x3), (4, .ref (σ 5 q4)), (5, .ref α5), (6, .int x6)] [] X := by
  intro n
  induction n with
  | zero => intro x3 q4 f5 x6 X Z θ α5 cl sl hq4 hcl hsl hf; exact (nomatch hf)
  | succ n ih =>
    intro x3 q4 f5 x6 X Z θ α5 cl sl hq4 hcl hsl hf
    rw [hL_isLike_255] at hf
    refine x_iload C dL_isLike_255 rfl ?_
    refine x_bipush (v := 9) C dL_isLike_257 (by decide) ?_
    refine x_icmp_ge (tgt := 285) C dL_isLike_259 (by decide) (fun h81 => ?_) (fun h81 => ?_)
    · replace hf := bs_pos h81 hf
      refine x_iconst (v := 0) C dL_isLike_285 (by decide) ?_
      refine x_istore (lv' := [(6, .int (0 : Int32)), (0, .ref (ρ 13 0 0)), (1, .ref (σ 0 0)), (3, .int x3), (4, .ref (σ 5 q4)), (5, .ref α5)]) C dL_isLike_286 (by decide) rfl ?_
      refine x_sub [1, 2, 3, 4, 0] rfl ?_
      refine xu_drop (T' := []) (List.Sublist.cons _ List.Sublist.slnil) ?_
      exact qL_isLike_288 k130 C hst hk130 hn130 6 _ _ _ _ _ _  _ _ hq4 (by omega) (by omega) hf
    · replace hf := bs_neg h81 hf
      refine x_aload_n C dL_isLike_262 rfl rfl ?_
      refine x_iload_n C dL_isLike_263 rfl rfl ?_
      refine x_iload C dL_isLike_264 rfl ?_
      obtain ⟨r76, hc77, hf⟩ := bs_bind hf
      obtain ⟨h078, hf⟩ := bs_if hf
      refine x_callT (y := yX8_slot) (As := [.int x3, .int x6]) (rest := []) C (cX8_slot_ok hst hc77) h078 ml_L_36 wyX8_slot bsm_X8 bsc_X8 rfl dpX8_slot ⟨Nat.le_of_ble_eq_true rfl, Nat.le_of_ble_eq_true rfl⟩ ⟨by show (cl) + 3 ≤ 610; omega, by show (sl) + 18 ≤ 3677; omega⟩ rfl (Nat.le_of_ble_eq_true rfl) dL_isLike_266 ?_
      refine x_widen (k := (cl + 3)) (n := (sl + 18)) (by show (cl) + 3 ≤ _; omega) (by show (sl) + 18 ≤ _; omega) ?_
      refine x_aload C dL_isLike_269 rfl ?_
      refine x_iload C dL_isLike_271 rfl ?_
      obtain ⟨hg79, hf⟩ := bs_if hf
      refine xu_ld C 0 rfl hg79 dL_isLike_273 ?_
      refine x_icmp_eq (tgt := 279) C dL_isLike_274 (by decide) (fun h80 => ?_) (fun h80 => ?_)
      · replace hf := bs_pos h80 hf
        refine x_iinc (k0 := 5) (v := (x6 + (1 : Int32))) (lv' := [(6, .int (x6 + (1 : Int32))), (0, .ref (ρ 13 0 0)), (1, .ref (σ 0 0)), (3, .int x3), (4, .ref (σ 5 q4)), (5, .ref α5)]) C dL_isLike_279 rfl rfl (by decide) rfl ?_
        refine x_goto (tgt := 255) C dL_isLike_282 (by decide) ?_
        refine x_sub [1, 2, 3, 4, 5, 0] rfl ?_
        exact ih _ _ _ _ _ _ _ _ _ _ hq4 (by omega) (by omega) hf
      · replace hf := bs_neg h80 hf
        refine x_iconst (v := 0) C dL_isLike_277 (by decide) ?_
        obtain rfl := Option.some.inj hf
        refine xu_dropall ?_
        exact x_xret C (bsZ01 (by decide)).1 ⟨rfl, rfl, _, rfl⟩ (by show _ ≤ 610; omega) (by show _ ≤ 3677; omega) dL_isLike_278
set_option maxHeartbeats 4000000 in
set_option maxRecDepth 100000 in
theorem qL_isLike_222 {p : Program} {l : Launch} {e : Env} {s : State} {m : MethodId} {args : Array Value} {below : List Frame} {meth : Method} {c : Code} {ρ : bsR} {sc L : Nat} {xs : Nat → Int32} {cA : Nat → ClassId} {dC : Nat → ClassId} {dI : Nat → Nat → Nat} {A : Nat → Prop} {Ts : List Cond} {σ : xA2} {F : va_W} (k130 : Int32 → bsX → pY → Option (Int32 × bsX × pY)) {z : (Int32 × bsX × pY)} (C : xCx p m c cL_isLike 7 s args Ts RL ρ sc L xs cA dC dI A meth (some .boolean)) (hst : l.stackTraces = false) {NC130 NS130 : Nat} (hk130 : ∀ (x3 : Int32) (X : bsX) (Z : pY) (θ : xA2) (cl sl : Nat), cl + NC130 ≤ 610 → sl + NS130 ≤ 3677 → k130 x3 X Z = some z → xV p l e rmL_isLike s m args below meth c cl sl (MQ below (xQi ρ cA dC dI A (fun r X' R' => r = z.1 ∧ X' = z.2.1 ∧ ∃ θ' : xA2, R' = lwWs σ θ' cA z.2.2 ++ F)) args s rmL_isLike.cells rmL_isLike.slots A) ρ cA dC dI A (lwWs σ θ cA Z ++ (F ++ [])) 7 130 [(0, .ref (ρ 13 0 0)), (1, .ref (σ 0 0)), (3, .int x3)] [] X) (hn130 : 175 ≤ NC130 ∧ 1040 ≤ NS130)  : ∀ (x3 : Int32) (q4 : Nat) (f0 : (Nat → Int32)) (y2 : Int32) (y3 : Int32) (X : bsX) (Z : pY) (θ : xA2) (α0 : Nat) (cl sl : Nat), q4 < ln Z → cl + ((48 + NC130)) ≤ 610 → sl + ((288 + NS130)) ≤ 3677 → hL_isLike_222 k130 x3 q4 f0 y2 y3 X Z = some z → xV p l e rmL_isLike s m args below meth c cl sl (MQ below (xQi ρ cA dC dI A (fun r X' R' => r = z.1 ∧ X' = z.2.1 ∧ ∃ θ' : xA2, R' = lwWs σ θ' cA z.2.2 ++ F)) args s rmL_isLike.cells rmL_isLike.slots A) ρ cA dC dI A (lwWs σ θ cA Z ++ (F ++ [(α0, .inl (cA 0, 9, .inl f0))])) 7 222 [(0, .ref (ρ 13 0 0)), (1, .ref (σ 0 0)), (3, .int x3), (4, .ref (σ 5 q4))] [.int y3, .int y2, .ref α0, .ref α0] X := by
  intro x3 q4 f0 y2 y3 X Z θ α0 cl sl hq4 hcl hsl hf
  rw [hL_isLike_222] at hf
  obtain ⟨hg46, hf⟩ := bs_if hf
  refine xu_st (T' := [(α0, .inl (cA 0, 9, .inl (upd f0 (bsIx y2) y3)))]) C 0 rfl hg46 rfl dL_isLike_222 ?_
  refine x_dup C dL_isLike_223 rfl ?_
  refine x_bipush (v := 6) C dL_isLike_224 (by decide) ?_
  refine x_aload C dL_isLike_226 rfl ?_
  refine xg_L_174 C hq4 dL_isLike_228 ?_
  refine xu_st (T' := [(α0, .inl (cA 0, 9, .inl (upd (upd f0 (bsIx y2) y3) 6 (Z 5 q4 6))))]) C 0 rfl (by decide) rfl dL_isLike_231 ?_
  refine x_dup C dL_isLike_232 rfl ?_
  refine x_bipush (v := 7) C dL_isLike_233 (by decide) ?_
  refine x_aload C dL_isLike_235 rfl ?_
  refine xg_L_177 C hq4 dL_isLike_237 ?_
  refine xu_st (T' := [(α0, .inl (cA 0, 9, .inl (upd (upd (upd f0 (bsIx y2) y3) 6 (Z 5 q4 6)) 7 (Z 5 q4 7))))]) C 0 rfl (by decide) rfl dL_isLike_240 ?_
  refine x_dup C dL_isLike_241 rfl ?_
  refine x_bipush (v := 8) C dL_isLike_242 (by decide) ?_
  refine x_aload C dL_isLike_244 rfl ?_
  refine xg_L_180 C hq4 dL_isLike_246 ?_
  refine xu_st (T' := [(α0, .inl (cA 0, 9, .inl (upd (upd (upd (upd f0 (bsIx y2) y3) 6 (Z 5 q4 6)) 7 (Z 5 q4 7)) 8 (Z 5 q4 8))))]) C 0 rfl (by decide) rfl dL_isLike_249 ?_
  refine x_astore (lv' := [(5, .ref α0), (0, .ref (ρ 13 0 0)), (1, .ref (σ 0 0)), (3, .int x3), (4, .ref (σ 5 q4))]) C dL_isLike_250 (by decide) rfl ?_
  refine x_iconst (v := 0) C dL_isLike_252 (by decide) ?_
  refine x_istore (lv' := [(6, .int (0 : Int32)), (5, .ref α0), (0, .ref (ρ 13 0 0)), (1, .ref (σ 0 0)), (3, .int x3), (4, .ref (σ 5 q4))]) C dL_isLike_253 (by decide) rfl ?_
  refine x_sub [2, 3, 4, 5, 1, 0] rfl ?_
  exact qL_isLike_255 k130 C hst hk130 hn130 10 _ _ _ _ _ _ _ _ _ _ hq4 (by omega) (by omega) hf
set_option maxHeartbeats 4000000 in
set_option maxRecDepth 100000 in
theorem qL_isLike_198 {p : Program} {l : Launch} {e : Env} {s : State} {m : MethodId} {args : Array Value} {below : List Frame} {meth : Method} {c : Code} {ρ : bsR} {sc L : Nat} {xs : Nat → Int32} {cA : Nat → ClassId} {dC : Nat → ClassId} {dI : Nat → Nat → Nat} {A : Nat → Prop} {Ts : List Cond} {σ : xA2} {F : va_W} (k130 : Int32 → bsX → pY → Option (Int32 × bsX × pY)) {z : (Int32 × bsX × pY)} (C : xCx p m c cL_isLike 7 s args Ts RL ρ sc L xs cA dC dI A meth (some .boolean)) (hst : l.stackTraces = false) {NC130 NS130 : Nat} (hk130 : ∀ (x3 : Int32) (X : bsX) (Z : pY) (θ : xA2) (cl sl : Nat), cl + NC130 ≤ 610 → sl + NS130 ≤ 3677 → k130 x3 X Z = some z → xV p l e rmL_isLike s m args below meth c cl sl (MQ below (xQi ρ cA dC dI A (fun r X' R' => r = z.1 ∧ X' = z.2.1 ∧ ∃ θ' : xA2, R' = lwWs σ θ' cA z.2.2 ++ F)) args s rmL_isLike.cells rmL_isLike.slots A) ρ cA dC dI A (lwWs σ θ cA Z ++ (F ++ [])) 7 130 [(0, .ref (ρ 13 0 0)), (1, .ref (σ 0 0)), (3, .int x3)] [] X) (hn130 : 175 ≤ NC130 ∧ 1040 ≤ NS130)  : ∀ (x3 : Int32) (q4 : Nat) (f0 : (Nat → Int32)) (y2 : Int32) (y3 : Int32) (X : bsX) (Z : pY) (θ : xA2) (α0 : Nat) (cl sl : Nat), q4 < ln Z → cl + ((48 + NC130)) ≤ 610 → sl + ((288 + NS130)) ≤ 3677 → hL_isLike_198 k130 x3 q4 f0 y2 y3 X Z = some z → xV p l e rmL_isLike s m args below meth c cl sl (MQ below (xQi ρ cA dC dI A (fun r X' R' => r = z.1 ∧ X' = z.2.1 ∧ ∃ θ' : xA2, R' = lwWs σ θ' cA z.2.2 ++ F)) args s rmL_isLike.cells rmL_isLike.slots A) ρ cA dC dI A (lwWs σ θ cA Z ++ (F ++ [(α0, .inl (cA 0, 9, .inl f0))])) 7 198 [(0, .ref (ρ 13 0 0)), (1, .ref (σ 0 0)), (3, .int x3), (4, .ref (σ 5 q4))] [.int y3, .int y2, .ref α0, .ref α0] X := by
  intro x3 q4 f0 y2 y3 X Z θ α0 cl sl hq4 hcl hsl hf
  rw [hL_isLike_198] at hf
  obtain ⟨hg12, hf⟩ := bs_if hf
  refine xu_st (T' := [(α0, .inl (cA 0, 9, .inl (upd f0 (bsIx y2) y3)))]) C 0 rfl hg12 rfl dL_isLike_198 ?_
  refine x_dup C dL_isLike_199 rfl ?_
  refine x_iconst (v := 4) C dL_isLike_200 (by decide) ?_
  refine x_aload C dL_isLike_201 rfl ?_
  refine xg_L_171 C hq4 dL_isLike_203 ?_
  refine xu_st (T' := [(α0, .inl (cA 0, 9, .inl (upd (upd f0 (bsIx y2) y3) 4 (Z 5 q4 5))))]) C 0 rfl (by decide) rfl dL_isLike_206 ?_
  refine x_dup C dL_isLike_207 rfl ?_
  refine x_iconst (v := 5) C dL_isLike_208 (by decide) ?_
  refine x_aload_n C dL_isLike_209 rfl rfl ?_
  refine x_iload_n C dL_isLike_210 rfl rfl ?_
  obtain ⟨r13, hc14, hf⟩ := bs_bind hf
  obtain ⟨q0, he⟩ := xr_wor σ θ cA Z (F ++ [(α0, .inl (cA 0, 9, .inl (upd (upd f0 (bsIx y2) y3) 4 (Z 5 q4 5))))])
  refine x_callVi (y := yX11_why) (As := [.int x3]) (rest := [.int (5 : Int32), .ref α0, .ref α0]) C (cX11_why_ok (F := F ++ [(α0, .inl (cA 0, 9, .inl (upd (upd f0 (bsIx y2) y3) 4 (Z 5 q4 5))))])  hc14) ml_L_120 wyX11_why he rfl dpX11_why ⟨Nat.le_of_ble_eq_true rfl, Nat.le_of_ble_eq_true rfl⟩ ⟨by show (cl) + 0 ≤ 610; omega, by show (sl) + (0) ≤ 3677; omega⟩ rfl (Nat.le_of_ble_eq_true rfl) dL_isLike_211 (fun r' X' R' hp => ?_)
  obtain ⟨rfl, rfl, θ, rfl⟩ := hp
  refine x_widen (k := (cl)) (n := (sl)) (by show (cl) + 0 ≤ _; omega) (by show (sl) + (0) ≤ _; omega) ?_
  refine x_if_ne (tgt := 221) C dL_isLike_214 (by decide) (fun h18 => ?_) (fun h18 => ?_)
  · replace hf := bs_neg h18 hf
    refine x_iconst (v := 0) C dL_isLike_221 (by decide) ?_
    obtain ⟨hg16, hf⟩ := bs_if hf
    refine x_sub [0, 1, 2, 3] rfl ?_
    exact qL_isLike_222 k130 C hst hk130 hn130 _ _ _ _ _ _ _ _ _ _ _ hg16 (by omega) (by omega) hf
  · replace hf := bs_pos h18 hf
    refine x_iconst (v := 1) C dL_isLike_217 (by decide) ?_
    refine x_goto (tgt := 222) C dL_isLike_218 (by decide) ?_
    obtain ⟨hg17, hf⟩ := bs_if hf
    refine x_sub [0, 1, 2, 3] rfl ?_
    exact qL_isLike_222 k130 C hst hk130 hn130 _ _ _ _ _ _ _ _ _ _ _ hg17 (by omega) (by omega) hf
set_option maxHeartbeats 4000000 in
set_option maxRecDepth 100000 in
theorem qL_isLike_166 {p : Program} {l : Launch} {e : Env} {s : State} {m : MethodId} {args : Array Value} {below : List Frame} {meth : Method} {c : Code} {ρ : bsR} {sc L : Nat} {xs : Nat → Int32} {cA : Nat → ClassId} {dC : Nat → ClassId} {dI : Nat → Nat → Nat} {A : Nat → Prop} {Ts : List Cond} {σ : xA2} {F : va_W} (k130 : Int32 → bsX → pY → Option (Int32 × bsX × pY)) {z : (Int32 × bsX × pY)} (C : xCx p m c cL_isLike 7 s args Ts RL ρ sc L xs cA dC dI A meth (some .boolean)) (hst : l.stackTraces = false) {NC130 NS130 : Nat} (hk130 : ∀ (x3 : Int32) (X : bsX) (Z : pY) (θ : xA2) (cl sl : Nat), cl + NC130 ≤ 610 → sl + NS130 ≤ 3677 → k130 x3 X Z = some z → xV p l e rmL_isLike s m args below meth c cl sl (MQ below (xQi ρ cA dC dI A (fun r X' R' => r = z.1 ∧ X' = z.2.1 ∧ ∃ θ' : xA2, R' = lwWs σ θ' cA z.2.2 ++ F)) args s rmL_isLike.cells rmL_isLike.slots A) ρ cA dC dI A (lwWs σ θ cA Z ++ (F ++ [])) 7 130 [(0, .ref (ρ 13 0 0)), (1, .ref (σ 0 0)), (3, .int x3)] [] X) (hn130 : 175 ≤ NC130 ∧ 1040 ≤ NS130)  : ∀ (x3 : Int32) (q4 : Nat) (f0 : (Nat → Int32)) (y2 : Int32) (y3 : Int32) (X : bsX) (Z : pY) (θ : xA2) (α0 : Nat) (cl sl : Nat), q4 < ln Z → cl + ((48 + NC130)) ≤ 610 → sl + ((288 + NS130)) ≤ 3677 → hL_isLike_166 k130 x3 q4 f0 y2 y3 X Z = some z → xV p l e rmL_isLike s m args below meth c cl sl (MQ below (xQi ρ cA dC dI A (fun r X' R' => r = z.1 ∧ X' = z.2.1 ∧ ∃ θ' : xA2, R' = lwWs σ θ' cA z.2.2 ++ F)) args s rmL_isLike.cells rmL_isLike.slots A) ρ cA dC dI A (lwWs σ θ cA Z ++ (F ++ [(α0, .inl (cA 0, 9, .inl f0))])) 7 166 [(0, .ref (ρ 13 0 0)), (1, .ref (σ 0 0)), (3, .int x3), (4, .ref (σ 5 q4))] [.int y3, .int y2, .ref α0, .ref α0] X := by
  intro x3 q4 f0 y2 y3 X Z θ α0 cl sl hq4 hcl hsl hf
  rw [hL_isLike_166] at hf
  obtain ⟨hg59, hf⟩ := bs_if hf
  refine xu_st (T' := [(α0, .inl (cA 0, 9, .inl (upd f0 (bsIx y2) y3)))]) C 0 rfl hg59 rfl dL_isLike_166 ?_
  refine x_dup C dL_isLike_167 rfl ?_
  refine x_iconst (v := 1) C dL_isLike_168 (by decide) ?_
  refine x_aload C dL_isLike_169 rfl ?_
  refine xg_L_168 C hq4 dL_isLike_171 ?_
  refine xu_st (T' := [(α0, .inl (cA 0, 9, .inl (upd (upd f0 (bsIx y2) y3) 1 (Z 5 q4 2))))]) C 0 rfl (by decide) rfl dL_isLike_174 ?_
  refine x_dup C dL_isLike_175 rfl ?_
  refine x_iconst (v := 2) C dL_isLike_176 (by decide) ?_
  refine x_aload C dL_isLike_177 rfl ?_
  refine xg_L_129 C hq4 dL_isLike_179 ?_
  refine xu_st (T' := [(α0, .inl (cA 0, 9, .inl (upd (upd (upd f0 (bsIx y2) y3) 1 (Z 5 q4 2)) 2 (Z 5 q4 3))))]) C 0 rfl (by decide) rfl dL_isLike_182 ?_
  refine x_dup C dL_isLike_183 rfl ?_
  refine x_iconst (v := 3) C dL_isLike_184 (by decide) ?_
  refine x_aload C dL_isLike_185 rfl ?_
  refine xg_L_123 C hq4 dL_isLike_187 ?_
  refine x_if_eq (tgt := 197) C dL_isLike_190 (by decide) (fun h60 => ?_) (fun h60 => ?_)
  · replace hf := bs_pos h60 hf
    refine x_iconst (v := 0) C dL_isLike_197 (by decide) ?_
    refine x_sub [0, 1, 2, 3] rfl ?_
    exact qL_isLike_198 k130 C hst hk130 hn130 _ _ _ _ _ _ _ _ _ _ _ hq4 (by omega) (by omega) hf
  · replace hf := bs_neg h60 hf
    refine x_iconst (v := 1) C dL_isLike_193 (by decide) ?_
    refine x_goto (tgt := 198) C dL_isLike_194 (by decide) ?_
    refine x_sub [0, 1, 2, 3] rfl ?_
    exact qL_isLike_198 k130 C hst hk130 hn130 _ _ _ _ _ _ _ _ _ _ _ hq4 (by omega) (by omega) hf
set_option maxHeartbeats 4000000 in
set_option maxRecDepth 100000 in
theorem qL_isLike_399 {p : Program} {l : Launch} {e : Env} {s : State} {m : MethodId} {args : Array Value} {below : List Frame} {meth : Method} {c : Code} {ρ : bsR} {sc L : Nat} {xs : Nat → Int32} {cA : Nat → ClassId} {dC : Nat → ClassId} {dI : Nat → Nat → Nat} {A : Nat → Prop} {Ts : List Cond} {σ : xA2} {F : va_W} (k372 : (Nat → Int32) → Int32 → bsX → pY → Option (Int32 × bsX × pY)) {z : (Int32 × bsX × pY)} (C : xCx p m c cL_isLike 7 s args Ts RL ρ sc L xs cA dC dI A meth (some .boolean)) (hst : l.stackTraces = false) {NC372 NS372 : Nat} (hk372 : ∀ (f3 : (Nat → Int32)) (x4 : Int32) (X : bsX) (Z : pY) (θ : xA2) (α3 : Nat) (cl sl : Nat), cl + NC372 ≤ 610 → sl + NS372 ≤ 3677 → k372 f3 x4 X Z = some z → xV p l e rmL_isLike s m args below meth c cl sl (MQ below (xQi ρ cA dC dI A (fun r X' R' => r = z.1 ∧ X' = z.2.1 ∧ ∃ θ' : xA2, R' = lwWs σ θ' cA z.2.2 ++ F)) args s rmL_isLike.cells rmL_isLike.slots A) ρ cA dC dI A (lwWs σ θ cA Z ++ (F ++ [(α3, .inl (cA 0, 4, .inl f3))])) 7 372 [(0, .ref (ρ 13 0 0)), (1, .ref (σ 0 0)), (3, .ref α3), (4, .int x4)] [] X) (hn372 : 164 ≤ NC372 ∧ 976 ≤ NS372)  : ∀ (f3 : (Nat → Int32)) (x4 : Int32) (y0 : Int32) (y1 : Int32) (X : bsX) (Z : pY) (θ : xA2) (α3 : Nat) (cl sl : Nat), cl + ((0 + NC372)) ≤ 610 → sl + ((0 + NS372)) ≤ 3677 → hL_isLike_399 k372 f3 x4 y0 y1 X Z = some z → xV p l e rmL_isLike s m args below meth c cl sl (MQ below (xQi ρ cA dC dI A (fun r X' R' => r = z.1 ∧ X' = z.2.1 ∧ ∃ θ' : xA2, R' = lwWs σ θ' cA z.2.2 ++ F)) args s rmL_isLike.cells rmL_isLike.slots A) ρ cA dC dI A (lwWs σ θ cA Z ++ (F ++ [(α3, .inl (cA 0, 4, .inl f3))])) 7 399 [(0, .ref (ρ 13 0 0)), (1, .ref (σ 0 0)), (3, .ref α3), (4, .int x4)] [.int y1, .int y0] X := by
  intro f3 x4 y0 y1 X Z θ α3 cl sl hcl hsl hf
  rw [hL_isLike_399] at hf
  refine x_icmp_eq (tgt := 404) C dL_isLike_399 (by decide) (fun h30 => ?_) (fun h30 => ?_)
  · replace hf := bs_pos h30 hf
    refine x_iinc (k0 := 3) (v := (x4 + (1 : Int32))) (lv' := [(4, .int (x4 + (1 : Int32))), (0, .ref (ρ 13 0 0)), (1, .ref (σ 0 0)), (3, .ref α3)]) C dL_isLike_404 rfl rfl (by decide) rfl ?_
    refine x_goto (tgt := 372) C dL_isLike_407 (by decide) ?_
    refine x_sub [1, 2, 3, 0] rfl ?_
    exact hk372 _ _ _ _ _ _ _ _  (by omega) (by omega) hf
  · replace hf := bs_neg h30 hf
    refine x_iconst (v := 0) C dL_isLike_402 (by decide) ?_
    obtain rfl := Option.some.inj hf
    refine xu_dropall ?_
    exact x_xret C (bsZ01 (by decide)).1 ⟨rfl, rfl, _, rfl⟩ (by show _ ≤ 610; omega) (by show _ ≤ 3677; omega) dL_isLike_403
set_option maxHeartbeats 4000000 in
set_option maxRecDepth 100000 in
theorem qL_isLike_477 {p : Program} {l : Launch} {e : Env} {s : State} {m : MethodId} {args : Array Value} {below : List Frame} {meth : Method} {c : Code} {ρ : bsR} {sc L : Nat} {xs : Nat → Int32} {cA : Nat → ClassId} {dC : Nat → ClassId} {dI : Nat → Nat → Nat} {A : Nat → Prop} {Ts : List Cond} {σ : xA2} {F : va_W} (k413 : Int32 → bsX → pY → Option (Int32 × bsX × pY)) (k423 : Int32 → Int32 → bsX → pY → Option (Int32 × bsX × pY)) {z : (Int32 × bsX × pY)} (C : xCx p m c cL_isLike 7 s args Ts RL ρ sc L xs cA dC dI A meth (some .boolean)) (hst : l.stackTraces = false) {NC413 NS413 : Nat} (hk413 : ∀ (x4 : Int32) (X : bsX) (Z : pY) (θ : xA2) (cl sl : Nat), cl + NC413 ≤ 610 → sl + NS413 ≤ 3677 → k413 x4 X Z = some z → xV p l e rmL_isLike s m args below meth c cl sl (MQ below (xQi ρ cA dC dI A (fun r X' R' => r = z.1 ∧ X' = z.2.1 ∧ ∃ θ' : xA2, R' = lwWs σ θ' cA z.2.2 ++ F)) args s rmL_isLike.cells rmL_isLike.slots A) ρ cA dC dI A (lwWs σ θ cA Z ++ (F ++ [])) 7 413 [(0, .ref (ρ 13 0 0)), (1, .ref (σ 0 0)), (4, .int x4)] [] X) (hn413 : 24 ≤ NC413 ∧ 136 ≤ NS413) {NC423 NS423 : Nat} (hk423 : ∀ (x4 : Int32) (x5 : Int32) (X : bsX) (Z : pY) (θ : xA2) (cl sl : Nat), cl + NC423 ≤ 610 → sl + NS423 ≤ 3677 → k423 x4 x5 X Z = some z → xV p l e rmL_isLike s m args below meth c cl sl (MQ below (xQi ρ cA dC dI A (fun r X' R' => r = z.1 ∧ X' = z.2.1 ∧ ∃ θ' : xA2, R' = lwWs σ θ' cA z.2.2 ++ F)) args s rmL_isLike.cells rmL_isLike.slots A) ρ cA dC dI A (lwWs σ θ cA Z ++ (F ++ [])) 7 423 [(0, .ref (ρ 13 0 0)), (1, .ref (σ 0 0)), (4, .int x4), (5, .int x5)] [] X) (hn423 : 0 + NC413 ≤ NC423 ∧ 0 + NS413 ≤ NS423)  : ∀ (x4 : Int32) (x5 : Int32) (y0 : Int32) (y1 : Int32) (X : bsX) (Z : pY) (θ : xA2) (cl sl : Nat), cl + ((0 + NC423)) ≤ 610 → sl + ((0 + NS423)) ≤ 3677 → hL_isLike_477 k413 k423 x4 x5 y0 y1 X Z = some z → xV p l e rmL_isLike s m args below meth c cl sl (MQ below (xQi ρ cA dC dI A (fun r X' R' => r = z.1 ∧ X' = z.2.1 ∧ ∃ θ' : xA2, R' = lwWs σ θ' cA z.2.2 ++ F)) args s rmL_isLike.cells rmL_isLike.slots A) ρ cA dC dI A (lwWs σ θ cA Z ++ (F ++ [])) 7 477 [(0, .ref (ρ 13 0 0)), (1, .ref (σ 0 0)), (4, .int x4), (5, .int x5)] [.int y1, .int y0] X := by
  intro x4 x5 y0 y1 X Z θ cl sl hcl hsl hf
  rw [hL_isLike_477] at hf
  refine x_icmp_eq (tgt := 482) C dL_isLike_477 (by decide) (fun h47 => ?_) (fun h47 => ?_)
  · replace hf := bs_pos h47 hf
    refine x_iinc (k0 := 3) (v := (x5 + (1 : Int32))) (lv' := [(5, .int (x5 + (1 : Int32))), (0, .ref (ρ 13 0 0)), (1, .ref (σ 0 0)), (4, .int x4)]) C dL_isLike_482 rfl rfl (by decide) rfl ?_
    refine x_goto (tgt := 423) C dL_isLike_485 (by decide) ?_
    refine x_sub [1, 2, 3, 0] rfl ?_
    exact hk423 _ _ _ _ _  _ _  (by omega) (by omega) hf
  · replace hf := bs_neg h47 hf
    refine x_iconst (v := 0) C dL_isLike_480 (by decide) ?_
    obtain rfl := Option.some.inj hf
    refine xu_dropall ?_
    exact x_xret C (bsZ01 (by decide)).1 ⟨rfl, rfl, _, rfl⟩ (by show _ ≤ 610; omega) (by show _ ≤ 3677; omega) dL_isLike_481
set_option maxHeartbeats 4000000 in
set_option maxRecDepth 100000 in
theorem qL_isLike_475 {p : Program} {l : Launch} {e : Env} {s : State} {m : MethodId} {args : Array Value} {below : List Frame} {meth : Method} {c : Code} {ρ : bsR} {sc L : Nat} {xs : Nat → Int32} {cA : Nat → ClassId} {dC : Nat → ClassId} {dI : Nat → Nat → Nat} {A : Nat → Prop} {Ts : List Cond} {σ : xA2} {F : va_W} (k413 : Int32 → bsX → pY → Option (Int32 × bsX × pY)) (k423 : Int32 → Int32 → bsX → pY → Option (Int32 × bsX × pY)) {z : (Int32 × bsX × pY)} (C : xCx p m c cL_isLike 7 s args Ts RL ρ sc L xs cA dC dI A meth (some .boolean)) (hst : l.stackTraces = false) {NC413 NS413 : Nat} (hk413 : ∀ (x4 : Int32) (X : bsX) (Z : pY) (θ : xA2) (cl sl : Nat), cl + NC413 ≤ 610 → sl + NS413 ≤ 3677 → k413 x4 X Z = some z → xV p l e rmL_isLike s m args below meth c cl sl (MQ below (xQi ρ cA dC dI A (fun r X' R' => r = z.1 ∧ X' = z.2.1 ∧ ∃ θ' : xA2, R' = lwWs σ θ' cA z.2.2 ++ F)) args s rmL_isLike.cells rmL_isLike.slots A) ρ cA dC dI A (lwWs σ θ cA Z ++ (F ++ [])) 7 413 [(0, .ref (ρ 13 0 0)), (1, .ref (σ 0 0)), (4, .int x4)] [] X) (hn413 : 24 ≤ NC413 ∧ 136 ≤ NS413) {NC423 NS423 : Nat} (hk423 : ∀ (x4 : Int32) (x5 : Int32) (X : bsX) (Z : pY) (θ : xA2) (cl sl : Nat), cl + NC423 ≤ 610 → sl + NS423 ≤ 3677 → k423 x4 x5 X Z = some z → xV p l e rmL_isLike s m args below meth c cl sl (MQ below (xQi ρ cA dC dI A (fun r X' R' => r = z.1 ∧ X' = z.2.1 ∧ ∃ θ' : xA2, R' = lwWs σ θ' cA z.2.2 ++ F)) args s rmL_isLike.cells rmL_isLike.slots A) ρ cA dC dI A (lwWs σ θ cA Z ++ (F ++ [])) 7 423 [(0, .ref (ρ 13 0 0)), (1, .ref (σ 0 0)), (4, .int x4), (5, .int x5)] [] X) (hn423 : 0 + NC413 ≤ NC423 ∧ 0 + NS413 ≤ NS423)  : ∀ (x4 : Int32) (x5 : Int32) (y0 : Int32) (X : bsX) (Z : pY) (θ : xA2) (cl sl : Nat), cl + ((0 + NC423)) ≤ 610 → sl + ((0 + NS423)) ≤ 3677 → hL_isLike_475 k413 k423 x4 x5 y0 X Z = some z → xV p l e rmL_isLike s m args below meth c cl sl (MQ below (xQi ρ cA dC dI A (fun r X' R' => r = z.1 ∧ X' = z.2.1 ∧ ∃ θ' : xA2, R' = lwWs σ θ' cA z.2.2 ++ F)) args s rmL_isLike.cells rmL_isLike.slots A) ρ cA dC dI A (lwWs σ θ cA Z ++ (F ++ [])) 7 475 [(0, .ref (ρ 13 0 0)), (1, .ref (σ 0 0)), (4, .int x4), (5, .int x5)] [.int y0] X := by
  intro x4 x5 y0 X Z θ cl sl hcl hsl hf
  rw [hL_isLike_475] at hf
  refine x_bipush (v := -2) C dL_isLike_475 (by decide) ?_
  refine x_sub [0, 1, 2, 3] rfl ?_
  exact qL_isLike_477 k413 k423 C hst hk413 hn413 hk423 hn423 _ _ _ _ _ _ _  _ _  (by omega) (by omega) hf
set_option maxHeartbeats 4000000 in
set_option maxRecDepth 100000 in
theorem qL_isLike_423 {p : Program} {l : Launch} {e : Env} {s : State} {m : MethodId} {args : Array Value} {below : List Frame} {meth : Method} {c : Code} {ρ : bsR} {sc L : Nat} {xs : Nat → Int32} {cA : Nat → ClassId} {dC : Nat → ClassId} {dI : Nat → Nat → Nat} {A : Nat → Prop} {Ts : List Cond} {σ : xA2} {F : va_W} (k413 : Int32 → bsX → pY → Option (Int32 × bsX × pY)) {z : (Int32 × bsX × pY)} (C : xCx p m c cL_isLike 7 s args Ts RL ρ sc L xs cA dC dI A meth (some .boolean)) (hst : l.stackTraces = false) {NC413 NS413 : Nat} (hk413 : ∀ (x4 : Int32) (X : bsX) (Z : pY) (θ : xA2) (cl sl : Nat), cl + NC413 ≤ 610 → sl + NS413 ≤ 3677 → k413 x4 X Z = some z → xV p l e rmL_isLike s m args below meth c cl sl (MQ below (xQi ρ cA dC dI A (fun r X' R' => r = z.1 ∧ X' = z.2.1 ∧ ∃ θ' : xA2, R' = lwWs σ θ' cA z.2.2 ++ F)) args s rmL_isLike.cells rmL_isLike.slots A) ρ cA dC dI A (lwWs σ θ cA Z ++ (F ++ [])) 7 413 [(0, .ref (ρ 13 0 0)), (1, .ref (σ 0 0)), (4, .int x4)] [] X) (hn413 : 24 ≤ NC413 ∧ 136 ≤ NS413)  : ∀ (n : Nat), ∀ (x4 : Int32) (x5 : Int32) (X : bsX) (Z : pY) (θ : xA2) (cl sl : Nat), cl + (n * 2 + (0 + NC413)) ≤ 610 → sl + (n * 12 + (0 + NS413)) ≤ 3677 → hL_isLike_423 k413 n x4 x5 X Z = some z → xV p l e rmL_isLike s m args below meth c cl sl (MQ below (xQi ρ cA dC dI A (fun r X' R' => r = z.1 ∧ X' = z.2.1 ∧ ∃ θ' : xA2, R' = lwWs σ θ' cA z.2.2 ++ F)) args s rmL_isLike.cells rmL_isLike.slots A) ρ cA dC dI A (lwWs σ θ cA Z ++ (F ++ [])) 7 423 [(0, .ref (ρ 13 0 0)), (1, .ref (σ 0 0)), (4, .int x4), (5, .int x5)] [] X := by
  intro n
  induction n with
  | zero => intro x4 x5 X Z θ cl sl hcl hsl hf; exact (nomatch hf)
  | succ n ih =>
    intro x4 x5 X Z θ cl sl hcl hsl hf
    rw [hL_isLike_423] at hf
    refine x_iload C dL_isLike_423 rfl ?_
    refine x_iconst (v := 4) C dL_isLike_425 (by decide) ?_
    refine x_icmp_ge (tgt := 488) C dL_isLike_426 (by decide) (fun h68 => ?_) (fun h68 => ?_)
    · replace hf := bs_pos h68 hf
      refine x_iinc (k0 := 2) (v := (x4 + (1 : Int32))) (lv' := [(4, .int (x4 + (1 : Int32))), (0, .ref (ρ 13 0 0)), (1, .ref (σ 0 0)), (5, .int x5)]) C dL_isLike_488 rfl rfl (by decide) rfl ?_
      refine x_goto (tgt := 413) C dL_isLike_491 (by decide) ?_
      refine x_sub [1, 2, 0] rfl ?_
      exact hk413 _ _ _ _  _ _  (by omega) (by omega) hf
    · replace hf := bs_neg h68 hf
      refine x_aload_n C dL_isLike_429 rfl rfl ?_
      refine x_iload C dL_isLike_430 rfl ?_
      refine x_iload C dL_isLike_432 rfl ?_
      obtain ⟨r61, hc62, hf⟩ := bs_bind hf
      obtain ⟨h063, hf⟩ := bs_if hf
      refine x_callT (y := yX8_boot) (As := [.int x4, .int x5]) (rest := []) C (cX8_boot_ok hst hc62) h063 ml_L_46 wyX8_boot bsm_X8 bsc_X8 rfl dpX8_boot ⟨Nat.le_of_ble_eq_true rfl, Nat.le_of_ble_eq_true rfl⟩ ⟨by show (cl) + 2 ≤ 610; omega, by show (sl) + 12 ≤ 3677; omega⟩ rfl (Nat.le_of_ble_eq_true rfl) dL_isLike_434 ?_
      refine x_widen (k := (cl + 2)) (n := (sl + 12)) (by show (cl) + 2 ≤ _; omega) (by show (sl) + 12 ≤ _; omega) ?_
      refine x_iload C dL_isLike_437 rfl ?_
      refine x_bipush (v := 12) C dL_isLike_439 (by decide) ?_
      refine x_icmp_ge (tgt := 475) C dL_isLike_441 (by decide) (fun h67 => ?_) (fun h67 => ?_)
      · replace hf := bs_pos h67 hf
        refine x_sub [0, 1, 2, 3] rfl ?_
        exact qL_isLike_475 k413 (hL_isLike_423  k413 n) C hst hk413 hn413 ih ⟨by omega, by omega⟩ _ _ _ _ _ _  _ _  (by omega) (by omega) hf
      · replace hf := bs_neg h67 hf
        refine x_iload C dL_isLike_444 rfl ?_
        refine x_aload_n C dL_isLike_446 rfl rfl ?_
        refine xg_L_194 C dL_isLike_447 ?_
        refine xn_bts C dL_isLike_450 ?_
        refine x_icmp_ge (tgt := 475) C dL_isLike_451 (by decide) (fun h66 => ?_) (fun h66 => ?_)
        · replace hf := bs_pos h66 hf
          refine x_sub [0, 1, 2, 3] rfl ?_
          exact qL_isLike_475 k413 (hL_isLike_423  k413 n) C hst hk413 hn413 ih ⟨by omega, by omega⟩ _ _ _ _ _ _  _ _  (by omega) (by omega) hf
        · replace hf := bs_neg h66 hf
          refine x_aload_n C dL_isLike_454 rfl rfl ?_
          refine xg_L_194 C dL_isLike_455 ?_
          refine x_aload_n C dL_isLike_458 rfl rfl ?_
          refine xg_L_194 C dL_isLike_459 ?_
          refine xn_bts C dL_isLike_462 ?_
          refine x_iconst (v := 1) C dL_isLike_463 (by decide) ?_
          refine x_isub C dL_isLike_464 ?_
          refine x_iload C dL_isLike_465 rfl ?_
          refine x_isub C dL_isLike_467 ?_
          obtain ⟨hg64, hf⟩ := bs_if hf
          refine xa_bts C hg64 dL_isLike_468 ?_
          refine x_iload C dL_isLike_469 rfl ?_
          obtain ⟨hg65, hf⟩ := bs_if hf
          refine xl_row C (bsIx_lt hg64) hg65 dL_isLike_471 ?_
          refine x_goto (tgt := 477) C dL_isLike_472 (by decide) ?_
          refine x_sub [0, 1, 2, 3] rfl ?_
          exact qL_isLike_477 k413 (hL_isLike_423  k413 n) C hst hk413 hn413 ih ⟨by omega, by omega⟩ _ _ _ _ _ _ _  _ _  (by omega) (by omega) hf
set_option maxHeartbeats 4000000 in
set_option maxRecDepth 100000 in
theorem qL_isLike_413 {p : Program} {l : Launch} {e : Env} {s : State} {m : MethodId} {args : Array Value} {below : List Frame} {meth : Method} {c : Code} {ρ : bsR} {sc L : Nat} {xs : Nat → Int32} {cA : Nat → ClassId} {dC : Nat → ClassId} {dI : Nat → Nat → Nat} {A : Nat → Prop} {Ts : List Cond} {σ : xA2} {F : va_W} {z : (Int32 × bsX × pY)} (C : xCx p m c cL_isLike 7 s args Ts RL ρ sc L xs cA dC dI A meth (some .boolean)) (hst : l.stackTraces = false)  : ∀ (n : Nat), ∀ (x4 : Int32) (X : bsX) (Z : pY) (θ : xA2) (cl sl : Nat), cl + (n * 10 + (24)) ≤ 610 → sl + (n * 60 + (136)) ≤ 3677 → hL_isLike_413  n x4 X Z = some z → xV p l e rmL_isLike s m args below meth c cl sl (MQ below (xQi ρ cA dC dI A (fun r X' R' => r = z.1 ∧ X' = z.2.1 ∧ ∃ θ' : xA2, R' = lwWs σ θ' cA z.2.2 ++ F)) args s rmL_isLike.cells rmL_isLike.slots A) ρ cA dC dI A (lwWs σ θ cA Z ++ (F ++ [])) 7 413 [(0, .ref (ρ 13 0 0)), (1, .ref (σ 0 0)), (4, .int x4)] [] X := by
  intro n
  induction n with
  | zero => intro x4 X Z θ cl sl hcl hsl hf; exact (nomatch hf)
  | succ n ih =>
    intro x4 X Z θ cl sl hcl hsl hf
    rw [hL_isLike_413] at hf
    refine x_iload C dL_isLike_413 rfl ?_
    refine x_bipush (v := 13) C dL_isLike_415 (by decide) ?_
    refine x_icmp_ge (tgt := 494) C dL_isLike_417 (by decide) (fun h45 => ?_) (fun h45 => ?_)
    · replace hf := bs_pos h45 hf
      refine x_aload_n C dL_isLike_494 rfl rfl ?_
      refine x_iconst (v := -1) C dL_isLike_495 (by decide) ?_
      refine x_iconst (v := 0) C dL_isLike_496 (by decide) ?_
      obtain ⟨r31, hc32, hf⟩ := bs_bind hf
      obtain ⟨h033, hf⟩ := bs_if hf
      refine x_callT (y := yX8_boot) (As := [.int (-1 : Int32), .int (0 : Int32)]) (rest := []) C (cX8_boot_ok hst hc32) h033 ml_L_46 wyX8_boot bsm_X8 bsc_X8 rfl dpX8_boot ⟨Nat.le_of_ble_eq_true rfl, Nat.le_of_ble_eq_true rfl⟩ ⟨by show (cl) + 2 ≤ 610; omega, by show (sl) + 12 ≤ 3677; omega⟩ rfl (Nat.le_of_ble_eq_true rfl) dL_isLike_497 ?_
      refine x_widen (k := (cl + 2)) (n := (sl + 12)) (by show (cl) + 2 ≤ _; omega) (by show (sl) + 12 ≤ _; omega) ?_
      refine x_bipush (v := -2) C dL_isLike_500 (by decide) ?_
      refine x_icmp_ne (tgt := 553) C dL_isLike_502 (by decide) (fun h44 => ?_) (fun h44 => ?_)
      · replace hf := bs_neg h44 hf
        refine x_iconst (v := 0) C dL_isLike_553 (by decide) ?_
        obtain rfl := Option.some.inj hf
        refine xu_dropall ?_
        exact x_xret C (bsZ01 (by decide)).1 ⟨rfl, rfl, _, rfl⟩ (by show _ ≤ 610; omega) (by show _ ≤ 3677; omega) dL_isLike_554
      · replace hf := bs_pos h44 hf
        refine x_aload_n C dL_isLike_505 rfl rfl ?_
        refine x_iconst (v := 1) C dL_isLike_506 (by decide) ?_
        refine x_iconst (v := 2) C dL_isLike_507 (by decide) ?_
        refine xu_newi (c1 := (cl + 3)) (s1 := (sl + 14)) (N := 2) C (by decide) (by decide) (by decide) ⟨by show _ ≤ 610; omega, by show _ ≤ 3677; omega⟩ (by omega) (by omega) dL_isLike_508 (fun α34 => ?_)
        show xV p l e rmL_isLike s m args below meth c (cl + 3) (sl + 14) (MQ below (xQi ρ cA dC dI A (fun r X' R' => r = z.1 ∧ X' = z.2.1 ∧ ∃ θ' : xA2, R' = lwWs σ θ' cA z.2.2 ++ F)) args s rmL_isLike.cells rmL_isLike.slots A) ρ cA dC dI A (lwWs σ θ cA Z ++ (F ++ [(α34, .inl (cA 0, 2, .inl (fun _ => (0 : Int32))))])) 7 510 [(0, .ref (ρ 13 0 0)), (1, .ref (σ 0 0)), (4, .int x4)] [.ref α34, .int (1 : Int32), .ref (ρ 13 0 0)] r31.2.2
        refine x_dup C dL_isLike_510 rfl ?_
        refine x_iconst (v := 0) C dL_isLike_511 (by decide) ?_
        refine x_aload_n C dL_isLike_512 rfl rfl ?_
        refine xg_L_114 C dL_isLike_513 ?_
        refine xn_plc C dL_isLike_516 ?_
        refine xu_st (T' := [(α34, .inl (cA 0, 2, .inl (upd (fun _ => (0 : Int32)) 0 (nI (ln Z)))))]) C 0 rfl (by decide) rfl dL_isLike_517 ?_
        refine x_dup C dL_isLike_518 rfl ?_
        refine x_iconst (v := 1) C dL_isLike_519 (by decide) ?_
        refine x_iconst (v := 0) C dL_isLike_520 (by decide) ?_
        refine xu_st (T' := [(α34, .inl (cA 0, 2, .inl (upd (upd (fun _ => (0 : Int32)) 0 (nI (ln Z))) 1 (0 : Int32))))]) C 0 rfl (by decide) rfl dL_isLike_521 ?_
        obtain ⟨r35, hc36, hf⟩ := bs_bind hf
        obtain ⟨hk37, hf⟩ := bs_if hf
        refine xu_thrown C 0 rfl (by decide) hk37 (fun R2 q2 b h9 => cL_calls_1 hst h9 hc36 hk37.1) ⟨Nat.le_of_ble_eq_true rfl, Nat.le_of_ble_eq_true rfl⟩ ⟨by show (cl + 3) + 10 ≤ 610; omega, by show (sl + 14) + 60 ≤ 3677; omega⟩ rfl (Nat.le_of_ble_eq_true rfl) dL_isLike_522 ?_
        refine x_widen (k := (cl + 13)) (n := (sl + 74)) (by show (cl + 3) + 10 ≤ _; omega) (by show (sl + 14) + 60 ≤ _; omega) ?_
        refine x_iconst (v := 2) C dL_isLike_525 (by decide) ?_
        refine x_icmp_ne (tgt := 553) C dL_isLike_526 (by decide) (fun h43 => ?_) (fun h43 => ?_)
        · replace hf := bs_neg h43 hf
          refine x_iconst (v := 0) C dL_isLike_553 (by decide) ?_
          obtain rfl := Option.some.inj hf
          refine xu_dropall ?_
          exact x_xret C (bsZ01 (by decide)).1 ⟨rfl, rfl, _, rfl⟩ (by show _ ≤ 610; omega) (by show _ ≤ 3677; omega) dL_isLike_554
        · replace hf := bs_pos h43 hf
          refine x_aload_n C dL_isLike_529 rfl rfl ?_
          refine x_iconst (v := 2) C dL_isLike_530 (by decide) ?_
          refine x_iconst (v := 2) C dL_isLike_531 (by decide) ?_
          refine xu_newi (c1 := (cl + 14)) (s1 := (sl + 76)) (N := 2) C (by decide) (by decide) (by decide) ⟨by show _ ≤ 610; omega, by show _ ≤ 3677; omega⟩ (by omega) (by omega) dL_isLike_532 (fun α38 => ?_)
          show xV p l e rmL_isLike s m args below meth c (cl + 14) (sl + 76) (MQ below (xQi ρ cA dC dI A (fun r X' R' => r = z.1 ∧ X' = z.2.1 ∧ ∃ θ' : xA2, R' = lwWs σ θ' cA z.2.2 ++ F)) args s rmL_isLike.cells rmL_isLike.slots A) ρ cA dC dI A (lwWs σ θ cA Z ++ (F ++ [(α34, .inl (cA 0, 2, .inl (upd (upd (fun _ => (0 : Int32)) 0 (nI (ln Z))) 1 (0 : Int32)))), (α38, .inl (cA 0, 2, .inl (fun _ => (0 : Int32))))])) 7 534 [(0, .ref (ρ 13 0 0)), (1, .ref (σ 0 0)), (4, .int x4)] [.ref α38, .int (2 : Int32), .ref (ρ 13 0 0)] r35.2.2
          refine x_dup C dL_isLike_534 rfl ?_
          refine x_iconst (v := 0) C dL_isLike_535 (by decide) ?_
          refine x_iconst (v := -1) C dL_isLike_536 (by decide) ?_
          refine xu_st (T' := [(α34, .inl (cA 0, 2, .inl (upd (upd (fun _ => (0 : Int32)) 0 (nI (ln Z))) 1 (0 : Int32)))), (α38, .inl (cA 0, 2, .inl (upd (fun _ => (0 : Int32)) 0 (-1 : Int32))))]) C 1 rfl (by decide) rfl dL_isLike_537 ?_
          refine x_dup C dL_isLike_538 rfl ?_
          refine x_iconst (v := 1) C dL_isLike_539 (by decide) ?_
          refine x_iconst (v := 0) C dL_isLike_540 (by decide) ?_
          refine xu_st (T' := [(α34, .inl (cA 0, 2, .inl (upd (upd (fun _ => (0 : Int32)) 0 (nI (ln Z))) 1 (0 : Int32)))), (α38, .inl (cA 0, 2, .inl (upd (upd (fun _ => (0 : Int32)) 0 (-1 : Int32)) 1 (0 : Int32))))]) C 1 rfl (by decide) rfl dL_isLike_541 ?_
          obtain ⟨r39, hc40, hf⟩ := bs_bind hf
          obtain ⟨hk41, hf⟩ := bs_if hf
          refine xu_thrown C 1 rfl (by decide) hk41 (fun R2 q2 b h9 => cL_calls_2 hst h9 hc40 hk41.1) ⟨Nat.le_of_ble_eq_true rfl, Nat.le_of_ble_eq_true rfl⟩ ⟨by show (cl + 14) + 10 ≤ 610; omega, by show (sl + 76) + 60 ≤ 3677; omega⟩ rfl (Nat.le_of_ble_eq_true rfl) dL_isLike_542 ?_
          refine x_widen (k := (cl + 24)) (n := (sl + 136)) (by show (cl + 14) + 10 ≤ _; omega) (by show (sl + 76) + 60 ≤ _; omega) ?_
          refine x_iconst (v := 2) C dL_isLike_545 (by decide) ?_
          refine x_icmp_ne (tgt := 553) C dL_isLike_546 (by decide) (fun h42 => ?_) (fun h42 => ?_)
          · replace hf := bs_neg h42 hf
            refine x_iconst (v := 0) C dL_isLike_553 (by decide) ?_
            obtain rfl := Option.some.inj hf
            refine xu_dropall ?_
            exact x_xret C (bsZ01 (by decide)).1 ⟨rfl, rfl, _, rfl⟩ (by show _ ≤ 610; omega) (by show _ ≤ 3677; omega) dL_isLike_554
          · replace hf := bs_pos h42 hf
            refine x_iconst (v := 1) C dL_isLike_549 (by decide) ?_
            refine x_goto (tgt := 554) C dL_isLike_550 (by decide) ?_
            obtain rfl := Option.some.inj hf
            refine xu_dropall ?_
            exact x_xret C (bsZ01 (by decide)).1 ⟨rfl, rfl, _, rfl⟩ (by show _ ≤ 610; omega) (by show _ ≤ 3677; omega) dL_isLike_554
    · replace hf := bs_neg h45 hf
      refine x_iconst (v := 0) C dL_isLike_420 (by decide) ?_
      refine x_istore (lv' := [(5, .int (0 : Int32)), (0, .ref (ρ 13 0 0)), (1, .ref (σ 0 0)), (4, .int x4)]) C dL_isLike_421 (by decide) rfl ?_
      refine x_sub [1, 2, 3, 0] rfl ?_
      exact qL_isLike_423 (hL_isLike_413   n) C hst ih ⟨by omega, by omega⟩ 5 _ _ _ _ _  _ _  (by omega) (by omega) hf
set_option maxHeartbeats 4000000 in
set_option maxRecDepth 100000 in
theorem qL_isLike_372 {p : Program} {l : Launch} {e : Env} {s : State} {m : MethodId} {args : Array Value} {below : List Frame} {meth : Method} {c : Code} {ρ : bsR} {sc L : Nat} {xs : Nat → Int32} {cA : Nat → ClassId} {dC : Nat → ClassId} {dI : Nat → Nat → Nat} {A : Nat → Prop} {Ts : List Cond} {σ : xA2} {F : va_W} {z : (Int32 × bsX × pY)} (C : xCx p m c cL_isLike 7 s args Ts RL ρ sc L xs cA dC dI A meth (some .boolean)) (hst : l.stackTraces = false)  : ∀ (n : Nat), ∀ (f3 : (Nat → Int32)) (x4 : Int32) (X : bsX) (Z : pY) (θ : xA2) (α3 : Nat) (cl sl : Nat), cl + (n * 2 + (164)) ≤ 610 → sl + (n * 12 + (976)) ≤ 3677 → hL_isLike_372  n f3 x4 X Z = some z → xV p l e rmL_isLike s m args below meth c cl sl (MQ below (xQi ρ cA dC dI A (fun r X' R' => r = z.1 ∧ X' = z.2.1 ∧ ∃ θ' : xA2, R' = lwWs σ θ' cA z.2.2 ++ F)) args s rmL_isLike.cells rmL_isLike.slots A) ρ cA dC dI A (lwWs σ θ cA Z ++ (F ++ [(α3, .inl (cA 0, 4, .inl f3))])) 7 372 [(0, .ref (ρ 13 0 0)), (1, .ref (σ 0 0)), (3, .ref α3), (4, .int x4)] [] X := by
  intro n
  induction n with
  | zero => intro f3 x4 X Z θ α3 cl sl hcl hsl hf; exact (nomatch hf)
  | succ n ih =>
    intro f3 x4 X Z θ α3 cl sl hcl hsl hf
    rw [hL_isLike_372] at hf
    refine x_iload C dL_isLike_372 rfl ?_
    refine x_iconst (v := 4) C dL_isLike_374 (by decide) ?_
    refine x_icmp_ge (tgt := 410) C dL_isLike_375 (by decide) (fun h74 => ?_) (fun h74 => ?_)
    · replace hf := bs_pos h74 hf
      refine x_iconst (v := 0) C dL_isLike_410 (by decide) ?_
      refine x_istore (lv' := [(4, .int (0 : Int32)), (0, .ref (ρ 13 0 0)), (1, .ref (σ 0 0)), (3, .ref α3)]) C dL_isLike_411 (by decide) rfl ?_
      refine x_sub [1, 2, 0] rfl ?_
      refine xu_drop (T' := []) (List.Sublist.cons _ List.Sublist.slnil) ?_
      exact qL_isLike_413  C hst  14 _ _ _ _  _ _  (by omega) (by omega) hf
    · replace hf := bs_neg h74 hf
      refine x_aload_n C dL_isLike_378 rfl rfl ?_
      refine x_iload C dL_isLike_379 rfl ?_
      obtain ⟨r69, hc70, hf⟩ := bs_bind hf
      obtain ⟨h071, hf⟩ := bs_if hf
      refine x_callT (y := yX8_install) (As := [.int x4]) (rest := []) C (cX8_install_ok hst hc70) h071 ml_L_43 wyX8_install bsm_X8 bsc_X8 rfl dpX8_install ⟨Nat.le_of_ble_eq_true rfl, Nat.le_of_ble_eq_true rfl⟩ ⟨by show (cl) + 2 ≤ 610; omega, by show (sl) + 12 ≤ 3677; omega⟩ rfl (Nat.le_of_ble_eq_true rfl) dL_isLike_381 ?_
      refine x_widen (k := (cl + 2)) (n := (sl + 12)) (by show (cl) + 2 ≤ _; omega) (by show (sl) + 12 ≤ _; omega) ?_
      refine x_aload_n C dL_isLike_384 rfl rfl ?_
      refine xg_L_185 C dL_isLike_385 ?_
      refine x_if_ge (tgt := 395) C dL_isLike_388 (by decide) (fun h73 => ?_) (fun h73 => ?_)
      · replace hf := bs_pos h73 hf
        refine x_aload_n C dL_isLike_395 rfl rfl ?_
        refine x_iload C dL_isLike_396 rfl ?_
        obtain ⟨hg72, hf⟩ := bs_if hf
        refine xu_ld C 0 rfl hg72 dL_isLike_398 ?_
        refine x_sub [0, 1, 2, 3] rfl ?_
        exact qL_isLike_399 (hL_isLike_372   n) C hst ih ⟨by omega, by omega⟩ _ _ _ _ _ _ _ _ _ _  (by omega) (by omega) hf
      · replace hf := bs_neg h73 hf
        refine x_iconst (v := -1) C dL_isLike_391 (by decide) ?_
        refine x_goto (tgt := 399) C dL_isLike_392 (by decide) ?_
        refine x_sub [0, 1, 2, 3] rfl ?_
        exact qL_isLike_399 (hL_isLike_372   n) C hst ih ⟨by omega, by omega⟩ _ _ _ _ _ _ _ _ _ _  (by omega) (by omega) hf
set_option maxHeartbeats 4000000 in
set_option maxRecDepth 100000 in
theorem qL_isLike_130 {p : Program} {l : Launch} {e : Env} {s : State} {m : MethodId} {args : Array Value} {below : List Frame} {meth : Method} {c : Code} {ρ : bsR} {sc L : Nat} {xs : Nat → Int32} {cA : Nat → ClassId} {dC : Nat → ClassId} {dI : Nat → Nat → Nat} {A : Nat → Prop} {Ts : List Cond} {σ : xA2} {F : va_W} {z : (Int32 × bsX × pY)} (C : xCx p m c cL_isLike 7 s args Ts RL ρ sc L xs cA dC dI A meth (some .boolean)) (hst : l.stackTraces = false)  : ∀ (n : Nat), ∀ (x3 : Int32) (X : bsX) (Z : pY) (θ : xA2) (cl sl : Nat), cl + (n * 49 + (175)) ≤ 610 → sl + (n * 297 + (1040)) ≤ 3677 → hL_isLike_130  n x3 X Z = some z → xV p l e rmL_isLike s m args below meth c cl sl (MQ below (xQi ρ cA dC dI A (fun r X' R' => r = z.1 ∧ X' = z.2.1 ∧ ∃ θ' : xA2, R' = lwWs σ θ' cA z.2.2 ++ F)) args s rmL_isLike.cells rmL_isLike.slots A) ρ cA dC dI A (lwWs σ θ cA Z ++ (F ++ [])) 7 130 [(0, .ref (ρ 13 0 0)), (1, .ref (σ 0 0)), (3, .int x3)] [] X := by
  intro n
  induction n with
  | zero => intro x3 X Z θ cl sl hcl hsl hf; exact (nomatch hf)
  | succ n ih =>
    intro x3 X Z θ cl sl hcl hsl hf
    rw [hL_isLike_130] at hf
    refine x_iload_n C dL_isLike_130 rfl rfl ?_
    refine x_aload_n C dL_isLike_131 rfl rfl ?_
    refine xg_L_114 C dL_isLike_132 ?_
    refine xn_plc C dL_isLike_135 ?_
    refine x_icmp_ge (tgt := 338) C dL_isLike_136 (by decide) (fun h11 => ?_) (fun h11 => ?_)
    · replace hf := bs_pos h11 hf
      refine x_iconst (v := 4) C dL_isLike_338 (by decide) ?_
      refine xu_newi (c1 := (cl + 1)) (s1 := (sl + 4)) (N := 4) C (by decide) (by decide) (by decide) ⟨by show _ ≤ 610; omega, by show _ ≤ 3677; omega⟩ (by omega) (by omega) dL_isLike_339 (fun α2 => ?_)
      show xV p l e rmL_isLike s m args below meth c (cl + 1) (sl + 4) (MQ below (xQi ρ cA dC dI A (fun r X' R' => r = z.1 ∧ X' = z.2.1 ∧ ∃ θ' : xA2, R' = lwWs σ θ' cA z.2.2 ++ F)) args s rmL_isLike.cells rmL_isLike.slots A) ρ cA dC dI A (lwWs σ θ cA Z ++ (F ++ [(α2, .inl (cA 0, 4, .inl (fun _ => (0 : Int32))))])) 7 341 [(0, .ref (ρ 13 0 0)), (1, .ref (σ 0 0)), (3, .int x3)] [.ref α2] X
      refine x_dup C dL_isLike_341 rfl ?_
      refine x_iconst (v := 0) C dL_isLike_342 (by decide) ?_
      refine x_aload_n C dL_isLike_343 rfl rfl ?_
      refine xg_L_185 C dL_isLike_344 ?_
      refine xu_st (T' := [(α2, .inl (cA 0, 4, .inl (upd (fun _ => (0 : Int32)) 0 (Z 2 0 1))))]) C 0 rfl (by decide) rfl dL_isLike_347 ?_
      refine x_dup C dL_isLike_348 rfl ?_
      refine x_iconst (v := 1) C dL_isLike_349 (by decide) ?_
      refine x_aload_n C dL_isLike_350 rfl rfl ?_
      refine xg_L_188 C dL_isLike_351 ?_
      refine xu_st (T' := [(α2, .inl (cA 0, 4, .inl (upd (upd (fun _ => (0 : Int32)) 0 (Z 2 0 1)) 1 (Z 2 0 2))))]) C 0 rfl (by decide) rfl dL_isLike_354 ?_
      refine x_dup C dL_isLike_355 rfl ?_
      refine x_iconst (v := 2) C dL_isLike_356 (by decide) ?_
      refine x_aload_n C dL_isLike_357 rfl rfl ?_
      refine xg_L_191 C dL_isLike_358 ?_
      refine x_iconst (v := 0) C dL_isLike_361 (by decide) ?_
      refine xl_com C (by decide) dL_isLike_362 ?_
      refine xu_st (T' := [(α2, .inl (cA 0, 4, .inl (upd (upd (upd (fun _ => (0 : Int32)) 0 (Z 2 0 1)) 1 (Z 2 0 2)) 2 (Z 13 0 1))))]) C 0 rfl (by decide) rfl dL_isLike_363 ?_
      refine x_dup C dL_isLike_364 rfl ?_
      refine x_iconst (v := 3) C dL_isLike_365 (by decide) ?_
      refine x_iconst (v := 3) C dL_isLike_366 (by decide) ?_
      refine xu_st (T' := [(α2, .inl (cA 0, 4, .inl (upd (upd (upd (upd (fun _ => (0 : Int32)) 0 (Z 2 0 1)) 1 (Z 2 0 2)) 2 (Z 13 0 1)) 3 (3 : Int32))))]) C 0 rfl (by decide) rfl dL_isLike_367 ?_
      refine x_astore_n (lv' := [(3, .ref α2), (0, .ref (ρ 13 0 0)), (1, .ref (σ 0 0))]) C dL_isLike_368 rfl (by decide) rfl ?_
      refine x_iconst (v := 0) C dL_isLike_369 (by decide) ?_
      refine x_istore (lv' := [(4, .int (0 : Int32)), (3, .ref α2), (0, .ref (ρ 13 0 0)), (1, .ref (σ 0 0))]) C dL_isLike_370 (by decide) rfl ?_
      refine x_sub [2, 3, 1, 0] rfl ?_
      exact qL_isLike_372  C hst  5 _ _ _ _ _ _ _ _  (by omega) (by omega) hf
    · replace hf := bs_neg h11 hf
      refine x_aload_n C dL_isLike_139 rfl rfl ?_
      refine xg_L_114 C dL_isLike_140 ?_
      refine x_iload_n C dL_isLike_143 rfl rfl ?_
      obtain ⟨hg3, hf⟩ := bs_if hf
      refine xa_plc C hg3 dL_isLike_144 ?_
      refine x_astore (lv' := [(4, .ref (σ 5 (bsIx x3))), (0, .ref (ρ 13 0 0)), (1, .ref (σ 0 0)), (3, .int x3)]) C dL_isLike_145 (by decide) rfl ?_
      refine x_bipush (v := 9) C dL_isLike_147 (by decide) ?_
      refine xu_newi (c1 := (cl + 1)) (s1 := (sl + 9)) (N := 9) C (by decide) (by decide) (by decide) ⟨by show _ ≤ 610; omega, by show _ ≤ 3677; omega⟩ (by omega) (by omega) dL_isLike_149 (fun α4 => ?_)
      show xV p l e rmL_isLike s m args below meth c (cl + 1) (sl + 9) (MQ below (xQi ρ cA dC dI A (fun r X' R' => r = z.1 ∧ X' = z.2.1 ∧ ∃ θ' : xA2, R' = lwWs σ θ' cA z.2.2 ++ F)) args s rmL_isLike.cells rmL_isLike.slots A) ρ cA dC dI A (lwWs σ θ cA Z ++ (F ++ [(α4, .inl (cA 0, 9, .inl (fun _ => (0 : Int32))))])) 7 151 [(4, .ref (σ 5 (bsIx x3))), (0, .ref (ρ 13 0 0)), (1, .ref (σ 0 0)), (3, .int x3)] [.ref α4] X
      refine x_dup C dL_isLike_151 rfl ?_
      refine x_iconst (v := 0) C dL_isLike_152 (by decide) ?_
      refine x_aload C dL_isLike_153 rfl ?_
      obtain ⟨r5, hc6, hf⟩ := bs_bind hf
      obtain ⟨q0, he⟩ := xr_plc (Z := Z) σ θ cA (F ++ [(α4, .inl (cA 0, 9, .inl (fun _ => (0 : Int32))))]) (bsIx_lt hg3)
      refine x_callVi (y := yX10_isEmpty) (As := []) (rest := [.int (0 : Int32), .ref α4, .ref α4]) C (cX10_isEmpty_ok (F := F ++ [(α4, .inl (cA 0, 9, .inl (fun _ => (0 : Int32))))]) (bsIx_lt hg3) hc6) ml_L_164 wyX10_isEmpty he rfl dpX10_isEmpty ⟨Nat.le_of_ble_eq_true rfl, Nat.le_of_ble_eq_true rfl⟩ ⟨by show (cl + 1) + 0 ≤ 610; omega, by show (sl + 9) + (0) ≤ 3677; omega⟩ rfl (Nat.le_of_ble_eq_true rfl) dL_isLike_155 (fun r' X' R' hp => ?_)
      obtain ⟨rfl, rfl, θ, rfl⟩ := hp
      refine x_widen (k := (cl + 1)) (n := (sl + 9)) (by show (cl + 1) + 0 ≤ _; omega) (by show (sl + 9) + (0) ≤ _; omega) ?_
      refine x_if_eq (tgt := 165) C dL_isLike_158 (by decide) (fun h10 => ?_) (fun h10 => ?_)
      · replace hf := bs_pos h10 hf
        refine x_iconst (v := 1) C dL_isLike_165 (by decide) ?_
        obtain ⟨hg8, hf⟩ := bs_if hf
        refine x_sub [1, 2, 3, 0] rfl ?_
        exact qL_isLike_166 (hL_isLike_130   n) C hst ih ⟨by omega, by omega⟩ _ _ _ _ _ _ _ _ _ _ _ hg8 (by omega) (by omega) hf
      · replace hf := bs_neg h10 hf
        refine x_iconst (v := 0) C dL_isLike_161 (by decide) ?_
        refine x_goto (tgt := 166) C dL_isLike_162 (by decide) ?_
        obtain ⟨hg9, hf⟩ := bs_if hf
        refine x_sub [1, 2, 3, 0] rfl ?_
        exact qL_isLike_166 (hL_isLike_130   n) C hst ih ⟨by omega, by omega⟩ _ _ _ _ _ _ _ _ _ _ _ hg9 (by omega) (by omega) hf
set_option maxHeartbeats 4000000 in
set_option maxRecDepth 100000 in
theorem qL_isLike_74 {p : Program} {l : Launch} {e : Env} {s : State} {m : MethodId} {args : Array Value} {below : List Frame} {meth : Method} {c : Code} {ρ : bsR} {sc L : Nat} {xs : Nat → Int32} {cA : Nat → ClassId} {dC : Nat → ClassId} {dI : Nat → Nat → Nat} {A : Nat → Prop} {Ts : List Cond} {σ : xA2} {F : va_W} {z : (Int32 × bsX × pY)} (C : xCx p m c cL_isLike 7 s args Ts RL ρ sc L xs cA dC dI A meth (some .boolean)) (hst : l.stackTraces = false)  : ∀ (n : Nat), ∀ (f2 : (Nat → Int32)) (x3 : Int32) (X : bsX) (Z : pY) (θ : xA2) (α2 : Nat) (cl sl : Nat), cl + (n * 2 + (567)) ≤ 610 → sl + (n * 12 + (3416)) ≤ 3677 → hL_isLike_74  n f2 x3 X Z = some z → xV p l e rmL_isLike s m args below meth c cl sl (MQ below (xQi ρ cA dC dI A (fun r X' R' => r = z.1 ∧ X' = z.2.1 ∧ ∃ θ' : xA2, R' = lwWs σ θ' cA z.2.2 ++ F)) args s rmL_isLike.cells rmL_isLike.slots A) ρ cA dC dI A (lwWs σ θ cA Z ++ (F ++ [(α2, .inl (cA 0, 9, .inl f2))])) 7 74 [(0, .ref (ρ 13 0 0)), (1, .ref (σ 0 0)), (2, .ref α2), (3, .int x3)] [] X := by
  intro n
  induction n with
  | zero => intro f2 x3 X Z θ α2 cl sl hcl hsl hf; exact (nomatch hf)
  | succ n ih =>
    intro f2 x3 X Z θ α2 cl sl hcl hsl hf
    rw [hL_isLike_74] at hf
    refine x_iload_n C dL_isLike_74 rfl rfl ?_
    refine x_bipush (v := 20) C dL_isLike_75 (by decide) ?_
    refine x_icmp_ge (tgt := 128) C dL_isLike_77 (by decide) (fun h29 => ?_) (fun h29 => ?_)
    · replace hf := bs_pos h29 hf
      refine x_iconst (v := 0) C dL_isLike_128 (by decide) ?_
      refine x_istore_n (lv' := [(3, .int (0 : Int32)), (0, .ref (ρ 13 0 0)), (1, .ref (σ 0 0)), (2, .ref α2)]) C dL_isLike_129 rfl (by decide) rfl ?_
      refine x_sub [1, 2, 0] rfl ?_
      refine xu_drop (T' := []) (List.Sublist.cons _ List.Sublist.slnil) ?_
      exact qL_isLike_130  C hst  8 _ _ _ _  _ _  (by omega) (by omega) hf
    · replace hf := bs_neg h29 hf
      refine x_aload_n C dL_isLike_80 rfl rfl ?_
      refine x_iload_n C dL_isLike_81 rfl rfl ?_
      obtain ⟨r19, hc20, hf⟩ := bs_bind hf
      obtain ⟨h021, hf⟩ := bs_if hf
      refine x_callT (y := yX8_count) (As := [.int x3]) (rest := []) C (cX8_count_ok hst hc20) h021 ml_L_33 wyX8_count bsm_X8 bsc_X8 rfl dpX8_count ⟨Nat.le_of_ble_eq_true rfl, Nat.le_of_ble_eq_true rfl⟩ ⟨by show (cl) + 2 ≤ 610; omega, by show (sl) + 12 ≤ 3677; omega⟩ rfl (Nat.le_of_ble_eq_true rfl) dL_isLike_82 ?_
      refine x_widen (k := (cl + 2)) (n := (sl + 12)) (by show (cl) + 2 ≤ _; omega) (by show (sl) + 12 ≤ _; omega) ?_
      refine x_iload_n C dL_isLike_85 rfl rfl ?_
      refine x_bipush (v := 9) C dL_isLike_86 (by decide) ?_
      refine x_icmp_ge (tgt := 97) C dL_isLike_88 (by decide) (fun h28 => ?_) (fun h28 => ?_)
      · replace hf := bs_pos h28 hf
        refine x_iload_n C dL_isLike_97 rfl rfl ?_
        refine x_bipush (v := 12) C dL_isLike_98 (by decide) ?_
        refine x_icmp_ge (tgt := 111) C dL_isLike_100 (by decide) (fun h26 => ?_) (fun h26 => ?_)
        · replace hf := bs_pos h26 hf
          refine x_aload_n C dL_isLike_111 rfl rfl ?_
          refine xg_L_160 C dL_isLike_112 ?_
          refine x_iload_n C dL_isLike_115 rfl rfl ?_
          obtain ⟨hg22, hf⟩ := bs_if hf
          refine xl_cnt C hg22 dL_isLike_116 ?_
          refine x_sub [0, 1, 2, 3] rfl ?_
          exact qL_isLike_117 (hL_isLike_74   n) C hst ih ⟨by omega, by omega⟩ _ _ _ _ _ _ _ _ _ _  (by omega) (by omega) hf
        · replace hf := bs_neg h26 hf
          refine x_aload_n C dL_isLike_103 rfl rfl ?_
          refine x_iload_n C dL_isLike_104 rfl rfl ?_
          obtain ⟨r23, hc24, hf⟩ := bs_bind hf
          refine x_callSi (y := yL_count) (As := [.ref (σ 0 0), .int x3]) (rest := [.int r19.2.1]) C (cL_count_ok (F := F ++ [(α2, .inl (cA 0, 9, .inl f2))])  hc24) ml_L_157 wzL_count dpL_count ⟨Nat.le_of_ble_eq_true rfl, Nat.le_of_ble_eq_true rfl⟩ ⟨by show (cl + 2) + 0 ≤ 610; omega, by show (sl + 12) + (0) ≤ 3677; omega⟩ rfl (Nat.le_of_ble_eq_true rfl) dL_isLike_105 (fun r' X' R' hp => ?_)
          obtain ⟨rfl, rfl, θ, rfl⟩ := hp
          refine x_widen (k := (cl + 2)) (n := (sl + 12)) (by show (cl + 2) + 0 ≤ _; omega) (by show (sl + 12) + (0) ≤ _; omega) ?_
          refine x_goto (tgt := 117) C dL_isLike_108 (by decide) ?_
          refine x_sub [0, 1, 2, 3] rfl ?_
          exact qL_isLike_117 (hL_isLike_74   n) C hst ih ⟨by omega, by omega⟩ _ _ _ _ _ _ _ _ _ _  (by omega) (by omega) hf
      · replace hf := bs_neg h28 hf
        refine x_aload_n C dL_isLike_91 rfl rfl ?_
        refine x_iload_n C dL_isLike_92 rfl rfl ?_
        obtain ⟨hg27, hf⟩ := bs_if hf
        refine xu_ld C 0 rfl hg27 dL_isLike_93 ?_
        refine x_goto (tgt := 117) C dL_isLike_94 (by decide) ?_
        refine x_sub [0, 1, 2, 3] rfl ?_
        exact qL_isLike_117 (hL_isLike_74   n) C hst ih ⟨by omega, by omega⟩ _ _ _ _ _ _ _ _ _ _  (by omega) (by omega) hf
set_option maxHeartbeats 4000000 in
set_option maxRecDepth 100000 in
theorem cL_isLike_ok {l : Launch} {ρ : bsR} {sc L : Nat} {xs : Nat → Int32} {cA : Nat → ClassId} {dC : Nat → ClassId} {dI : Nat → Nat → Nat} {σ θ : xA2} {F : va_W} (hst : l.stackTraces = false) {X : bsX} {Z : pY} {z : (Int32 × bsX × pY)} (hf : hL_isLike  X Z = some z) : xMi l yL_isLike cL_isLike 7 (some .boolean) rmL_isLike ρ sc L xs cA dC dI [.ref (ρ 13 0 0), .ref (σ 0 0)] X (lwWs σ θ cA Z ++ F) (fun r X' R' => r = z.1 ∧ X' = z.2.1 ∧ ∃ θ' : xA2, R' = lwWs σ θ' cA z.2.2 ++ F) := by
  refine xMi_of (by decide) (Nat.le_of_ble_eq_true rfl) (fun p e s m args below meth c C => ?_)
  have C : xCx p m c cL_isLike 7 s args (Cond.code yL_isLike cL_isLike 7 (some .boolean) :: bsG) RL ρ sc L xs cA dC dI (bsA ρ cA (lwWs σ θ cA Z ++ F) s.heap.size) meth (some .boolean) := C
  rw [hL_isLike] at hf
  generalize (bsA ρ cA (lwWs σ θ cA Z ++ F) s.heap.size) = A at C ⊢
  refine x_sub [0, 1] rfl ?_
  refine xu_none ?_
  refine x_bipush (v := 9) C dL_isLike_0 (by decide) ?_
  refine xu_newi (c1 := (1)) (s1 := (9)) (N := 9) C (by decide) (by decide) (by decide) ⟨by show _ ≤ 610; omega, by show _ ≤ 3677; omega⟩ (by omega) (by omega) dL_isLike_2 (fun α82 => ?_)
  show xV p l e rmL_isLike s m args below meth c (1) (9) (MQ below (xQi ρ cA dC dI A (fun r X' R' => r = z.1 ∧ X' = z.2.1 ∧ ∃ θ' : xA2, R' = lwWs σ θ' cA z.2.2 ++ F)) args s rmL_isLike.cells rmL_isLike.slots A) ρ cA dC dI A (lwWs σ θ cA Z ++ (F ++ [(α82, .inl (cA 0, 9, .inl (fun _ => (0 : Int32))))])) 7 4 [(0, .ref (ρ 13 0 0)), (1, .ref (σ 0 0))] [.ref α82] X
  refine x_dup C dL_isLike_4 rfl ?_
  refine x_iconst (v := 0) C dL_isLike_5 (by decide) ?_
  refine x_aload_n C dL_isLike_6 rfl rfl ?_
  refine xg_L_114 C dL_isLike_7 ?_
  refine xn_plc C dL_isLike_10 ?_
  refine xu_st (T' := [(α82, .inl (cA 0, 9, .inl (upd (fun _ => (0 : Int32)) 0 (nI (ln Z)))))]) C 0 rfl (by decide) rfl dL_isLike_11 ?_
  refine x_dup C dL_isLike_12 rfl ?_
  refine x_iconst (v := 1) C dL_isLike_13 (by decide) ?_
  refine x_aload_n C dL_isLike_14 rfl rfl ?_
  refine xg_L_133 C dL_isLike_15 ?_
  refine xu_st (T' := [(α82, .inl (cA 0, 9, .inl (upd (upd (fun _ => (0 : Int32)) 0 (nI (ln Z))) 1 (Z 0 0 9))))]) C 0 rfl (by decide) rfl dL_isLike_18 ?_
  refine x_dup C dL_isLike_19 rfl ?_
  refine x_iconst (v := 2) C dL_isLike_20 (by decide) ?_
  refine x_aload_n C dL_isLike_21 rfl rfl ?_
  refine xg_L_136 C dL_isLike_22 ?_
  refine xu_st (T' := [(α82, .inl (cA 0, 9, .inl (upd (upd (upd (fun _ => (0 : Int32)) 0 (nI (ln Z))) 1 (Z 0 0 9)) 2 (Z 0 0 5))))]) C 0 rfl (by decide) rfl dL_isLike_25 ?_
  refine x_dup C dL_isLike_26 rfl ?_
  refine x_iconst (v := 3) C dL_isLike_27 (by decide) ?_
  refine x_aload_n C dL_isLike_28 rfl rfl ?_
  refine xg_L_139 C dL_isLike_29 ?_
  refine xu_st (T' := [(α82, .inl (cA 0, 9, .inl (upd (upd (upd (upd (fun _ => (0 : Int32)) 0 (nI (ln Z))) 1 (Z 0 0 9)) 2 (Z 0 0 5)) 3 (Z 0 0 6))))]) C 0 rfl (by decide) rfl dL_isLike_32 ?_
  refine x_dup C dL_isLike_33 rfl ?_
  refine x_iconst (v := 4) C dL_isLike_34 (by decide) ?_
  refine x_aload_n C dL_isLike_35 rfl rfl ?_
  refine xg_L_142 C dL_isLike_36 ?_
  refine xu_st (T' := [(α82, .inl (cA 0, 9, .inl (upd (upd (upd (upd (upd (fun _ => (0 : Int32)) 0 (nI (ln Z))) 1 (Z 0 0 9)) 2 (Z 0 0 5)) 3 (Z 0 0 6)) 4 (Z 0 0 7))))]) C 0 rfl (by decide) rfl dL_isLike_39 ?_
  refine x_dup C dL_isLike_40 rfl ?_
  refine x_iconst (v := 5) C dL_isLike_41 (by decide) ?_
  refine x_aload_n C dL_isLike_42 rfl rfl ?_
  refine xg_L_145 C dL_isLike_43 ?_
  refine xu_st (T' := [(α82, .inl (cA 0, 9, .inl (upd (upd (upd (upd (upd (upd (fun _ => (0 : Int32)) 0 (nI (ln Z))) 1 (Z 0 0 9)) 2 (Z 0 0 5)) 3 (Z 0 0 6)) 4 (Z 0 0 7)) 5 (Z 0 0 8))))]) C 0 rfl (by decide) rfl dL_isLike_46 ?_
  refine x_dup C dL_isLike_47 rfl ?_
  refine x_bipush (v := 6) C dL_isLike_48 (by decide) ?_
  refine x_aload_n C dL_isLike_50 rfl rfl ?_
  refine xg_L_148 C dL_isLike_51 ?_
  refine xu_st (T' := [(α82, .inl (cA 0, 9, .inl (upd (upd (upd (upd (upd (upd (upd (fun _ => (0 : Int32)) 0 (nI (ln Z))) 1 (Z 0 0 9)) 2 (Z 0 0 5)) 3 (Z 0 0 6)) 4 (Z 0 0 7)) 5 (Z 0 0 8)) 6 (Z 0 0 10))))]) C 0 rfl (by decide) rfl dL_isLike_54 ?_
  refine x_dup C dL_isLike_55 rfl ?_
  refine x_bipush (v := 7) C dL_isLike_56 (by decide) ?_
  refine x_aload_n C dL_isLike_58 rfl rfl ?_
  refine xg_L_151 C dL_isLike_59 ?_
  refine xu_st (T' := [(α82, .inl (cA 0, 9, .inl (upd (upd (upd (upd (upd (upd (upd (upd (fun _ => (0 : Int32)) 0 (nI (ln Z))) 1 (Z 0 0 9)) 2 (Z 0 0 5)) 3 (Z 0 0 6)) 4 (Z 0 0 7)) 5 (Z 0 0 8)) 6 (Z 0 0 10)) 7 (Z 0 0 11))))]) C 0 rfl (by decide) rfl dL_isLike_62 ?_
  refine x_dup C dL_isLike_63 rfl ?_
  refine x_bipush (v := 8) C dL_isLike_64 (by decide) ?_
  refine x_aload_n C dL_isLike_66 rfl rfl ?_
  refine xg_L_154 C dL_isLike_67 ?_
  refine xu_st (T' := [(α82, .inl (cA 0, 9, .inl (upd (upd (upd (upd (upd (upd (upd (upd (upd (fun _ => (0 : Int32)) 0 (nI (ln Z))) 1 (Z 0 0 9)) 2 (Z 0 0 5)) 3 (Z 0 0 6)) 4 (Z 0 0 7)) 5 (Z 0 0 8)) 6 (Z 0 0 10)) 7 (Z 0 0 11)) 8 (Z 0 0 12))))]) C 0 rfl (by decide) rfl dL_isLike_70 ?_
  refine x_astore_n (lv' := [(2, .ref α82), (0, .ref (ρ 13 0 0)), (1, .ref (σ 0 0))]) C dL_isLike_71 rfl (by decide) rfl ?_
  refine x_iconst (v := 0) C dL_isLike_72 (by decide) ?_
  refine x_istore_n (lv' := [(3, .int (0 : Int32)), (2, .ref α82), (0, .ref (ρ 13 0 0)), (1, .ref (σ 0 0))]) C dL_isLike_73 rfl (by decide) rfl ?_
  refine x_sub [2, 3, 1, 0] rfl ?_
  exact qL_isLike_74  C hst  21 _ _ _ _ _ _ _ _  (by omega) (by omega) hf
