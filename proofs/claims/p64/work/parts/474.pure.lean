/-! THE LAW'S LOOP, whole -/
set_option maxRecDepth 100000 in
set_option maxHeartbeats 4000000 in
theorem lp_actw {p : Program} {l : Launch} {e : Env} {s : State} {m : MethodId} {args : Array Value} {below : List Frame} {meth : Method} {c : Code} {Q : State → Prop} {ρ : bsR} {sc L : Nat} {xs : Nat → Int32} {cA : Nat → ClassId} {dC : Nat → ClassId} {dI : Nat → Nat → Nat} {A : Nat → Prop} {Ts : List Cond} {F : va_W} {δ : Nat} {ret : Option FieldType} (C : xCx p m c cL_law 6 s args Ts RL ρ sc L xs cA dC dI A meth ret) (hst : l.stackTraces = false) {σ θ : xA2} {B k k' D D' cl sl w : Nat} {nn : Int32} {X X' : bsX} {Z Z' : pY} (hw : σ 0 0 = w) (hk : k < 3) (hk' : k' = k + 1) (hf : hL_act xs L B X Z D = some (1, X', Z', D')) (hcl : cl + 369 ≤ 600086) (hsl : sl + (1238 + 122 * B) ≤ 7301442)
    (kk : ∀ σ' θ' : xA2, σ' 0 0 = w → xV p l e room_1 s m args below meth c (cl + 369) (sl + (1238 + 122 * B)) Q ρ cA dC dI A (lwWs σ' θ' cA Z' ++ (F ++ [(δ, dCell sc D')])) 6 171 [(5, .int (nI k')), (4, .int nn), (3, .ref (ρ 13 0 0)), (2, .ref w), (1, .ref δ)] [] X') : xV p l e room_1 s m args below meth c cl sl Q ρ cA dC dI A (lwWs σ θ cA Z ++ (F ++ [(δ, dCell sc D)])) 6 171 [(5, .int (nI k)), (4, .int nn), (3, .ref (ρ 13 0 0)), (2, .ref w), (1, .ref δ)] [] X := by
  subst hw
  subst hk'
  refine lp_act C hst hk hf hcl hsl (fun σ1 θ1 h1 => ?_)
  exact kk σ1 θ1 h1
set_option maxRecDepth 100000 in
set_option maxHeartbeats 4000000 in
theorem lp_checksw {p : Program} {l : Launch} {e : Env} {s : State} {m : MethodId} {args : Array Value} {below : List Frame} {meth : Method} {c : Code} {Q : State → Prop} {ρ : bsR} {sc L : Nat} {xs : Nat → Int32} {cA : Nat → ClassId} {dC : Nat → ClassId} {dI : Nat → Nat → Nat} {A : Nat → Prop} {Ts : List Cond} {F : va_W} {δ : Nat} {ret : Option FieldType} (C : xCx p m c cL_law 6 s args Ts RL ρ sc L xs cA dC dI A meth ret) (hst : l.stackTraces = false) {σ θ : xA2} {D q cl sl w : Nat} {x5 : Int32} {X X' : bsX} {Z : pY} (hw : σ 0 0 = w) (h1 : hL_isLike X Z = some (1, X, Z)) (h2 : hL_finds X Z = some (1, X, Z)) (h3 : hL_texts X Z = some (1, X', Z)) (h4 : hL_shares X' Z = some (1, X', Z)) (hcl : cl + 2593 ≤ 600086) (hsl : sl + 296193 ≤ 7301442)
    (kk : ∀ θ' : xA2, xV p l e room_1 s m args below meth c (cl + 2593) (sl + 296193) Q ρ cA dC dI A (lwWs σ θ' cA Z ++ (F ++ [(δ, dCell sc D)])) 6 163 [(4, .int (nI q)), (3, .ref (ρ 13 0 0)), (2, .ref w), (1, .ref δ)] [] X') : xV p l e room_1 s m args below meth c cl sl Q ρ cA dC dI A (lwWs σ θ cA Z ++ (F ++ [(δ, dCell sc D)])) 6 171 [(5, .int (nI 3)), (4, .int (nI (q + 1))), (3, .ref (ρ 13 0 0)), (2, .ref w), (1, .ref δ)] [] X := by
  subst hw
  exact lp_checks (x5 := x5) C hst (σ0 := σ) rfl h1 h2 h3 h4 hcl hsl kk
def pot (i : Nat) : Nat := 387747 * i + 131760 * (i * (i - 1) / 2)
theorem pot_s : ∀ i, i < 8 → pot (i + 1) = pot i + 387747 + 131760 * i := by decide
theorem pot_l : ∀ i, i < 9 → pot i ≤ 6791256 := by decide
set_option maxRecDepth 100000 in
set_option maxHeartbeats 4000000 in
theorem lp_loop {p : Program} {l : Launch} {e : Env} {s : State} {m : MethodId} {args : Array Value} {below : List Frame} {meth : Method} {c : Code} {Q : State → Prop} {ρ : bsR} {sc L : Nat} {xs : Nat → Int32} {cA : Nat → ClassId} {dC : Nat → ClassId} {dI : Nat → Nat → Nat} {A : Nat → Prop} {Ts : List Cond} {F : va_W} {δ : Nat} {ret : Option FieldType} (C : xCx p m c cL_law 6 s args Ts RL ρ sc L xs cA dC dI A meth ret) (hst : l.stackTraces = false) {w n : Nat}
    (kk : ∀ (σ' θ' : xA2) (Qb t T D : Nat) (X : bsX) (Z : pY), AI n Qb t T X Z → D ≤ 1000 → σ' 0 0 = w → xV p l e room_1 s m args below meth c 49600 7191256 Q ρ cA dC dI A (lwWs σ' θ' cA Z ++ (F ++ [(δ, dCell sc D)])) 6 234 [(4, .int (nI 0)), (3, .ref (ρ 13 0 0)), (2, .ref w), (1, .ref δ)] [] X) :
    ∀ (q i Qb t T D cl sl : Nat) (X : bsX) (Z : pY) (σ θ : xA2), i + q ≤ 8 → AI n Qb t T X Z → T ≤ 360 * i → t ≤ 180 * i → Qb ≤ 360 * i → D ≤ 201 + 24 * i → σ 0 0 = w → cl ≤ 20000 + 3700 * i → sl ≤ 400000 + pot i →
      xV p l e room_1 s m args below meth c cl sl Q ρ cA dC dI A (lwWs σ θ cA Z ++ (F ++ [(δ, dCell sc D)])) 6 163 [(4, .int (nI q)), (3, .ref (ρ 13 0 0)), (2, .ref w), (1, .ref δ)] [] X := by
  intro q
  induction q with
  | zero =>
    intro i Qb t T D cl sl X Z σ θ hi P hT ht hQ hD hw hcl hsl
    have hp := pot_l i (by omega)
    refine x_iload C dL_law_163 rfl ?_
    refine x_if_le (tgt := 234) C dL_law_165 (by decide) (fun _ => ?_) (fun h => absurd (show nI 0 ≤ (0 : Int32) by decide) h)
    exact x_widen (k := 49600) (n := 7191256) (by omega) (by omega) (kk σ θ Qb t T D X Z P (by omega) hw)
  | succ q ih =>
    intro i Qb t T D cl sl X Z σ θ hi P hT ht hQ hD hw hcl hsl
    have hp := pot_l i (by omega)
    have hs := pot_s i (by omega)
    have hp2 := pot_l (i + 1) (by omega)
    obtain ⟨X1, Z1, D1, X2, Z2, D2, X3, Z3, D3, Q3, t3, T3, a1, a2, a3, P3, b1, b2', b3, b4⟩ := AI.three (B1 := 360 * i + 120) (B2 := 360 * i + 240) (B3 := 360 * i + 360) (L := L) (xs := xs) (D := D) P (by omega) (by omega) (by omega) (by omega) (by omega) (by omega) (by omega) (by omega) (by omega)
    obtain ⟨e1, e2, X', e3, e4, P'⟩ := P3.checks (by omega) (by omega)
    refine x_iload C dL_law_163 rfl ?_
    refine x_if_le (tgt := 234) C dL_law_165 (by decide) (fun h => absurd ((pu_le (q + 1) 0 (by omega) (by omega)).mp h) (by omega)) (fun _ => ?_)
    refine x_iconst (v := nI 0) C dL_law_168 (by decide) ?_
    refine x_istore C dL_law_169 (by decide) rfl ?_
    refine lp_actw (k' := 1) (cl := cl) (sl := sl) C hst hw (show 0 < 3 by decide) rfl a1 (by omega) (by omega) (fun σ1 θ1 h1 => ?_)
    refine lp_actw (k' := 2) (cl := cl + 369) (sl := sl + (1238 + 122 * (360 * i + 120))) C hst h1 (show 1 < 3 by decide) rfl a2 (by omega) (by omega) (fun σ2 θ2 h2 => ?_)
    refine lp_actw (k' := 3) (cl := cl + 369 + 369) (sl := sl + (1238 + 122 * (360 * i + 120)) + (1238 + 122 * (360 * i + 240))) C hst h2 (show 2 < 3 by decide) rfl a3 (by omega) (by omega) (fun σ3 θ3 h3 => ?_)
    refine lp_checksw (x5 := 0) (cl := cl + 369 + 369 + 369) (sl := sl + (1238 + 122 * (360 * i + 120)) + (1238 + 122 * (360 * i + 240)) + (1238 + 122 * (360 * i + 360))) C hst h3 e1 e2 e3 e4 (by omega) (by omega) (fun θ4 => ?_)
    exact ih (i + 1) Q3 t3 T3 D3 _ _ X' Z3 σ3 θ4 (by omega) P' (by omega) (by omega) (by omega) (by omega) h3 (by omega) (by omega)
