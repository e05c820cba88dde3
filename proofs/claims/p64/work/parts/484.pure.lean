/-! THE LAW from pc 26 on -/
set_option maxRecDepth 100000 in
set_option maxHeartbeats 4000000 in
theorem law_26 {p : Program} {l : Launch} {e : Env} {s : State} {m : MethodId} {b : Nat} {below : List Frame} {meth : Method} {c : Code} {ρ : bsR} {sc L : Nat} {xs : Nat → Int32} {cA : Nat → ClassId} {dC : Nat → ClassId} {dI : Nat → Nat → Nat} {A : Nat → Prop} {Ts : List Cond} {δ : Nat} (C : xCx p m c cL_law 6 s #[Value.ref b] Ts RL ρ sc L xs cA dC dI A meth (some .boolean)) (hst : l.stackTraces = false) (hA : ∀ q, A q → s.heap.size ≤ q)
    {cl sl D nn k v w lm f o n : Nat} {t : Nat → Nat} {a : Nat → Int32} {ml : Int32} {Dd : Nat → Nat → Nat} {X : bsX} {Z : pY} {σ θ : xA2} (hL : sb_Lat t nn a) (hF : sb_Fit a) (hnk : nn ≤ k) (hk : k ≤ 1026)
    (h7 : X 13 0 0 7 = 0) (h9 : X 13 0 0 9 = 0) (h2 : X 13 2 0 1 = 0) (ha : alike (X 12) blankY) (h3 : X 13 1 0 3 = 0) (ht : tl t nn = lawL w lm f o n Dd) (hb : ∀ i, i < nn → t i < 256) (hN : nn ≤ 512)
    (w1 : 1 ≤ w) (w2 : w < 100) (l1 : 1 ≤ lm) (l2 : lm ≤ 9) (f2 : f ≤ 7) (o2 : o < 100) (n1 : 1 ≤ n) (n6 : n ≤ 6) (hD : ∀ k, k < n → okD Dd k) (hZ : zW w lm f o n Dd Z) (hD2 : D ≤ 200) (hcl : cl ≤ 19000) (hsl : sl ≤ 390000) : xV p l e room_1 s m #[Value.ref b] below meth c cl sl (lw_Z below #[Value.ref b] s) ρ cA dC dI A (lwWs σ θ cA Z ++ ([] ++ [(δ, dCell sc D), (σ 9 0, sbC v ml (nI nn)), (v, byC cA k a)])) 6 26 [(3, .ref (ρ 13 0 0)), (2, .ref (σ 0 0)), (1, .ref δ)] [] X := by
  refine lm_a C hst rfl h7 h9 h2 (by omega) (by omega) ?_
  refine lm_b C hst hL hF hnk hk ha h3 ht hb hN w1 w2 l1 l2 f2 o2 n1 n6 hD hZ hD2 (by omega) (by omega) (fun θ1 q X1 P1 hq => ?_)
  refine lp_loop (l := l) (e := e) (below := below) (δ := δ) (F := []) (w := σ 0 0) (n := n) C hst (fun σ' θ' Qb t T D' X' Z' P' hD' hw => ?_) q 0 0 0 0 (D + 1) _ _ X1 Z σ θ1 (by omega) P1 (by omega) (by omega) (by omega) (by omega) rfl (by omega) (by show _ ≤ 400000 + pot 0; omega)
  refine lp_last C hst rfl P' (by omega) (by omega) ?_
  exact lp_end C hA
