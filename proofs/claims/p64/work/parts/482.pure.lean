/-! THE LAW'S MIDDLE -/
theorem mlB_undoable : Cond.methodLink RL 346 yX8_undoable ∈ bsG := bsG_in 433 (by decide +kernel) rfl
theorem wyB_undoable : bsWy yX8_undoable cX8_undoable 1 (some .int) := ⟨bsG_in 434 (by decide +kernel) rfl, bsG_in 435 (by decide +kernel) rfl, bsG_in 52 (by decide +kernel) rfl, bsG_in 436 (by decide +kernel) rfl, by decide +kernel, by decide +kernel⟩
theorem dpB_undoable : (parseMethodDescriptor yX8_undoable.desc).map (fun d => d.parameters.length) = some 0 := by decide +kernel
theorem mlB_parseError : Cond.methodLink RL 357 yX8_parseError ∈ bsG := bsG_in 425 (by decide +kernel) rfl
theorem wyB_parseError : bsWy yX8_parseError cX8_parseError 1 (some .int) := ⟨bsG_in 426 (by decide +kernel) rfl, bsG_in 427 (by decide +kernel) rfl, bsG_in 52 (by decide +kernel) rfl, bsG_in 428 (by decide +kernel) rfl, by decide +kernel, by decide +kernel⟩
theorem dpB_parseError : (parseMethodDescriptor yX8_parseError.desc).map (fun d => d.parameters.length) = some 0 := by decide +kernel
theorem mlB_errorPosition : Cond.methodLink RL 360 yX8_errorPosition ∈ bsG := bsG_in 429 (by decide +kernel) rfl
theorem wyB_errorPosition : bsWy yX8_errorPosition cX8_errorPosition 1 (some .int) := ⟨bsG_in 430 (by decide +kernel) rfl, bsG_in 431 (by decide +kernel) rfl, bsG_in 52 (by decide +kernel) rfl, bsG_in 432 (by decide +kernel) rfl, by decide +kernel, by decide +kernel⟩
theorem dpB_errorPosition : (parseMethodDescriptor yX8_errorPosition.desc).map (fun d => d.parameters.length) = some 0 := by decide +kernel
theorem mlB_tell : Cond.methodLink RL 353 yL_tell ∈ bsG := bsG_in 783 (by decide +kernel) rfl
theorem wzB_tell : bsWz yL_tell cL_tell 2 (some .int) := ⟨bsG_in 784 (by decide +kernel) rfl, bsG_in 37 (by decide +kernel) rfl, bsG_in 785 (by decide +kernel) rfl, by decide +kernel, by decide +kernel⟩
theorem dpB_tell : (parseMethodDescriptor yL_tell.desc).map (fun d => d.parameters.length) = some 2 := by decide +kernel
set_option maxRecDepth 100000 in
set_option maxHeartbeats 4000000 in
theorem lm_a {p : Program} {l : Launch} {e : Env} {s : State} {m : MethodId} {args : Array Value} {below : List Frame} {meth : Method} {c : Code} {Q : State → Prop} {ρ : bsR} {sc L : Nat} {xs : Nat → Int32} {cA : Nat → ClassId} {dC : Nat → ClassId} {dI : Nat → Nat → Nat} {A : Nat → Prop} {Ts : List Cond} {Rz : va_W} {ret : Option FieldType} (C : xCx p m c cL_law 6 s args Ts RL ρ sc L xs cA dC dI A meth ret) (hst : l.stackTraces = false) {cl sl : Nat} {lv : List (Nat × Value)} {X : bsX} (h3 : lv.lookup 3 = some (.ref (ρ 13 0 0))) (h7 : X 13 0 0 7 = 0) (h9 : X 13 0 0 9 = 0) (h2 : X 13 2 0 1 = 0) (hcl : cl + 55 ≤ 600086) (hsl : sl + 310 ≤ 7301442)
    (kk : xV p l e room_1 s m args below meth c (cl + 55) (sl + 310) Q ρ cA dC dI A Rz 6 110 lv [] X) : xV p l e room_1 s m args below meth c cl sl Q ρ cA dC dI A Rz 6 26 lv [] X := by
  obtain ⟨q1, q2, q3, q4, q5, q6⟩ := pre_ok h7 h9 h2
  have hcl' : cl + 55 ≤ room_1.cells := hcl
  have hsl' : sl + 310 ≤ room_1.slots := hsl
  refine lq_26 C hst h3 q1 (by omega) (by omega) ?_
  refine lq_42 C hst h3 q2 (by omega) (by omega) ?_
  refine lq_59 C hst h3 q5 (by omega) (by omega) ?_
  refine lq_72 C hst h3 q3 (by omega) (by omega) ?_
  refine lq_84 C hst h3 q4 (by omega) (by omega) ?_
  refine x_aload_n C dL_law_101 rfl h3 ?_
  refine x_callBi (y := yX8_undoable) (As := []) (rest := []) C (cX8_undoable_ok rfl) mlB_undoable wyB_undoable bsm_X8 bsc_X8 rfl dpB_undoable ⟨Nat.le_of_ble_eq_true rfl, Nat.le_of_ble_eq_true rfl⟩ ⟨rfl, rfl⟩ ⟨by omega, by omega⟩ rfl (Nat.le_of_ble_eq_true rfl) dL_law_102 ?_
  refine x_if_eq (tgt := 110) C dL_law_105 (by decide) (fun _ => ?_) (fun h => absurd h9 h)
  exact x_widen (by omega) (by omega) kk
set_option maxRecDepth 100000 in
set_option maxHeartbeats 4000000 in
theorem lm_b {p : Program} {l : Launch} {e : Env} {s : State} {m : MethodId} {args : Array Value} {below : List Frame} {meth : Method} {c : Code} {Q : State → Prop} {ρ : bsR} {sc L : Nat} {xs : Nat → Int32} {cA : Nat → ClassId} {dC : Nat → ClassId} {dI : Nat → Nat → Nat} {A : Nat → Prop} {Ts : List Cond} {δ : Nat} {ret : Option FieldType} (C : xCx p m c cL_law 6 s args Ts RL ρ sc L xs cA dC dI A meth ret) (hst : l.stackTraces = false) {cl sl D nn k v w lm f o n : Nat} {t : Nat → Nat} {a : Nat → Int32} {ml : Int32} {Dd : Nat → Nat → Nat} {X : bsX} {Z : pY} {σ θ : xA2} (hL : sb_Lat t nn a) (hF : sb_Fit a) (hnk : nn ≤ k) (hk : k ≤ 1026)
    (ha : alike (X 12) blankY) (h3 : X 13 1 0 3 = 0) (ht : tl t nn = lawL w lm f o n Dd) (hb : ∀ i, i < nn → t i < 256) (hN : nn ≤ 512)
    (w1 : 1 ≤ w) (w2 : w < 100) (l1 : 1 ≤ lm) (l2 : lm ≤ 9) (f2 : f ≤ 7) (o2 : o < 100) (n1 : 1 ≤ n) (n6 : n ≤ 6) (hD : ∀ k, k < n → okD Dd k) (hZ : zW w lm f o n Dd Z) (hD2 : D ≤ 200) (hcl : cl + 643 ≤ 600086) (hsl : sl + 4863 ≤ 7301442)
    (kk : ∀ (θ' : xA2) (q : Nat) (X' : bsX), AI n 0 0 0 X' Z → q ≤ 8 → xV p l e room_1 s m args below meth c (cl + 643) (sl + 4863) Q ρ cA dC dI A (lwWs σ θ' cA Z ++ ([] ++ [(δ, dCell sc (D + 1))])) 6 163 [(4, .int (nI q)), (3, .ref (ρ 13 0 0)), (2, .ref (σ 0 0)), (1, .ref δ)] [] X') : xV p l e room_1 s m args below meth c cl sl Q ρ cA dC dI A (lwWs σ θ cA Z ++ ([] ++ [(δ, dCell sc D), (σ 9 0, sbC v ml (nI nn)), (v, byC cA k a)])) 6 110 [(3, .ref (ρ 13 0 0)), (2, .ref (σ 0 0)), (1, .ref δ)] [] X := by
  obtain ⟨X1, e1, P, e8, e9⟩ := tell_ok (t := t) ha h3 ht hb hN w1 w2 l1 l2 f2 o2 n1 n6 hD hZ
  have hcl' : cl + 643 ≤ room_1.cells := hcl
  have hsl' : sl + 4863 ≤ room_1.slots := hsl
  have hln : ln Z = n := P.2.2.2.1.pn P.2.2.1.hn
  refine x_aload_n C dL_law_110 rfl rfl ?_
  refine x_aload_n C dL_law_111 rfl rfl ?_
  refine xg_L_349 C dL_law_112 ?_
  refine x_eq (Rz' := (lwWs σ θ cA Z ++ ([] ++ [(δ, dCell sc D)])) ++ [(σ 9 0, sbC v ml (nI nn)), (v, byC cA k a)]) (by simp) ?_
  refine x_callVr (y := yJ4_toString_0e30d) (As := []) (rest := [.ref (ρ 13 0 0)]) C (cJ4_toString_0e30d_ok hL hF hnk hk) (bsG_in 1500 (by decide +kernel) rfl) wyJ4_toString_0e30d ((jd_at _ [(σ 9 0, sbC v ml (nI nn)), (v, byC cA k a)] 0).trans rfl) rfl dpJ4_toString_0e30d ⟨Nat.le_of_ble_eq_true rfl, Nat.le_of_ble_eq_true rfl⟩ ⟨by show cl + 2 ≤ 600086; omega, by show sl + 1030 ≤ 7301442; omega⟩ rfl (Nat.le_of_ble_eq_true rfl) dL_law_115 (fun r X' R' hp => ?_)
  obtain ⟨eX, v2, a2, eW, hL2⟩ := hp
  rw [eX, eW]
  clear eX eW X' R'
  refine x_callSi (y := yL_tell) (As := [.ref (ρ 13 0 0), .ref r]) (rest := []) C (cL_tell_ok hst ((jd_at _ [(r, stC v2), (v2, byC cA nn a2)] 0).trans rfl) ((jd_at _ [(r, stC v2), (v2, byC cA nn a2)] 1).trans rfl) hL2 hN e1) mlB_tell wzB_tell dpB_tell ⟨Nat.le_of_ble_eq_true rfl, Nat.le_of_ble_eq_true rfl⟩ ⟨by show cl + 2 + 31 ≤ 600086; omega, by show sl + 1030 + 156 ≤ 7301442; omega⟩ rfl (Nat.le_of_ble_eq_true rfl) dL_law_118 (fun r' X2 R2 hp => ?_)
  obtain ⟨rfl, rfl, rfl⟩ := hp
  refine x_subl (Rz' := (lwWs σ θ cA Z ++ ([] ++ [(δ, dCell sc D)]))) (List.sublist_append_left _ _) ?_
  refine x_widen (k := cl + 33) (n := sl + 1186) (by show cl + 2 + 31 ≤ _; omega) (by show sl + 1030 + 156 ≤ _; omega) ?_
  refine x_aload_n C dL_law_121 rfl rfl ?_
  refine xg_L_114 C dL_law_122 ?_
  refine xn_plc C dL_law_125 ?_
  refine x_icmp_ne (tgt := 152) C dL_law_126 (by decide) (fun h => absurd (by rw [hln]) h) (fun _ => ?_)
  refine x_aload_n C dL_law_129 rfl rfl ?_
  refine x_callBi (y := yX8_parseError) (As := []) (rest := []) C (cX8_parseError_ok rfl) mlB_parseError wyB_parseError bsm_X8 bsc_X8 rfl dpB_parseError ⟨Nat.le_of_ble_eq_true rfl, Nat.le_of_ble_eq_true rfl⟩ ⟨rfl, rfl⟩ ⟨by omega, by omega⟩ rfl (Nat.le_of_ble_eq_true rfl) dL_law_130 ?_
  refine x_if_ne (tgt := 152) C dL_law_133 (by decide) (fun h => absurd e8 h) (fun _ => ?_)
  refine x_aload_n C dL_law_136 rfl rfl ?_
  refine x_callBi (y := yX8_errorPosition) (As := []) (rest := []) C (cX8_errorPosition_ok rfl) mlB_errorPosition wyB_errorPosition bsm_X8 bsc_X8 rfl dpB_errorPosition ⟨Nat.le_of_ble_eq_true rfl, Nat.le_of_ble_eq_true rfl⟩ ⟨rfl, rfl⟩ ⟨by omega, by omega⟩ rfl (Nat.le_of_ble_eq_true rfl) dL_law_137 ?_
  refine x_iconst (v := -1) C dL_law_140 (by decide) ?_
  refine x_icmp_ne (tgt := 152) C dL_law_141 (by decide) (fun h => absurd e9 h) (fun _ => ?_)
  refine x_aload_n C dL_law_144 rfl rfl ?_
  refine x_aload_n C dL_law_145 rfl rfl ?_
  refine x_callSi (y := yL_isLike) (As := [.ref (ρ 13 0 0), .ref (σ 0 0)]) (rest := []) C (cL_isLike_ok hst (il_ok P.pi)) mlA_isLike wzL_isLike dpL_isLike ⟨Nat.le_of_ble_eq_true rfl, Nat.le_of_ble_eq_true rfl⟩ ⟨by show cl + 33 + 610 ≤ 600086; omega, by show sl + 1186 + 3677 ≤ 7301442; omega⟩ rfl (Nat.le_of_ble_eq_true rfl) dL_law_146 (fun r' X3 R3 hp => ?_)
  obtain ⟨rfl, rfl, θ', rfl⟩ := hp
  refine x_if_ne (tgt := 154) C dL_law_149 (by decide) (fun _ => ?_) (fun h => absurd h (show ¬ (1 : Int32) = 0 by decide))
  refine x_aload_n C dL_law_154 rfl rfl ?_
  refine x_iconst (v := 1) C dL_law_155 (by decide) ?_
  refine x_bipush (v := 8) C dL_law_156 (by decide) ?_
  refine xu_next (T' := [(δ, dCell sc (D + 1))]) (As := [.int 1, .int 8]) (rest := []) (at0 := D) (lo := 1) (hi := 8) C 0 rfl rfl (by decide) (by omega) ml_L_198 rfl ⟨Nat.le_of_ble_eq_true rfl, Nat.le_of_ble_eq_true rfl⟩ ⟨by show cl + 33 + 610 ≤ 600086; omega, by show sl + 1186 + 3677 ≤ 7301442; omega⟩ rfl (Nat.le_of_ble_eq_true rfl) dL_law_158 ?_
  obtain ⟨q, hq1, hq8, eq⟩ := dv_in xs L D 1 8 (by omega) (by omega)
  refine x_istore (lv' := [(4, .int (nI q)), (3, .ref (ρ 13 0 0)), (2, .ref (σ 0 0)), (1, .ref δ)]) C dL_law_161 (by decide) (by rw [show dVal xs L D 1 8 = nI q from eq]; rfl) ?_
  exact x_widen (by show cl + 33 + 610 ≤ _; omega) (by show sl + 1186 + 3677 ≤ _; omega) (kk θ' q _ P hq8)
