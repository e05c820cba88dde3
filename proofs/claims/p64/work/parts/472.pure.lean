/-! THE LAW'S LOOP -/
theorem mlA_act : Cond.methodLink RL 367 yL_act ∈ bsG := bsG_in 1312 (by decide +kernel) rfl
set_option maxRecDepth 1000000 in
set_option maxHeartbeats 4000000 in
theorem wzL_act : bsWz yL_act cL_act 10 (some .boolean) := ⟨bsG_in 1313 (by decide +kernel) rfl, bsG_in 37 (by decide +kernel) rfl, bsG_in 1314 rfl rfl, by decide +kernel, by decide +kernel⟩
theorem dpL_act : (parseMethodDescriptor yL_act.desc).map (fun d => d.parameters.length) = some 3 := by decide +kernel
theorem mlA_isLike : Cond.methodLink RL 363 yL_isLike ∈ bsG := bsG_in 1297 (by decide +kernel) rfl
theorem wzL_isLike : bsWz yL_isLike cL_isLike 7 (some .boolean) := ⟨bsG_in 1298 (by decide +kernel) rfl, bsG_in 37 (by decide +kernel) rfl, bsG_in 1299 (by decide +kernel) rfl, by decide +kernel, by decide +kernel⟩
theorem dpL_isLike : (parseMethodDescriptor yL_isLike.desc).map (fun d => d.parameters.length) = some 2 := by decide +kernel
theorem mlA_finds : Cond.methodLink RL 371 yL_finds ∈ bsG := bsG_in 1362 (by decide +kernel) rfl
set_option maxRecDepth 1000000 in
set_option maxHeartbeats 4000000 in
theorem wzL_finds : bsWz yL_finds cL_finds 13 (some .boolean) := ⟨bsG_in 1363 (by decide +kernel) rfl, bsG_in 37 (by decide +kernel) rfl, bsG_in 1364 rfl rfl, by decide +kernel, by decide +kernel⟩
theorem dpL_finds : (parseMethodDescriptor yL_finds.desc).map (fun d => d.parameters.length) = some 2 := by decide +kernel
theorem mlA_texts : Cond.methodLink RL 374 yL_texts ∈ bsG := bsG_in 1446 (by decide +kernel) rfl
theorem wzL_texts : bsWz yL_texts cL_texts 7 (some .boolean) := ⟨bsG_in 1447 (by decide +kernel) rfl, bsG_in 37 (by decide +kernel) rfl, bsG_in 1448 (by decide +kernel) rfl, by decide +kernel, by decide +kernel⟩
theorem dpL_texts : (parseMethodDescriptor yL_texts.desc).map (fun d => d.parameters.length) = some 2 := by decide +kernel
theorem mlA_shares : Cond.methodLink RL 377 yL_shares ∈ bsG := bsG_in 1614 (by decide +kernel) rfl
theorem wzL_shares : bsWz yL_shares cL_shares 5 (some .boolean) := ⟨bsG_in 1615 (by decide +kernel) rfl, bsG_in 37 (by decide +kernel) rfl, bsG_in 1616 (by decide +kernel) rfl, by decide +kernel, by decide +kernel⟩
theorem dpL_shares : (parseMethodDescriptor yL_shares.desc).map (fun d => d.parameters.length) = some 2 := by decide +kernel
set_option maxRecDepth 100000 in
set_option maxHeartbeats 4000000 in
theorem lp_act {p : Program} {l : Launch} {e : Env} {s : State} {m : MethodId} {args : Array Value} {below : List Frame} {meth : Method} {c : Code} {Q : State → Prop} {ρ : bsR} {sc L : Nat} {xs : Nat → Int32} {cA : Nat → ClassId} {dC : Nat → ClassId} {dI : Nat → Nat → Nat} {A : Nat → Prop} {Ts : List Cond} {F : va_W} {δ : Nat} {ret : Option FieldType} (C : xCx p m c cL_law 6 s args Ts RL ρ sc L xs cA dC dI A meth ret) (hst : l.stackTraces = false) {σ θ : xA2} {B k D D' cl sl : Nat} {nn : Int32} {X X' : bsX} {Z Z' : pY} (hk : k < 3) (hf : hL_act xs L B X Z D = some (1, X', Z', D')) (hcl : cl + 369 ≤ 600086) (hsl : sl + (1238 + 122 * B) ≤ 7301442)
    (kk : ∀ σ' θ' : xA2, σ' 0 0 = σ 0 0 → xV p l e room_1 s m args below meth c (cl + 369) (sl + (1238 + 122 * B)) Q ρ cA dC dI A (lwWs σ' θ' cA Z' ++ (F ++ [(δ, dCell sc D')])) 6 171 [(5, .int (nI (k + 1))), (4, .int nn), (3, .ref (ρ 13 0 0)), (2, .ref (σ 0 0)), (1, .ref δ)] [] X') : xV p l e room_1 s m args below meth c cl sl Q ρ cA dC dI A (lwWs σ θ cA Z ++ (F ++ [(δ, dCell sc D)])) 6 171 [(5, .int (nI k)), (4, .int nn), (3, .ref (ρ 13 0 0)), (2, .ref (σ 0 0)), (1, .ref δ)] [] X := by
  refine x_iload C dL_law_171 rfl ?_
  refine x_iconst (v := 3) C dL_law_173 (by decide) ?_
  refine x_icmp_ge (tgt := 194) C dL_law_174 (by decide) (fun h => absurd ((pu_le 3 k (by omega) (by omega)).mp h) (by omega)) (fun _ => ?_)
  refine x_aload_n C dL_law_177 rfl rfl ?_
  refine x_aload_n C dL_law_178 rfl rfl ?_
  refine x_aload_n C dL_law_179 rfl rfl ?_
  refine x_callSi (y := yL_act) (As := [.ref (ρ 13 0 0), .ref (σ 0 0), .ref δ]) (rest := []) C (cL_act_ok hst hf) mlA_act wzL_act dpL_act ⟨Nat.le_of_ble_eq_true rfl, Nat.le_of_ble_eq_true rfl⟩ ⟨hcl, hsl⟩ rfl (Nat.le_of_ble_eq_true rfl) dL_law_180 (fun r' X1 R1 hp => ?_)
  obtain ⟨rfl, rfl, σ', θ', hσ, rfl⟩ := hp
  refine x_if_ne (tgt := 188) C dL_law_183 (by decide) (fun _ => ?_) (fun h => absurd h (show ¬ (1 : Int32) = 0 by decide))
  refine x_iinc (k0 := 0) (v := nI (k + 1)) C dL_law_188 rfl (pu_succ k) (by decide) rfl ?_
  refine x_goto (tgt := 171) C dL_law_191 (by decide) ?_
  exact kk σ' θ' hσ
set_option maxRecDepth 100000 in
set_option maxHeartbeats 4000000 in
theorem lp_checks {p : Program} {l : Launch} {e : Env} {s : State} {m : MethodId} {args : Array Value} {below : List Frame} {meth : Method} {c : Code} {Q : State → Prop} {ρ : bsR} {sc L : Nat} {xs : Nat → Int32} {cA : Nat → ClassId} {dC : Nat → ClassId} {dI : Nat → Nat → Nat} {A : Nat → Prop} {Ts : List Cond} {F : va_W} {δ : Nat} {ret : Option FieldType} (C : xCx p m c cL_law 6 s args Ts RL ρ sc L xs cA dC dI A meth ret) (hst : l.stackTraces = false) {σ σ0 θ : xA2} {D q cl sl : Nat} {x5 : Int32} {X X' : bsX} {Z : pY} (hσ : σ 0 0 = σ0 0 0) (h1 : hL_isLike X Z = some (1, X, Z)) (h2 : hL_finds X Z = some (1, X, Z)) (h3 : hL_texts X Z = some (1, X', Z)) (h4 : hL_shares X' Z = some (1, X', Z)) (hcl : cl + 2593 ≤ 600086) (hsl : sl + 296193 ≤ 7301442)
    (kk : ∀ θ' : xA2, xV p l e room_1 s m args below meth c (cl + 2593) (sl + 296193) Q ρ cA dC dI A (lwWs σ θ' cA Z ++ (F ++ [(δ, dCell sc D)])) 6 163 [(4, .int (nI q)), (3, .ref (ρ 13 0 0)), (2, .ref (σ0 0 0)), (1, .ref δ)] [] X') : xV p l e room_1 s m args below meth c cl sl Q ρ cA dC dI A (lwWs σ θ cA Z ++ (F ++ [(δ, dCell sc D)])) 6 171 [(5, .int (nI 3)), (4, .int (nI (q + 1))), (3, .ref (ρ 13 0 0)), (2, .ref (σ0 0 0)), (1, .ref δ)] [] X := by
  rw [← hσ] at kk ⊢
  refine x_iload C dL_law_171 rfl ?_
  refine x_iconst (v := 3) C dL_law_173 (by decide) ?_
  refine x_icmp_ge (tgt := 194) C dL_law_174 (by decide) (fun _ => ?_) (fun h => absurd (show (3 : Int32) ≤ nI 3 by decide) h)
  refine x_aload_n C dL_law_194 rfl rfl ?_
  refine x_aload_n C dL_law_195 rfl rfl ?_
  refine x_callSi (y := yL_isLike) (As := [.ref (ρ 13 0 0), .ref (σ 0 0)]) (rest := []) C (cL_isLike_ok hst h1) mlA_isLike wzL_isLike dpL_isLike ⟨Nat.le_of_ble_eq_true rfl, Nat.le_of_ble_eq_true rfl⟩ ⟨by show cl + 610 ≤ 600086; omega, by show sl + 3677 ≤ 7301442; omega⟩ rfl (Nat.le_of_ble_eq_true rfl) dL_law_196 (fun r' X1 R1 hp => ?_)
  obtain ⟨rfl, rfl, θ, rfl⟩ := hp
  refine x_if_eq (tgt := 226) C dL_law_199 (by decide) (fun h => absurd h (show ¬ (1 : Int32) = 0 by decide)) (fun _ => ?_)
  refine x_aload_n C dL_law_202 rfl rfl ?_
  refine x_aload_n C dL_law_203 rfl rfl ?_
  refine x_callSi (y := yL_finds) (As := [.ref (ρ 13 0 0), .ref (σ 0 0)]) (rest := []) C (cL_finds_ok hst h2) mlA_finds wzL_finds dpL_finds ⟨Nat.le_of_ble_eq_true rfl, Nat.le_of_ble_eq_true rfl⟩ ⟨by show (cl + 610) + 104 ≤ 600086; omega, by show (sl + 3677) + 624 ≤ 7301442; omega⟩ rfl (Nat.le_of_ble_eq_true rfl) dL_law_204 (fun r' X1 R1 hp => ?_)
  obtain ⟨rfl, rfl, θ, rfl⟩ := hp
  refine x_if_eq (tgt := 226) C dL_law_207 (by decide) (fun h => absurd h (show ¬ (1 : Int32) = 0 by decide)) (fun _ => ?_)
  refine x_aload_n C dL_law_210 rfl rfl ?_
  refine x_aload_n C dL_law_211 rfl rfl ?_
  refine x_callSi (y := yL_texts) (As := [.ref (ρ 13 0 0), .ref (σ 0 0)]) (rest := []) C (cL_texts_ok hst h3) mlA_texts wzL_texts dpL_texts ⟨Nat.le_of_ble_eq_true rfl, Nat.le_of_ble_eq_true rfl⟩ ⟨by show ((cl + 610) + 104) + 1877 ≤ 600086; omega, by show ((sl + 3677) + 624) + 291880 ≤ 7301442; omega⟩ rfl (Nat.le_of_ble_eq_true rfl) dL_law_212 (fun r' X1 R1 hp => ?_)
  obtain ⟨rfl, rfl, θ, rfl⟩ := hp
  refine x_if_eq (tgt := 226) C dL_law_215 (by decide) (fun h => absurd h (show ¬ (1 : Int32) = 0 by decide)) (fun _ => ?_)
  refine x_aload_n C dL_law_218 rfl rfl ?_
  refine x_aload_n C dL_law_219 rfl rfl ?_
  refine x_callSi (y := yL_shares) (As := [.ref (ρ 13 0 0), .ref (σ 0 0)]) (rest := []) C (cL_shares_ok hst h4) mlA_shares wzL_shares dpL_shares ⟨Nat.le_of_ble_eq_true rfl, Nat.le_of_ble_eq_true rfl⟩ ⟨by show (((cl + 610) + 104) + 1877) + 2 ≤ 600086; omega, by show (((sl + 3677) + 624) + 291880) + 12 ≤ 7301442; omega⟩ rfl (Nat.le_of_ble_eq_true rfl) dL_law_220 (fun r' X1 R1 hp => ?_)
  obtain ⟨rfl, rfl, θ, rfl⟩ := hp
  refine x_if_ne (tgt := 228) C dL_law_223 (by decide) (fun _ => ?_) (fun h => absurd h (show ¬ (1 : Int32) = 0 by decide))
  refine x_iinc (k0 := 1) (v := nI q) C dL_law_228 rfl (by rw [show nI (q + 1) + Int32.ofInt (-1) = nI (q + 1) - 1 from (Int32.sub_eq_add_neg (nI (q + 1)) 1).symm]; exact pu_sub (q + 1) 1 (by omega)) (by decide) rfl ?_
  refine x_goto (tgt := 163) C dL_law_231 (by decide) ?_
  refine x_sub [0, 2, 3, 4] rfl ?_
  exact x_widen (by show ((((cl + 610) + 104) + 1877) + 2) ≤ cl + 2593; omega) (by show ((((sl + 3677) + 624) + 291880) + 12) ≤ sl + 296193; omega) (kk θ)
