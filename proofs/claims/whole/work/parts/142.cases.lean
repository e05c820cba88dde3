/-- what the pure part owes for append -/
def sim_append (I : Nat → bsX → Prop) : Prop := ∀ (j : Nat) (X : bsX) (a1 a2 a3 a4 a5 : Int32), j < 512 → I j X → ∃ (r q : Int32 × bsX), fX8_append a1 a2 a3 a4 a5 X = some r ∧ fX9_append a1 a2 a3 a4 a5 r.2 = some q ∧ r.1 = q.1 ∧ I (j + 1) q.2
set_option maxHeartbeats 4000000 in
set_option maxRecDepth 100000 in
theorem law_0 {p : Program} {l : Launch} {e : Env} {s : State} {m : MethodId} {below : List Frame} {meth : Method} {c : Code} {ρ : bsR} {cA : Nat → ClassId} {dC : Nat → ClassId} {dI : Nat → Nat → Nat} {b L : Nat} {xs : Nat → Int32} {I : Nat → bsX → Prop} (H : sim_append I) (LC : lawC p l s m meth c ρ cA dC dI b L xs) {j : Nat} (hj : 6 * j + 6 ≤ L) {cells slots : Nat} (hc1 : cells + 9 ≤ 601024) (hc2 : slots + 54 ≤ 7293033) {X : bsX} {lo : Int64} {od : UInt64} (hI : I j X) (kk : ∀ (X : bsX) (lo : Int64) (od : UInt64), I (j + 1) X → lawV p l e s m below meth c ρ cA dC dI b (cells + 9) (slots + 54) 3507 [(0, .ref b), (1, .ref (ρ 13 0 0)), (2, .ref (ρ 14 0 0)), (3, .ref (ρ 15 0 0)), (4, .ref (ρ 15 1 0)), (5, .int (nI (6 * j)))] [] X lo od) : lawV p l e s m below meth c ρ cA dC dI b cells slots 304 [(0, .ref b), (1, .ref (ρ 13 0 0)), (2, .ref (ρ 14 0 0)), (3, .ref (ρ 15 0 0)), (4, .ref (ρ 15 1 0)), (5, .int (nI (6 * j)))] [] X lo od := by
  have hL9 : L ≤ 3072 := LC.2.2.2.2.1
  obtain ⟨hC, hX, hbl, hbA, hL, hst, hfr⟩ := LC
  have C := hC lo od
  obtain ⟨r, q, hf, hg, he, hI2⟩ := H j X (xs (6 * j + 1)) (xs (6 * j + 2)) (xs (6 * j + 3)) (xs (6 * j + 4)) (xs (6 * j + 5)) (by omega) hI
  refine v_aload_n C dL_law_304 rfl rfl ?_
  refine v_aload_n C dL_law_305 rfl rfl ?_
  refine v_iload C dL_law_306 rfl ?_
  refine v_iconst (v := 1) C dL_law_308 (by decide) ?_
  refine v_iadd C dL_law_309 ?_
  refine v_sld (k := 1) C hX hbl (hbA lo od) rfl (by omega) (by omega) dL_law_310 ?_
  refine v_aload_n C dL_law_311 rfl rfl ?_
  refine v_iload C dL_law_312 rfl ?_
  refine v_iconst (v := 2) C dL_law_314 (by decide) ?_
  refine v_iadd C dL_law_315 ?_
  refine v_sld (k := 2) C hX hbl (hbA lo od) rfl (by omega) (by omega) dL_law_316 ?_
  refine v_aload_n C dL_law_317 rfl rfl ?_
  refine v_iload C dL_law_318 rfl ?_
  refine v_iconst (v := 3) C dL_law_320 (by decide) ?_
  refine v_iadd C dL_law_321 ?_
  refine v_sld (k := 3) C hX hbl (hbA lo od) rfl (by omega) (by omega) dL_law_322 ?_
  refine v_aload_n C dL_law_323 rfl rfl ?_
  refine v_iload C dL_law_324 rfl ?_
  refine v_iconst (v := 4) C dL_law_326 (by decide) ?_
  refine v_iadd C dL_law_327 ?_
  refine v_sld (k := 4) C hX hbl (hbA lo od) rfl (by omega) (by omega) dL_law_328 ?_
  refine v_aload_n C dL_law_329 rfl rfl ?_
  refine v_iload C dL_law_330 rfl ?_
  refine v_iconst (v := 5) C dL_law_332 (by decide) ?_
  refine v_iadd C dL_law_333 ?_
  refine v_sld (k := 5) C hX hbl (hbA lo od) rfl (by omega) (by omega) dL_law_334 ?_
  refine v_callVi (y := yX8_append) (As := [.int (xs (6 * j + 1)), .int (xs (6 * j + 2)), .int (xs (6 * j + 3)), .int (xs (6 * j + 4)), .int (xs (6 * j + 5))]) (rest := []) C (cX8_append_ok hf) mlw_195 wyX8_append bsm_X8 bsc_X8 rfl (by exact dpX8_append) ⟨Nat.le_of_ble_eq_true rfl, Nat.le_of_ble_eq_true rfl⟩ ⟨rfl, rfl⟩ ⟨by show cells ≤ 601024; omega, by show slots ≤ 7293033; omega⟩ rfl (Nat.le_of_ble_eq_true rfl) dL_law_335 ?_
  refine v_aload_n C dL_law_338 rfl rfl ?_
  refine v_aload_n C dL_law_339 rfl rfl ?_
  refine v_iload C dL_law_340 rfl ?_
  refine v_iconst (v := 1) C dL_law_342 (by decide) ?_
  refine v_iadd C dL_law_343 ?_
  refine v_sld (k := 1) C hX hbl (hbA lo od) rfl (by omega) (by omega) dL_law_344 ?_
  refine v_aload_n C dL_law_345 rfl rfl ?_
  refine v_iload C dL_law_346 rfl ?_
  refine v_iconst (v := 2) C dL_law_348 (by decide) ?_
  refine v_iadd C dL_law_349 ?_
  refine v_sld (k := 2) C hX hbl (hbA lo od) rfl (by omega) (by omega) dL_law_350 ?_
  refine v_aload_n C dL_law_351 rfl rfl ?_
  refine v_iload C dL_law_352 rfl ?_
  refine v_iconst (v := 3) C dL_law_354 (by decide) ?_
  refine v_iadd C dL_law_355 ?_
  refine v_sld (k := 3) C hX hbl (hbA lo od) rfl (by omega) (by omega) dL_law_356 ?_
  refine v_aload_n C dL_law_357 rfl rfl ?_
  refine v_iload C dL_law_358 rfl ?_
  refine v_iconst (v := 4) C dL_law_360 (by decide) ?_
  refine v_iadd C dL_law_361 ?_
  refine v_sld (k := 4) C hX hbl (hbA lo od) rfl (by omega) (by omega) dL_law_362 ?_
  refine v_aload_n C dL_law_363 rfl rfl ?_
  refine v_iload C dL_law_364 rfl ?_
  refine v_iconst (v := 5) C dL_law_366 (by decide) ?_
  refine v_iadd C dL_law_367 ?_
  refine v_sld (k := 5) C hX hbl (hbA lo od) rfl (by omega) (by omega) dL_law_368 ?_
  refine v_callVi (y := yX9_append) (As := [.int (xs (6 * j + 1)), .int (xs (6 * j + 2)), .int (xs (6 * j + 3)), .int (xs (6 * j + 4)), .int (xs (6 * j + 5))]) (rest := [.int r.1]) C (cX9_append_ok hg) mlw_198 wyX9_append bsm_X9 bsc_X9 rfl (by exact dpX9_append) ⟨Nat.le_of_ble_eq_true rfl, Nat.le_of_ble_eq_true rfl⟩ ⟨rfl, rfl⟩ ⟨by show cells ≤ 601024; omega, by show slots ≤ 7293033; omega⟩ rfl (Nat.le_of_ble_eq_true rfl) dL_law_369 ?_
  refine v_icmp_eq (tgt := 3507) C dL_law_372 (by decide) (fun _ => ?_) (fun h => absurd he h)
  exact v_widen (by show cells ≤ cells + 9; omega) (by show slots ≤ slots + 54; omega) (kk q.2 lo od hI2)
/-- what the pure part owes for load -/
def sim_load (I : Nat → bsX → Prop) : Prop := ∀ (j : Nat) (X : bsX) (a1 : Int32), j < 512 → I j X → ∃ (r : bsXr) (q : Int32 × bsX), fX8_load a1 X = some r ∧ (r.1 = 0 ∨ r.1 = 2 ∨ r.1 = 3) ∧ fX9_load a1 r.2.2 = some q ∧ q.2 14 0 0 0 = (if r.1 = 2 then (1 : Int32) else (if r.1 = 3 then (2 : Int32) else (0 : Int32))) ∧ (r.1 = 0 → r.2.1 = q.1) ∧ I (j + 1) q.2
set_option maxHeartbeats 4000000 in
set_option maxRecDepth 100000 in
theorem law_1 {p : Program} {l : Launch} {e : Env} {s : State} {m : MethodId} {below : List Frame} {meth : Method} {c : Code} {ρ : bsR} {cA : Nat → ClassId} {dC : Nat → ClassId} {dI : Nat → Nat → Nat} {b L : Nat} {xs : Nat → Int32} {I : Nat → bsX → Prop} (H : sim_load I) (LC : lawC p l s m meth c ρ cA dC dI b L xs) {j : Nat} (hj : 6 * j + 6 ≤ L) {cells slots : Nat} (hc1 : cells + 9 ≤ 601024) (hc2 : slots + 54 ≤ 7293033) {X : bsX} {lo : Int64} {od : UInt64} (hI : I j X) (kk : ∀ (X : bsX) (lo : Int64) (od : UInt64), I (j + 1) X → lawV p l e s m below meth c ρ cA dC dI b (cells + 9) (slots + 54) 3507 [(0, .ref b), (1, .ref (ρ 13 0 0)), (2, .ref (ρ 14 0 0)), (3, .ref (ρ 15 0 0)), (4, .ref (ρ 15 1 0)), (5, .int (nI (6 * j)))] [] X lo od) : lawV p l e s m below meth c ρ cA dC dI b cells slots 377 [(0, .ref b), (1, .ref (ρ 13 0 0)), (2, .ref (ρ 14 0 0)), (3, .ref (ρ 15 0 0)), (4, .ref (ρ 15 1 0)), (5, .int (nI (6 * j)))] [] X lo od := by
  have hL9 : L ≤ 3072 := LC.2.2.2.2.1
  obtain ⟨hC, hX, hbl, hbA, hL, hst, hfr⟩ := LC
  have C := hC lo od
  obtain ⟨r, q, hf, hr, hg, ht, he, hI2⟩ := H j X (xs (6 * j + 1)) (by omega) hI
  refine v_aload_n C dL_law_377 rfl rfl ?_
  refine v_aload_n C dL_law_378 rfl rfl ?_
  refine v_iload C dL_law_379 rfl ?_
  refine v_iconst (v := 1) C dL_law_381 (by decide) ?_
  refine v_iadd C dL_law_382 ?_
  refine v_sld (k := 1) C hX hbl (hbA lo od) rfl (by omega) (by omega) dL_law_383 ?_
  refine v_aload_n C dL_law_384 rfl rfl ?_
  refine v_wcallS (y := yL_load) (As := [.ref (ρ 13 0 0), .int (xs (6 * j + 1)), .ref (ρ 15 0 0)]) (rest := []) C (cL_load_ok hst hf hr) mlw_199 wwL_load (by exact dpL_load) ⟨Nat.le_of_ble_eq_true rfl, Nat.le_of_ble_eq_true rfl⟩ ⟨by show cells + 1 ≤ 601024; omega, by show slots + 6 ≤ 7293033; omega⟩ rfl (Nat.le_of_ble_eq_true rfl) dL_law_385 ?_
  have C := hC (if r.1 = 0 then r.2.1.toInt64 else lo) od
  generalize hlo : (if r.1 = 0 then r.2.1.toInt64 else lo) = lo9 at C ⊢
  dsimp only
  rw [← ht]
  refine v_istore (lv' := [(6, .int (q.2 14 0 0 0)), (0, .ref b), (1, .ref (ρ 13 0 0)), (2, .ref (ρ 14 0 0)), (3, .ref (ρ 15 0 0)), (4, .ref (ρ 15 1 0)), (5, .int (nI (6 * j)))]) C dL_law_388 (by decide) rfl ?_
  refine v_aload_n C dL_law_390 rfl rfl ?_
  refine v_aload_n C dL_law_391 rfl rfl ?_
  refine v_iload C dL_law_392 rfl ?_
  refine v_iconst (v := 1) C dL_law_394 (by decide) ?_
  refine v_iadd C dL_law_395 ?_
  refine v_sld (k := 1) C hX hbl (hbA lo9 od) rfl (by omega) (by omega) dL_law_396 ?_
  refine v_callVi (y := yX9_load) (As := [.int (xs (6 * j + 1))]) (rest := []) C (cX9_load_ok hg) mlw_204 wyX9_load bsm_X9 bsc_X9 rfl (by exact dpX9_load) ⟨Nat.le_of_ble_eq_true rfl, Nat.le_of_ble_eq_true rfl⟩ ⟨rfl, rfl⟩ ⟨by show cells + 1 ≤ 601024; omega, by show slots + 6 ≤ 7293033; omega⟩ rfl (Nat.le_of_ble_eq_true rfl) dL_law_397 ?_
  refine v_istore (lv' := [(7, .int q.1), (6, .int (q.2 14 0 0 0)), (0, .ref b), (1, .ref (ρ 13 0 0)), (2, .ref (ρ 14 0 0)), (3, .ref (ρ 15 0 0)), (4, .ref (ρ 15 1 0)), (5, .int (nI (6 * j)))]) C dL_law_400 (by decide) rfl ?_
  refine v_aload_n C dL_law_402 rfl rfl ?_
  refine v_callVi (y := yX9_thrown) (As := []) (rest := []) (z := (q.2 14 0 0 0, q.2)) C (cX9_thrown_ok rfl) mlw_205 wyX9_thrown bsm_X9 bsc_X9 rfl (by exact dpX9_thrown) ⟨Nat.le_of_ble_eq_true rfl, Nat.le_of_ble_eq_true rfl⟩ ⟨rfl, rfl⟩ ⟨by show cells + 1 ≤ 601024; omega, by show slots + 6 ≤ 7293033; omega⟩ rfl (Nat.le_of_ble_eq_true rfl) dL_law_403 ?_
  refine v_iload C dL_law_406 rfl ?_
  refine v_icmp_eq (tgt := 413) C dL_law_408 (by decide) (fun _ => ?_) (fun h => absurd rfl h)
  refine v_iload C dL_law_413 rfl ?_
  refine v_if_ne (tgt := 430) C dL_law_415 (by decide) (fun _ => ?_) (fun h0 => ?_)
  · refine v_goto (tgt := 3507) C dL_law_430 (by decide) ?_
    refine v_sub [2, 3, 4, 5, 6, 7] rfl ?_
    exact v_widen (by show cells + 1 ≤ cells + 9; omega) (by show slots + 6 ≤ slots + 54; omega) (kk q.2 lo9 od hI2)
  · have hr0 : r.1 = 0 := by
      rw [ht] at h0
      rcases hr with h1 | h1 | h1
      · exact h1
      · rw [h1] at h0; exact absurd h0 (by decide)
      · rw [h1] at h0; exact absurd h0 (by decide)
    have e0 := he hr0
    rw [if_pos hr0] at hlo
    refine v_aload_n C dL_law_418 rfl rfl ?_
    refine v_iconst (v := 0) C dL_law_419 (by decide) ?_
    refine v_lald C dL_law_420 ?_
    refine v_iload C dL_law_421 rfl ?_
    refine v_i2l C dL_law_423 ?_
    refine v_lcmp C dL_law_424 ?_
    rw [show bsLc lo9 q.1.toInt64 = 0 by rw [← hlo, e0]; exact bsLc_self _]
    refine v_if_eq (tgt := 430) C dL_law_425 (by decide) (fun _ => ?_) (fun h => absurd rfl h)
    refine v_goto (tgt := 3507) C dL_law_430 (by decide) ?_
    refine v_sub [2, 3, 4, 5, 6, 7] rfl ?_
    exact v_widen (by show cells + 1 ≤ cells + 9; omega) (by show slots + 6 ≤ slots + 54; omega) (kk q.2 lo9 od hI2)
/-- what the pure part owes for parseError -/
def sim_parseError (I : Nat → bsX → Prop) : Prop := ∀ (j : Nat) (X : bsX), j < 512 → I j X → ∃ (r q : Int32 × bsX), fX8_parseError  X = some r ∧ fX9_parseError  r.2 = some q ∧ r.1 = q.1 ∧ I (j + 1) q.2
set_option maxHeartbeats 4000000 in
set_option maxRecDepth 100000 in
theorem law_2 {p : Program} {l : Launch} {e : Env} {s : State} {m : MethodId} {below : List Frame} {meth : Method} {c : Code} {ρ : bsR} {cA : Nat → ClassId} {dC : Nat → ClassId} {dI : Nat → Nat → Nat} {b L : Nat} {xs : Nat → Int32} {I : Nat → bsX → Prop} (H : sim_parseError I) (LC : lawC p l s m meth c ρ cA dC dI b L xs) {j : Nat} (hj : 6 * j + 6 ≤ L) {cells slots : Nat} (hc1 : cells + 9 ≤ 601024) (hc2 : slots + 54 ≤ 7293033) {X : bsX} {lo : Int64} {od : UInt64} (hI : I j X) (kk : ∀ (X : bsX) (lo : Int64) (od : UInt64), I (j + 1) X → lawV p l e s m below meth c ρ cA dC dI b (cells + 9) (slots + 54) 3507 [(0, .ref b), (1, .ref (ρ 13 0 0)), (2, .ref (ρ 14 0 0)), (3, .ref (ρ 15 0 0)), (4, .ref (ρ 15 1 0)), (5, .int (nI (6 * j)))] [] X lo od) : lawV p l e s m below meth c ρ cA dC dI b cells slots 433 [(0, .ref b), (1, .ref (ρ 13 0 0)), (2, .ref (ρ 14 0 0)), (3, .ref (ρ 15 0 0)), (4, .ref (ρ 15 1 0)), (5, .int (nI (6 * j)))] [] X lo od := by
  have hL9 : L ≤ 3072 := LC.2.2.2.2.1
  obtain ⟨hC, hX, hbl, hbA, hL, hst, hfr⟩ := LC
  have C := hC lo od
  obtain ⟨r, q, hf, hg, he, hI2⟩ := H j X  (by omega) hI
  refine v_aload_n C dL_law_433 rfl rfl ?_
  refine v_callVi (y := yX8_parseError) (As := []) (rest := []) C (cX8_parseError_ok hf) mlw_208 wyX8_parseError bsm_X8 bsc_X8 rfl (by exact dpX8_parseError) ⟨Nat.le_of_ble_eq_true rfl, Nat.le_of_ble_eq_true rfl⟩ ⟨rfl, rfl⟩ ⟨by show cells ≤ 601024; omega, by show slots ≤ 7293033; omega⟩ rfl (Nat.le_of_ble_eq_true rfl) dL_law_434 ?_
  refine v_aload_n C dL_law_437 rfl rfl ?_
  refine v_callVi (y := yX9_parseError) (As := []) (rest := [.int r.1]) C (cX9_parseError_ok hg) mlw_211 wyX9_parseError bsm_X9 bsc_X9 rfl (by exact dpX9_parseError) ⟨Nat.le_of_ble_eq_true rfl, Nat.le_of_ble_eq_true rfl⟩ ⟨rfl, rfl⟩ ⟨by show cells ≤ 601024; omega, by show slots ≤ 7293033; omega⟩ rfl (Nat.le_of_ble_eq_true rfl) dL_law_438 ?_
  refine v_icmp_eq (tgt := 3507) C dL_law_441 (by decide) (fun _ => ?_) (fun h => absurd he h)
  exact v_widen (by show cells ≤ cells + 9; omega) (by show slots ≤ slots + 54; omega) (kk q.2 lo od hI2)
/-- what the pure part owes for errorPosition -/
def sim_errorPosition (I : Nat → bsX → Prop) : Prop := ∀ (j : Nat) (X : bsX), j < 512 → I j X → ∃ (r q : Int32 × bsX), fX8_errorPosition  X = some r ∧ fX9_errorPosition  r.2 = some q ∧ r.1 = q.1 ∧ I (j + 1) q.2
set_option maxHeartbeats 4000000 in
set_option maxRecDepth 100000 in
theorem law_3 {p : Program} {l : Launch} {e : Env} {s : State} {m : MethodId} {below : List Frame} {meth : Method} {c : Code} {ρ : bsR} {cA : Nat → ClassId} {dC : Nat → ClassId} {dI : Nat → Nat → Nat} {b L : Nat} {xs : Nat → Int32} {I : Nat → bsX → Prop} (H : sim_errorPosition I) (LC : lawC p l s m meth c ρ cA dC dI b L xs) {j : Nat} (hj : 6 * j + 6 ≤ L) {cells slots : Nat} (hc1 : cells + 9 ≤ 601024) (hc2 : slots + 54 ≤ 7293033) {X : bsX} {lo : Int64} {od : UInt64} (hI : I j X) (kk : ∀ (X : bsX) (lo : Int64) (od : UInt64), I (j + 1) X → lawV p l e s m below meth c ρ cA dC dI b (cells + 9) (slots + 54) 3507 [(0, .ref b), (1, .ref (ρ 13 0 0)), (2, .ref (ρ 14 0 0)), (3, .ref (ρ 15 0 0)), (4, .ref (ρ 15 1 0)), (5, .int (nI (6 * j)))] [] X lo od) : lawV p l e s m below meth c ρ cA dC dI b cells slots 446 [(0, .ref b), (1, .ref (ρ 13 0 0)), (2, .ref (ρ 14 0 0)), (3, .ref (ρ 15 0 0)), (4, .ref (ρ 15 1 0)), (5, .int (nI (6 * j)))] [] X lo od := by
  have hL9 : L ≤ 3072 := LC.2.2.2.2.1
  obtain ⟨hC, hX, hbl, hbA, hL, hst, hfr⟩ := LC
  have C := hC lo od
  obtain ⟨r, q, hf, hg, he, hI2⟩ := H j X  (by omega) hI
  refine v_aload_n C dL_law_446 rfl rfl ?_
  refine v_callVi (y := yX8_errorPosition) (As := []) (rest := []) C (cX8_errorPosition_ok hf) mlw_212 wyX8_errorPosition bsm_X8 bsc_X8 rfl (by exact dpX8_errorPosition) ⟨Nat.le_of_ble_eq_true rfl, Nat.le_of_ble_eq_true rfl⟩ ⟨rfl, rfl⟩ ⟨by show cells ≤ 601024; omega, by show slots ≤ 7293033; omega⟩ rfl (Nat.le_of_ble_eq_true rfl) dL_law_447 ?_
  refine v_aload_n C dL_law_450 rfl rfl ?_
  refine v_callVi (y := yX9_errorPosition) (As := []) (rest := [.int r.1]) C (cX9_errorPosition_ok hg) mlw_215 wyX9_errorPosition bsm_X9 bsc_X9 rfl (by exact dpX9_errorPosition) ⟨Nat.le_of_ble_eq_true rfl, Nat.le_of_ble_eq_true rfl⟩ ⟨rfl, rfl⟩ ⟨by show cells ≤ 601024; omega, by show slots ≤ 7293033; omega⟩ rfl (Nat.le_of_ble_eq_true rfl) dL_law_451 ?_
  refine v_icmp_eq (tgt := 3507) C dL_law_454 (by decide) (fun _ => ?_) (fun h => absurd he h)
  exact v_widen (by show cells ≤ cells + 9; omega) (by show slots ≤ slots + 54; omega) (kk q.2 lo od hI2)
/-- what the pure part owes for buffered -/
def sim_buffered (I : Nat → bsX → Prop) : Prop := ∀ (j : Nat) (X : bsX), j < 512 → I j X → ∃ (r q : Int32 × bsX), fX8_buffered  X = some r ∧ fX9_buffered  r.2 = some q ∧ r.1 = q.1 ∧ I (j + 1) q.2
set_option maxHeartbeats 4000000 in
set_option maxRecDepth 100000 in
theorem law_4 {p : Program} {l : Launch} {e : Env} {s : State} {m : MethodId} {below : List Frame} {meth : Method} {c : Code} {ρ : bsR} {cA : Nat → ClassId} {dC : Nat → ClassId} {dI : Nat → Nat → Nat} {b L : Nat} {xs : Nat → Int32} {I : Nat → bsX → Prop} (H : sim_buffered I) (LC : lawC p l s m meth c ρ cA dC dI b L xs) {j : Nat} (hj : 6 * j + 6 ≤ L) {cells slots : Nat} (hc1 : cells + 9 ≤ 601024) (hc2 : slots + 54 ≤ 7293033) {X : bsX} {lo : Int64} {od : UInt64} (hI : I j X) (kk : ∀ (X : bsX) (lo : Int64) (od : UInt64), I (j + 1) X → lawV p l e s m below meth c ρ cA dC dI b (cells + 9) (slots + 54) 3507 [(0, .ref b), (1, .ref (ρ 13 0 0)), (2, .ref (ρ 14 0 0)), (3, .ref (ρ 15 0 0)), (4, .ref (ρ 15 1 0)), (5, .int (nI (6 * j)))] [] X lo od) : lawV p l e s m below meth c ρ cA dC dI b cells slots 459 [(0, .ref b), (1, .ref (ρ 13 0 0)), (2, .ref (ρ 14 0 0)), (3, .ref (ρ 15 0 0)), (4, .ref (ρ 15 1 0)), (5, .int (nI (6 * j)))] [] X lo od := by
  have hL9 : L ≤ 3072 := LC.2.2.2.2.1
  obtain ⟨hC, hX, hbl, hbA, hL, hst, hfr⟩ := LC
  have C := hC lo od
  obtain ⟨r, q, hf, hg, he, hI2⟩ := H j X  (by omega) hI
  refine v_aload_n C dL_law_459 rfl rfl ?_
  refine v_callVi (y := yX8_buffered) (As := []) (rest := []) C (cX8_buffered_ok hf) mlw_216 wyX8_buffered bsm_X8 bsc_X8 rfl (by exact dpX8_buffered) ⟨Nat.le_of_ble_eq_true rfl, Nat.le_of_ble_eq_true rfl⟩ ⟨rfl, rfl⟩ ⟨by show cells ≤ 601024; omega, by show slots ≤ 7293033; omega⟩ rfl (Nat.le_of_ble_eq_true rfl) dL_law_460 ?_
  refine v_aload_n C dL_law_463 rfl rfl ?_
  refine v_callVi (y := yX9_buffered) (As := []) (rest := [.int r.1]) C (cX9_buffered_ok hg) mlw_219 wyX9_buffered bsm_X9 bsc_X9 rfl (by exact dpX9_buffered) ⟨Nat.le_of_ble_eq_true rfl, Nat.le_of_ble_eq_true rfl⟩ ⟨rfl, rfl⟩ ⟨by show cells ≤ 601024; omega, by show slots ≤ 7293033; omega⟩ rfl (Nat.le_of_ble_eq_true rfl) dL_law_464 ?_
  refine v_icmp_eq (tgt := 3507) C dL_law_467 (by decide) (fun _ => ?_) (fun h => absurd he h)
  exact v_widen (by show cells ≤ cells + 9; omega) (by show slots ≤ slots + 54; omega) (kk q.2 lo od hI2)
/-- what the pure part owes for count -/
def sim_count (I : Nat → bsX → Prop) : Prop := ∀ (j : Nat) (X : bsX) (a1 : Int32), j < 512 → I j X → ∃ (r : bsXr) (q : Int32 × bsX), fX8_count a1 X = some r ∧ (r.1 = 0 ∨ r.1 = 1 ∨ r.1 = 3) ∧ fX9_count a1 r.2.2 = some q ∧ q.2 14 0 0 0 = (if r.1 = 1 then (1 : Int32) else (if r.1 = 3 then (2 : Int32) else (0 : Int32))) ∧ (r.1 = 0 → r.2.1 = q.1) ∧ I (j + 1) q.2
set_option maxHeartbeats 4000000 in
set_option maxRecDepth 100000 in
theorem law_5 {p : Program} {l : Launch} {e : Env} {s : State} {m : MethodId} {below : List Frame} {meth : Method} {c : Code} {ρ : bsR} {cA : Nat → ClassId} {dC : Nat → ClassId} {dI : Nat → Nat → Nat} {b L : Nat} {xs : Nat → Int32} {I : Nat → bsX → Prop} (H : sim_count I) (LC : lawC p l s m meth c ρ cA dC dI b L xs) {j : Nat} (hj : 6 * j + 6 ≤ L) {cells slots : Nat} (hc1 : cells + 9 ≤ 601024) (hc2 : slots + 54 ≤ 7293033) {X : bsX} {lo : Int64} {od : UInt64} (hI : I j X) (kk : ∀ (X : bsX) (lo : Int64) (od : UInt64), I (j + 1) X → lawV p l e s m below meth c ρ cA dC dI b (cells + 9) (slots + 54) 3507 [(0, .ref b), (1, .ref (ρ 13 0 0)), (2, .ref (ρ 14 0 0)), (3, .ref (ρ 15 0 0)), (4, .ref (ρ 15 1 0)), (5, .int (nI (6 * j)))] [] X lo od) : lawV p l e s m below meth c ρ cA dC dI b cells slots 472 [(0, .ref b), (1, .ref (ρ 13 0 0)), (2, .ref (ρ 14 0 0)), (3, .ref (ρ 15 0 0)), (4, .ref (ρ 15 1 0)), (5, .int (nI (6 * j)))] [] X lo od := by
  have hL9 : L ≤ 3072 := LC.2.2.2.2.1
  obtain ⟨hC, hX, hbl, hbA, hL, hst, hfr⟩ := LC
  have C := hC lo od
  obtain ⟨r, q, hf, hr, hg, ht, he, hI2⟩ := H j X (xs (6 * j + 1)) (by omega) hI
  refine v_aload_n C dL_law_472 rfl rfl ?_
  refine v_aload_n C dL_law_473 rfl rfl ?_
  refine v_iload C dL_law_474 rfl ?_
  refine v_iconst (v := 1) C dL_law_476 (by decide) ?_
  refine v_iadd C dL_law_477 ?_
  refine v_sld (k := 1) C hX hbl (hbA lo od) rfl (by omega) (by omega) dL_law_478 ?_
  refine v_aload_n C dL_law_479 rfl rfl ?_
  refine v_wcallS (y := yL_count) (As := [.ref (ρ 13 0 0), .int (xs (6 * j + 1)), .ref (ρ 15 0 0)]) (rest := []) C (cL_count_ok hst hf hr) mlw_220 wwL_count (by exact dpL_count) ⟨Nat.le_of_ble_eq_true rfl, Nat.le_of_ble_eq_true rfl⟩ ⟨by show cells + 2 ≤ 601024; omega, by show slots + 12 ≤ 7293033; omega⟩ rfl (Nat.le_of_ble_eq_true rfl) dL_law_480 ?_
  have C := hC (if r.1 = 0 then r.2.1.toInt64 else lo) od
  generalize hlo : (if r.1 = 0 then r.2.1.toInt64 else lo) = lo9 at C ⊢
  dsimp only
  rw [← ht]
  refine v_istore (lv' := [(6, .int (q.2 14 0 0 0)), (0, .ref b), (1, .ref (ρ 13 0 0)), (2, .ref (ρ 14 0 0)), (3, .ref (ρ 15 0 0)), (4, .ref (ρ 15 1 0)), (5, .int (nI (6 * j)))]) C dL_law_483 (by decide) rfl ?_
  refine v_aload_n C dL_law_485 rfl rfl ?_
  refine v_aload_n C dL_law_486 rfl rfl ?_
  refine v_iload C dL_law_487 rfl ?_
  refine v_iconst (v := 1) C dL_law_489 (by decide) ?_
  refine v_iadd C dL_law_490 ?_
  refine v_sld (k := 1) C hX hbl (hbA lo9 od) rfl (by omega) (by omega) dL_law_491 ?_
  refine v_callVi (y := yX9_count) (As := [.int (xs (6 * j + 1))]) (rest := []) C (cX9_count_ok hg) mlw_222 wyX9_count bsm_X9 bsc_X9 rfl (by exact dpX9_count) ⟨Nat.le_of_ble_eq_true rfl, Nat.le_of_ble_eq_true rfl⟩ ⟨rfl, rfl⟩ ⟨by show cells + 2 ≤ 601024; omega, by show slots + 12 ≤ 7293033; omega⟩ rfl (Nat.le_of_ble_eq_true rfl) dL_law_492 ?_
  refine v_istore (lv' := [(7, .int q.1), (6, .int (q.2 14 0 0 0)), (0, .ref b), (1, .ref (ρ 13 0 0)), (2, .ref (ρ 14 0 0)), (3, .ref (ρ 15 0 0)), (4, .ref (ρ 15 1 0)), (5, .int (nI (6 * j)))]) C dL_law_495 (by decide) rfl ?_
  refine v_aload_n C dL_law_497 rfl rfl ?_
  refine v_callVi (y := yX9_thrown) (As := []) (rest := []) (z := (q.2 14 0 0 0, q.2)) C (cX9_thrown_ok rfl) mlw_205 wyX9_thrown bsm_X9 bsc_X9 rfl (by exact dpX9_thrown) ⟨Nat.le_of_ble_eq_true rfl, Nat.le_of_ble_eq_true rfl⟩ ⟨rfl, rfl⟩ ⟨by show cells + 2 ≤ 601024; omega, by show slots + 12 ≤ 7293033; omega⟩ rfl (Nat.le_of_ble_eq_true rfl) dL_law_498 ?_
  refine v_iload C dL_law_501 rfl ?_
  refine v_icmp_eq (tgt := 508) C dL_law_503 (by decide) (fun _ => ?_) (fun h => absurd rfl h)
  refine v_iload C dL_law_508 rfl ?_
  refine v_if_ne (tgt := 525) C dL_law_510 (by decide) (fun _ => ?_) (fun h0 => ?_)
  · refine v_goto (tgt := 3507) C dL_law_525 (by decide) ?_
    refine v_sub [2, 3, 4, 5, 6, 7] rfl ?_
    exact v_widen (by show cells + 2 ≤ cells + 9; omega) (by show slots + 12 ≤ slots + 54; omega) (kk q.2 lo9 od hI2)
  · have hr0 : r.1 = 0 := by
      rw [ht] at h0
      rcases hr with h1 | h1 | h1
      · exact h1
      · rw [h1] at h0; exact absurd h0 (by decide)
      · rw [h1] at h0; exact absurd h0 (by decide)
    have e0 := he hr0
    rw [if_pos hr0] at hlo
    refine v_aload_n C dL_law_513 rfl rfl ?_
    refine v_iconst (v := 0) C dL_law_514 (by decide) ?_
    refine v_lald C dL_law_515 ?_
    refine v_iload C dL_law_516 rfl ?_
    refine v_i2l C dL_law_518 ?_
    refine v_lcmp C dL_law_519 ?_
    rw [show bsLc lo9 q.1.toInt64 = 0 by rw [← hlo, e0]; exact bsLc_self _]
    refine v_if_eq (tgt := 525) C dL_law_520 (by decide) (fun _ => ?_) (fun h => absurd rfl h)
    refine v_goto (tgt := 3507) C dL_law_525 (by decide) ?_
    refine v_sub [2, 3, 4, 5, 6, 7] rfl ?_
    exact v_widen (by show cells + 2 ≤ cells + 9; omega) (by show slots + 12 ≤ slots + 54; omega) (kk q.2 lo9 od hI2)
/-- what the pure part owes for slot -/
def sim_slot (I : Nat → bsX → Prop) : Prop := ∀ (j : Nat) (X : bsX) (a1 a2 : Int32), j < 512 → I j X → ∃ (r : bsXr) (q : Int32 × bsX), fX8_slot a1 a2 X = some r ∧ (r.1 = 0 ∨ r.1 = 1 ∨ r.1 = 2 ∨ r.1 = 3) ∧ fX9_slot a1 a2 r.2.2 = some q ∧ q.2 14 0 0 0 = (if r.1 = 1 then (1 : Int32) else (if r.1 = 2 then (2 : Int32) else (if r.1 = 3 then (3 : Int32) else (0 : Int32)))) ∧ (r.1 = 0 → r.2.1 = q.1) ∧ I (j + 1) q.2
set_option maxHeartbeats 4000000 in
set_option maxRecDepth 100000 in
theorem law_6 {p : Program} {l : Launch} {e : Env} {s : State} {m : MethodId} {below : List Frame} {meth : Method} {c : Code} {ρ : bsR} {cA : Nat → ClassId} {dC : Nat → ClassId} {dI : Nat → Nat → Nat} {b L : Nat} {xs : Nat → Int32} {I : Nat → bsX → Prop} (H : sim_slot I) (LC : lawC p l s m meth c ρ cA dC dI b L xs) {j : Nat} (hj : 6 * j + 6 ≤ L) {cells slots : Nat} (hc1 : cells + 9 ≤ 601024) (hc2 : slots + 54 ≤ 7293033) {X : bsX} {lo : Int64} {od : UInt64} (hI : I j X) (kk : ∀ (X : bsX) (lo : Int64) (od : UInt64), I (j + 1) X → lawV p l e s m below meth c ρ cA dC dI b (cells + 9) (slots + 54) 3507 [(0, .ref b), (1, .ref (ρ 13 0 0)), (2, .ref (ρ 14 0 0)), (3, .ref (ρ 15 0 0)), (4, .ref (ρ 15 1 0)), (5, .int (nI (6 * j)))] [] X lo od) : lawV p l e s m below meth c ρ cA dC dI b cells slots 528 [(0, .ref b), (1, .ref (ρ 13 0 0)), (2, .ref (ρ 14 0 0)), (3, .ref (ρ 15 0 0)), (4, .ref (ρ 15 1 0)), (5, .int (nI (6 * j)))] [] X lo od := by
  have hL9 : L ≤ 3072 := LC.2.2.2.2.1
  obtain ⟨hC, hX, hbl, hbA, hL, hst, hfr⟩ := LC
  have C := hC lo od
  obtain ⟨r, q, hf, hr, hg, ht, he, hI2⟩ := H j X (xs (6 * j + 1)) (xs (6 * j + 2)) (by omega) hI
  refine v_aload_n C dL_law_528 rfl rfl ?_
  refine v_aload_n C dL_law_529 rfl rfl ?_
  refine v_iload C dL_law_530 rfl ?_
  refine v_iconst (v := 1) C dL_law_532 (by decide) ?_
  refine v_iadd C dL_law_533 ?_
  refine v_sld (k := 1) C hX hbl (hbA lo od) rfl (by omega) (by omega) dL_law_534 ?_
  refine v_aload_n C dL_law_535 rfl rfl ?_
  refine v_iload C dL_law_536 rfl ?_
  refine v_iconst (v := 2) C dL_law_538 (by decide) ?_
  refine v_iadd C dL_law_539 ?_
  refine v_sld (k := 2) C hX hbl (hbA lo od) rfl (by omega) (by omega) dL_law_540 ?_
  refine v_aload_n C dL_law_541 rfl rfl ?_
  refine v_wcallS (y := yL_slot) (As := [.ref (ρ 13 0 0), .int (xs (6 * j + 1)), .int (xs (6 * j + 2)), .ref (ρ 15 0 0)]) (rest := []) C (cL_slot_ok hst hf hr) mlw_223 wwL_slot (by exact dpL_slot) ⟨Nat.le_of_ble_eq_true rfl, Nat.le_of_ble_eq_true rfl⟩ ⟨by show cells + 3 ≤ 601024; omega, by show slots + 18 ≤ 7293033; omega⟩ rfl (Nat.le_of_ble_eq_true rfl) dL_law_542 ?_
  have C := hC (if r.1 = 0 then r.2.1.toInt64 else lo) od
  generalize hlo : (if r.1 = 0 then r.2.1.toInt64 else lo) = lo9 at C ⊢
  dsimp only
  rw [← ht]
  refine v_istore (lv' := [(6, .int (q.2 14 0 0 0)), (0, .ref b), (1, .ref (ρ 13 0 0)), (2, .ref (ρ 14 0 0)), (3, .ref (ρ 15 0 0)), (4, .ref (ρ 15 1 0)), (5, .int (nI (6 * j)))]) C dL_law_545 (by decide) rfl ?_
  refine v_aload_n C dL_law_547 rfl rfl ?_
  refine v_aload_n C dL_law_548 rfl rfl ?_
  refine v_iload C dL_law_549 rfl ?_
  refine v_iconst (v := 1) C dL_law_551 (by decide) ?_
  refine v_iadd C dL_law_552 ?_
  refine v_sld (k := 1) C hX hbl (hbA lo9 od) rfl (by omega) (by omega) dL_law_553 ?_
  refine v_aload_n C dL_law_554 rfl rfl ?_
  refine v_iload C dL_law_555 rfl ?_
  refine v_iconst (v := 2) C dL_law_557 (by decide) ?_
  refine v_iadd C dL_law_558 ?_
  refine v_sld (k := 2) C hX hbl (hbA lo9 od) rfl (by omega) (by omega) dL_law_559 ?_
  refine v_callVi (y := yX9_slot) (As := [.int (xs (6 * j + 1)), .int (xs (6 * j + 2))]) (rest := []) C (cX9_slot_ok hg) mlw_226 wyX9_slot bsm_X9 bsc_X9 rfl (by exact dpX9_slot) ⟨Nat.le_of_ble_eq_true rfl, Nat.le_of_ble_eq_true rfl⟩ ⟨rfl, rfl⟩ ⟨by show cells + 3 ≤ 601024; omega, by show slots + 18 ≤ 7293033; omega⟩ rfl (Nat.le_of_ble_eq_true rfl) dL_law_560 ?_
  refine v_istore (lv' := [(7, .int q.1), (6, .int (q.2 14 0 0 0)), (0, .ref b), (1, .ref (ρ 13 0 0)), (2, .ref (ρ 14 0 0)), (3, .ref (ρ 15 0 0)), (4, .ref (ρ 15 1 0)), (5, .int (nI (6 * j)))]) C dL_law_563 (by decide) rfl ?_
  refine v_aload_n C dL_law_565 rfl rfl ?_
  refine v_callVi (y := yX9_thrown) (As := []) (rest := []) (z := (q.2 14 0 0 0, q.2)) C (cX9_thrown_ok rfl) mlw_205 wyX9_thrown bsm_X9 bsc_X9 rfl (by exact dpX9_thrown) ⟨Nat.le_of_ble_eq_true rfl, Nat.le_of_ble_eq_true rfl⟩ ⟨rfl, rfl⟩ ⟨by show cells + 3 ≤ 601024; omega, by show slots + 18 ≤ 7293033; omega⟩ rfl (Nat.le_of_ble_eq_true rfl) dL_law_566 ?_
  refine v_iload C dL_law_569 rfl ?_
  refine v_icmp_eq (tgt := 576) C dL_law_571 (by decide) (fun _ => ?_) (fun h => absurd rfl h)
  refine v_iload C dL_law_576 rfl ?_
  refine v_if_ne (tgt := 593) C dL_law_578 (by decide) (fun _ => ?_) (fun h0 => ?_)
  · refine v_goto (tgt := 3507) C dL_law_593 (by decide) ?_
    refine v_sub [2, 3, 4, 5, 6, 7] rfl ?_
    exact v_widen (by show cells + 3 ≤ cells + 9; omega) (by show slots + 18 ≤ slots + 54; omega) (kk q.2 lo9 od hI2)
  · have hr0 : r.1 = 0 := by
      rw [ht] at h0
      rcases hr with h1 | h1 | h1 | h1
      · exact h1
      · rw [h1] at h0; exact absurd h0 (by decide)
      · rw [h1] at h0; exact absurd h0 (by decide)
      · rw [h1] at h0; exact absurd h0 (by decide)
    have e0 := he hr0
    rw [if_pos hr0] at hlo
    refine v_aload_n C dL_law_581 rfl rfl ?_
    refine v_iconst (v := 0) C dL_law_582 (by decide) ?_
    refine v_lald C dL_law_583 ?_
    refine v_iload C dL_law_584 rfl ?_
    refine v_i2l C dL_law_586 ?_
    refine v_lcmp C dL_law_587 ?_
    rw [show bsLc lo9 q.1.toInt64 = 0 by rw [← hlo, e0]; exact bsLc_self _]
    refine v_if_eq (tgt := 593) C dL_law_588 (by decide) (fun _ => ?_) (fun h => absurd rfl h)
    refine v_goto (tgt := 3507) C dL_law_593 (by decide) ?_
    refine v_sub [2, 3, 4, 5, 6, 7] rfl ?_
    exact v_widen (by show cells + 3 ≤ cells + 9; omega) (by show slots + 18 ≤ slots + 54; omega) (kk q.2 lo9 od hI2)
/-- what the pure part owes for image -/
def sim_image (I : Nat → bsX → Prop) : Prop := ∀ (j : Nat) (X : bsX) (a1 a2 : Int32), j < 512 → I j X → ∃ (r : bsXr) (q : Int32 × bsX), fX8_image a1 a2 X = some r ∧ (r.1 = 0 ∨ r.1 = 1 ∨ r.1 = 2 ∨ r.1 = 3) ∧ fX9_image a1 a2 r.2.2 = some q ∧ q.2 14 0 0 0 = (if r.1 = 1 then (1 : Int32) else (if r.1 = 2 then (2 : Int32) else (if r.1 = 3 then (3 : Int32) else (0 : Int32)))) ∧ (r.1 = 0 → r.2.1 = q.1) ∧ I (j + 1) q.2
set_option maxHeartbeats 4000000 in
set_option maxRecDepth 100000 in
theorem law_7 {p : Program} {l : Launch} {e : Env} {s : State} {m : MethodId} {below : List Frame} {meth : Method} {c : Code} {ρ : bsR} {cA : Nat → ClassId} {dC : Nat → ClassId} {dI : Nat → Nat → Nat} {b L : Nat} {xs : Nat → Int32} {I : Nat → bsX → Prop} (H : sim_image I) (LC : lawC p l s m meth c ρ cA dC dI b L xs) {j : Nat} (hj : 6 * j + 6 ≤ L) {cells slots : Nat} (hc1 : cells + 9 ≤ 601024) (hc2 : slots + 54 ≤ 7293033) {X : bsX} {lo : Int64} {od : UInt64} (hI : I j X) (kk : ∀ (X : bsX) (lo : Int64) (od : UInt64), I (j + 1) X → lawV p l e s m below meth c ρ cA dC dI b (cells + 9) (slots + 54) 3507 [(0, .ref b), (1, .ref (ρ 13 0 0)), (2, .ref (ρ 14 0 0)), (3, .ref (ρ 15 0 0)), (4, .ref (ρ 15 1 0)), (5, .int (nI (6 * j)))] [] X lo od) : lawV p l e s m below meth c ρ cA dC dI b cells slots 596 [(0, .ref b), (1, .ref (ρ 13 0 0)), (2, .ref (ρ 14 0 0)), (3, .ref (ρ 15 0 0)), (4, .ref (ρ 15 1 0)), (5, .int (nI (6 * j)))] [] X lo od := by
  have hL9 : L ≤ 3072 := LC.2.2.2.2.1
  obtain ⟨hC, hX, hbl, hbA, hL, hst, hfr⟩ := LC
  have C := hC lo od
  obtain ⟨r, q, hf, hr, hg, ht, he, hI2⟩ := H j X (xs (6 * j + 1)) (xs (6 * j + 2)) (by omega) hI
  refine v_aload_n C dL_law_596 rfl rfl ?_
  refine v_aload_n C dL_law_597 rfl rfl ?_
  refine v_iload C dL_law_598 rfl ?_
  refine v_iconst (v := 1) C dL_law_600 (by decide) ?_
  refine v_iadd C dL_law_601 ?_
  refine v_sld (k := 1) C hX hbl (hbA lo od) rfl (by omega) (by omega) dL_law_602 ?_
  refine v_aload_n C dL_law_603 rfl rfl ?_
  refine v_iload C dL_law_604 rfl ?_
  refine v_iconst (v := 2) C dL_law_606 (by decide) ?_
  refine v_iadd C dL_law_607 ?_
  refine v_sld (k := 2) C hX hbl (hbA lo od) rfl (by omega) (by omega) dL_law_608 ?_
  refine v_aload_n C dL_law_609 rfl rfl ?_
  refine v_wcallS (y := yL_image) (As := [.ref (ρ 13 0 0), .int (xs (6 * j + 1)), .int (xs (6 * j + 2)), .ref (ρ 15 0 0)]) (rest := []) C (cL_image_ok hst hf hr) mlw_227 wwL_image (by exact dpL_image) ⟨Nat.le_of_ble_eq_true rfl, Nat.le_of_ble_eq_true rfl⟩ ⟨by show cells + 3 ≤ 601024; omega, by show slots + 18 ≤ 7293033; omega⟩ rfl (Nat.le_of_ble_eq_true rfl) dL_law_610 ?_
  have C := hC (if r.1 = 0 then r.2.1.toInt64 else lo) od
  generalize hlo : (if r.1 = 0 then r.2.1.toInt64 else lo) = lo9 at C ⊢
  dsimp only
  rw [← ht]
  refine v_istore (lv' := [(6, .int (q.2 14 0 0 0)), (0, .ref b), (1, .ref (ρ 13 0 0)), (2, .ref (ρ 14 0 0)), (3, .ref (ρ 15 0 0)), (4, .ref (ρ 15 1 0)), (5, .int (nI (6 * j)))]) C dL_law_613 (by decide) rfl ?_
  refine v_aload_n C dL_law_615 rfl rfl ?_
  refine v_aload_n C dL_law_616 rfl rfl ?_
  refine v_iload C dL_law_617 rfl ?_
  refine v_iconst (v := 1) C dL_law_619 (by decide) ?_
  refine v_iadd C dL_law_620 ?_
  refine v_sld (k := 1) C hX hbl (hbA lo9 od) rfl (by omega) (by omega) dL_law_621 ?_
  refine v_aload_n C dL_law_622 rfl rfl ?_
  refine v_iload C dL_law_623 rfl ?_
  refine v_iconst (v := 2) C dL_law_625 (by decide) ?_
  refine v_iadd C dL_law_626 ?_
  refine v_sld (k := 2) C hX hbl (hbA lo9 od) rfl (by omega) (by omega) dL_law_627 ?_
  refine v_callVi (y := yX9_image) (As := [.int (xs (6 * j + 1)), .int (xs (6 * j + 2))]) (rest := []) C (cX9_image_ok hg) mlw_229 wyX9_image bsm_X9 bsc_X9 rfl (by exact dpX9_image) ⟨Nat.le_of_ble_eq_true rfl, Nat.le_of_ble_eq_true rfl⟩ ⟨rfl, rfl⟩ ⟨by show cells + 3 ≤ 601024; omega, by show slots + 18 ≤ 7293033; omega⟩ rfl (Nat.le_of_ble_eq_true rfl) dL_law_628 ?_
  refine v_istore (lv' := [(7, .int q.1), (6, .int (q.2 14 0 0 0)), (0, .ref b), (1, .ref (ρ 13 0 0)), (2, .ref (ρ 14 0 0)), (3, .ref (ρ 15 0 0)), (4, .ref (ρ 15 1 0)), (5, .int (nI (6 * j)))]) C dL_law_631 (by decide) rfl ?_
  refine v_aload_n C dL_law_633 rfl rfl ?_
  refine v_callVi (y := yX9_thrown) (As := []) (rest := []) (z := (q.2 14 0 0 0, q.2)) C (cX9_thrown_ok rfl) mlw_205 wyX9_thrown bsm_X9 bsc_X9 rfl (by exact dpX9_thrown) ⟨Nat.le_of_ble_eq_true rfl, Nat.le_of_ble_eq_true rfl⟩ ⟨rfl, rfl⟩ ⟨by show cells + 3 ≤ 601024; omega, by show slots + 18 ≤ 7293033; omega⟩ rfl (Nat.le_of_ble_eq_true rfl) dL_law_634 ?_
  refine v_iload C dL_law_637 rfl ?_
  refine v_icmp_eq (tgt := 644) C dL_law_639 (by decide) (fun _ => ?_) (fun h => absurd rfl h)
  refine v_iload C dL_law_644 rfl ?_
  refine v_if_ne (tgt := 661) C dL_law_646 (by decide) (fun _ => ?_) (fun h0 => ?_)
  · refine v_goto (tgt := 3507) C dL_law_661 (by decide) ?_
    refine v_sub [2, 3, 4, 5, 6, 7] rfl ?_
    exact v_widen (by show cells + 3 ≤ cells + 9; omega) (by show slots + 18 ≤ slots + 54; omega) (kk q.2 lo9 od hI2)
  · have hr0 : r.1 = 0 := by
      rw [ht] at h0
      rcases hr with h1 | h1 | h1 | h1
      · exact h1
      · rw [h1] at h0; exact absurd h0 (by decide)
      · rw [h1] at h0; exact absurd h0 (by decide)
      · rw [h1] at h0; exact absurd h0 (by decide)
    have e0 := he hr0
    rw [if_pos hr0] at hlo
    refine v_aload_n C dL_law_649 rfl rfl ?_
    refine v_iconst (v := 0) C dL_law_650 (by decide) ?_
    refine v_lald C dL_law_651 ?_
    refine v_iload C dL_law_652 rfl ?_
    refine v_i2l C dL_law_654 ?_
    refine v_lcmp C dL_law_655 ?_
    rw [show bsLc lo9 q.1.toInt64 = 0 by rw [← hlo, e0]; exact bsLc_self _]
    refine v_if_eq (tgt := 661) C dL_law_656 (by decide) (fun _ => ?_) (fun h => absurd rfl h)
    refine v_goto (tgt := 3507) C dL_law_661 (by decide) ?_
    refine v_sub [2, 3, 4, 5, 6, 7] rfl ?_
    exact v_widen (by show cells + 3 ≤ cells + 9; omega) (by show slots + 18 ≤ slots + 54; omega) (kk q.2 lo9 od hI2)
/-- what the pure part owes for install -/
def sim_install (I : Nat → bsX → Prop) : Prop := ∀ (j : Nat) (X : bsX) (a1 : Int32), j < 512 → I j X → ∃ (r : bsXr) (q : Int32 × bsX), fX8_install a1 X = some r ∧ (r.1 = 0 ∨ r.1 = 1 ∨ r.1 = 3) ∧ fX9_install a1 r.2.2 = some q ∧ q.2 14 0 0 0 = (if r.1 = 1 then (1 : Int32) else (if r.1 = 3 then (2 : Int32) else (0 : Int32))) ∧ (r.1 = 0 → r.2.1 = q.1) ∧ I (j + 1) q.2
set_option maxHeartbeats 4000000 in
set_option maxRecDepth 100000 in
theorem law_8 {p : Program} {l : Launch} {e : Env} {s : State} {m : MethodId} {below : List Frame} {meth : Method} {c : Code} {ρ : bsR} {cA : Nat → ClassId} {dC : Nat → ClassId} {dI : Nat → Nat → Nat} {b L : Nat} {xs : Nat → Int32} {I : Nat → bsX → Prop} (H : sim_install I) (LC : lawC p l s m meth c ρ cA dC dI b L xs) {j : Nat} (hj : 6 * j + 6 ≤ L) {cells slots : Nat} (hc1 : cells + 9 ≤ 601024) (hc2 : slots + 54 ≤ 7293033) {X : bsX} {lo : Int64} {od : UInt64} (hI : I j X) (kk : ∀ (X : bsX) (lo : Int64) (od : UInt64), I (j + 1) X → lawV p l e s m below meth c ρ cA dC dI b (cells + 9) (slots + 54) 3507 [(0, .ref b), (1, .ref (ρ 13 0 0)), (2, .ref (ρ 14 0 0)), (3, .ref (ρ 15 0 0)), (4, .ref (ρ 15 1 0)), (5, .int (nI (6 * j)))] [] X lo od) : lawV p l e s m below meth c ρ cA dC dI b cells slots 664 [(0, .ref b), (1, .ref (ρ 13 0 0)), (2, .ref (ρ 14 0 0)), (3, .ref (ρ 15 0 0)), (4, .ref (ρ 15 1 0)), (5, .int (nI (6 * j)))] [] X lo od := by
  have hL9 : L ≤ 3072 := LC.2.2.2.2.1
  obtain ⟨hC, hX, hbl, hbA, hL, hst, hfr⟩ := LC
  have C := hC lo od
  obtain ⟨r, q, hf, hr, hg, ht, he, hI2⟩ := H j X (xs (6 * j + 1)) (by omega) hI
  refine v_aload_n C dL_law_664 rfl rfl ?_
  refine v_aload_n C dL_law_665 rfl rfl ?_
  refine v_iload C dL_law_666 rfl ?_
  refine v_iconst (v := 1) C dL_law_668 (by decide) ?_
  refine v_iadd C dL_law_669 ?_
  refine v_sld (k := 1) C hX hbl (hbA lo od) rfl (by omega) (by omega) dL_law_670 ?_
  refine v_aload_n C dL_law_671 rfl rfl ?_
  refine v_wcallS (y := yL_install) (As := [.ref (ρ 13 0 0), .int (xs (6 * j + 1)), .ref (ρ 15 0 0)]) (rest := []) C (cL_install_ok hst hf hr) mlw_230 wwL_install (by exact dpL_install) ⟨Nat.le_of_ble_eq_true rfl, Nat.le_of_ble_eq_true rfl⟩ ⟨by show cells + 2 ≤ 601024; omega, by show slots + 12 ≤ 7293033; omega⟩ rfl (Nat.le_of_ble_eq_true rfl) dL_law_672 ?_
  have C := hC (if r.1 = 0 then r.2.1.toInt64 else lo) od
  generalize hlo : (if r.1 = 0 then r.2.1.toInt64 else lo) = lo9 at C ⊢
  dsimp only
  rw [← ht]
  refine v_istore (lv' := [(6, .int (q.2 14 0 0 0)), (0, .ref b), (1, .ref (ρ 13 0 0)), (2, .ref (ρ 14 0 0)), (3, .ref (ρ 15 0 0)), (4, .ref (ρ 15 1 0)), (5, .int (nI (6 * j)))]) C dL_law_675 (by decide) rfl ?_
  refine v_aload_n C dL_law_677 rfl rfl ?_
  refine v_aload_n C dL_law_678 rfl rfl ?_
  refine v_iload C dL_law_679 rfl ?_
  refine v_iconst (v := 1) C dL_law_681 (by decide) ?_
  refine v_iadd C dL_law_682 ?_
  refine v_sld (k := 1) C hX hbl (hbA lo9 od) rfl (by omega) (by omega) dL_law_683 ?_
  refine v_callVi (y := yX9_install) (As := [.int (xs (6 * j + 1))]) (rest := []) C (cX9_install_ok hg) mlw_232 wyX9_install bsm_X9 bsc_X9 rfl (by exact dpX9_install) ⟨Nat.le_of_ble_eq_true rfl, Nat.le_of_ble_eq_true rfl⟩ ⟨rfl, rfl⟩ ⟨by show cells + 2 ≤ 601024; omega, by show slots + 12 ≤ 7293033; omega⟩ rfl (Nat.le_of_ble_eq_true rfl) dL_law_684 ?_
  refine v_istore (lv' := [(7, .int q.1), (6, .int (q.2 14 0 0 0)), (0, .ref b), (1, .ref (ρ 13 0 0)), (2, .ref (ρ 14 0 0)), (3, .ref (ρ 15 0 0)), (4, .ref (ρ 15 1 0)), (5, .int (nI (6 * j)))]) C dL_law_687 (by decide) rfl ?_
  refine v_aload_n C dL_law_689 rfl rfl ?_
  refine v_callVi (y := yX9_thrown) (As := []) (rest := []) (z := (q.2 14 0 0 0, q.2)) C (cX9_thrown_ok rfl) mlw_205 wyX9_thrown bsm_X9 bsc_X9 rfl (by exact dpX9_thrown) ⟨Nat.le_of_ble_eq_true rfl, Nat.le_of_ble_eq_true rfl⟩ ⟨rfl, rfl⟩ ⟨by show cells + 2 ≤ 601024; omega, by show slots + 12 ≤ 7293033; omega⟩ rfl (Nat.le_of_ble_eq_true rfl) dL_law_690 ?_
  refine v_iload C dL_law_693 rfl ?_
  refine v_icmp_eq (tgt := 700) C dL_law_695 (by decide) (fun _ => ?_) (fun h => absurd rfl h)
  refine v_iload C dL_law_700 rfl ?_
  refine v_if_ne (tgt := 717) C dL_law_702 (by decide) (fun _ => ?_) (fun h0 => ?_)
  · refine v_goto (tgt := 3507) C dL_law_717 (by decide) ?_
    refine v_sub [2, 3, 4, 5, 6, 7] rfl ?_
    exact v_widen (by show cells + 2 ≤ cells + 9; omega) (by show slots + 12 ≤ slots + 54; omega) (kk q.2 lo9 od hI2)
  · have hr0 : r.1 = 0 := by
      rw [ht] at h0
      rcases hr with h1 | h1 | h1
      · exact h1
      · rw [h1] at h0; exact absurd h0 (by decide)
      · rw [h1] at h0; exact absurd h0 (by decide)
    have e0 := he hr0
    rw [if_pos hr0] at hlo
    refine v_aload_n C dL_law_705 rfl rfl ?_
    refine v_iconst (v := 0) C dL_law_706 (by decide) ?_
    refine v_lald C dL_law_707 ?_
    refine v_iload C dL_law_708 rfl ?_
    refine v_i2l C dL_law_710 ?_
    refine v_lcmp C dL_law_711 ?_
    rw [show bsLc lo9 q.1.toInt64 = 0 by rw [← hlo, e0]; exact bsLc_self _]
    refine v_if_eq (tgt := 717) C dL_law_712 (by decide) (fun _ => ?_) (fun h => absurd rfl h)
    refine v_goto (tgt := 3507) C dL_law_717 (by decide) ?_
    refine v_sub [2, 3, 4, 5, 6, 7] rfl ?_
    exact v_widen (by show cells + 2 ≤ cells + 9; omega) (by show slots + 12 ≤ slots + 54; omega) (kk q.2 lo9 od hI2)
/-- what the pure part owes for boot -/
def sim_boot (I : Nat → bsX → Prop) : Prop := ∀ (j : Nat) (X : bsX) (a1 a2 : Int32), j < 512 → I j X → ∃ (r : bsXr) (q : Int32 × bsX), fX8_boot a1 a2 X = some r ∧ (r.1 = 0 ∨ r.1 = 1 ∨ r.1 = 3) ∧ fX9_boot a1 a2 r.2.2 = some q ∧ q.2 14 0 0 0 = (if r.1 = 1 then (1 : Int32) else (if r.1 = 3 then (2 : Int32) else (0 : Int32))) ∧ (r.1 = 0 → r.2.1 = q.1) ∧ I (j + 1) q.2
set_option maxHeartbeats 4000000 in
set_option maxRecDepth 100000 in
theorem law_9 {p : Program} {l : Launch} {e : Env} {s : State} {m : MethodId} {below : List Frame} {meth : Method} {c : Code} {ρ : bsR} {cA : Nat → ClassId} {dC : Nat → ClassId} {dI : Nat → Nat → Nat} {b L : Nat} {xs : Nat → Int32} {I : Nat → bsX → Prop} (H : sim_boot I) (LC : lawC p l s m meth c ρ cA dC dI b L xs) {j : Nat} (hj : 6 * j + 6 ≤ L) {cells slots : Nat} (hc1 : cells + 9 ≤ 601024) (hc2 : slots + 54 ≤ 7293033) {X : bsX} {lo : Int64} {od : UInt64} (hI : I j X) (kk : ∀ (X : bsX) (lo : Int64) (od : UInt64), I (j + 1) X → lawV p l e s m below meth c ρ cA dC dI b (cells + 9) (slots + 54) 3507 [(0, .ref b), (1, .ref (ρ 13 0 0)), (2, .ref (ρ 14 0 0)), (3, .ref (ρ 15 0 0)), (4, .ref (ρ 15 1 0)), (5, .int (nI (6 * j)))] [] X lo od) : lawV p l e s m below meth c ρ cA dC dI b cells slots 720 [(0, .ref b), (1, .ref (ρ 13 0 0)), (2, .ref (ρ 14 0 0)), (3, .ref (ρ 15 0 0)), (4, .ref (ρ 15 1 0)), (5, .int (nI (6 * j)))] [] X lo od := by
  have hL9 : L ≤ 3072 := LC.2.2.2.2.1
  obtain ⟨hC, hX, hbl, hbA, hL, hst, hfr⟩ := LC
  have C := hC lo od
  obtain ⟨r, q, hf, hr, hg, ht, he, hI2⟩ := H j X (xs (6 * j + 1)) (xs (6 * j + 2)) (by omega) hI
  refine v_aload_n C dL_law_720 rfl rfl ?_
  refine v_aload_n C dL_law_721 rfl rfl ?_
  refine v_iload C dL_law_722 rfl ?_
  refine v_iconst (v := 1) C dL_law_724 (by decide) ?_
  refine v_iadd C dL_law_725 ?_
  refine v_sld (k := 1) C hX hbl (hbA lo od) rfl (by omega) (by omega) dL_law_726 ?_
  refine v_aload_n C dL_law_727 rfl rfl ?_
  refine v_iload C dL_law_728 rfl ?_
  refine v_iconst (v := 2) C dL_law_730 (by decide) ?_
  refine v_iadd C dL_law_731 ?_
  refine v_sld (k := 2) C hX hbl (hbA lo od) rfl (by omega) (by omega) dL_law_732 ?_
  refine v_aload_n C dL_law_733 rfl rfl ?_
  refine v_wcallS (y := yL_boot) (As := [.ref (ρ 13 0 0), .int (xs (6 * j + 1)), .int (xs (6 * j + 2)), .ref (ρ 15 0 0)]) (rest := []) C (cL_boot_ok hst hf hr) mlw_233 wwL_boot (by exact dpL_boot) ⟨Nat.le_of_ble_eq_true rfl, Nat.le_of_ble_eq_true rfl⟩ ⟨by show cells + 2 ≤ 601024; omega, by show slots + 12 ≤ 7293033; omega⟩ rfl (Nat.le_of_ble_eq_true rfl) dL_law_734 ?_
  have C := hC (if r.1 = 0 then r.2.1.toInt64 else lo) od
  generalize hlo : (if r.1 = 0 then r.2.1.toInt64 else lo) = lo9 at C ⊢
  dsimp only
  rw [← ht]
  refine v_istore (lv' := [(6, .int (q.2 14 0 0 0)), (0, .ref b), (1, .ref (ρ 13 0 0)), (2, .ref (ρ 14 0 0)), (3, .ref (ρ 15 0 0)), (4, .ref (ρ 15 1 0)), (5, .int (nI (6 * j)))]) C dL_law_737 (by decide) rfl ?_
  refine v_aload_n C dL_law_739 rfl rfl ?_
  refine v_aload_n C dL_law_740 rfl rfl ?_
  refine v_iload C dL_law_741 rfl ?_
  refine v_iconst (v := 1) C dL_law_743 (by decide) ?_
  refine v_iadd C dL_law_744 ?_
  refine v_sld (k := 1) C hX hbl (hbA lo9 od) rfl (by omega) (by omega) dL_law_745 ?_
  refine v_aload_n C dL_law_746 rfl rfl ?_
  refine v_iload C dL_law_747 rfl ?_
  refine v_iconst (v := 2) C dL_law_749 (by decide) ?_
  refine v_iadd C dL_law_750 ?_
  refine v_sld (k := 2) C hX hbl (hbA lo9 od) rfl (by omega) (by omega) dL_law_751 ?_
  refine v_callVi (y := yX9_boot) (As := [.int (xs (6 * j + 1)), .int (xs (6 * j + 2))]) (rest := []) C (cX9_boot_ok hg) mlw_235 wyX9_boot bsm_X9 bsc_X9 rfl (by exact dpX9_boot) ⟨Nat.le_of_ble_eq_true rfl, Nat.le_of_ble_eq_true rfl⟩ ⟨rfl, rfl⟩ ⟨by show cells + 2 ≤ 601024; omega, by show slots + 12 ≤ 7293033; omega⟩ rfl (Nat.le_of_ble_eq_true rfl) dL_law_752 ?_
  refine v_istore (lv' := [(7, .int q.1), (6, .int (q.2 14 0 0 0)), (0, .ref b), (1, .ref (ρ 13 0 0)), (2, .ref (ρ 14 0 0)), (3, .ref (ρ 15 0 0)), (4, .ref (ρ 15 1 0)), (5, .int (nI (6 * j)))]) C dL_law_755 (by decide) rfl ?_
  refine v_aload_n C dL_law_757 rfl rfl ?_
  refine v_callVi (y := yX9_thrown) (As := []) (rest := []) (z := (q.2 14 0 0 0, q.2)) C (cX9_thrown_ok rfl) mlw_205 wyX9_thrown bsm_X9 bsc_X9 rfl (by exact dpX9_thrown) ⟨Nat.le_of_ble_eq_true rfl, Nat.le_of_ble_eq_true rfl⟩ ⟨rfl, rfl⟩ ⟨by show cells + 2 ≤ 601024; omega, by show slots + 12 ≤ 7293033; omega⟩ rfl (Nat.le_of_ble_eq_true rfl) dL_law_758 ?_
  refine v_iload C dL_law_761 rfl ?_
  refine v_icmp_eq (tgt := 768) C dL_law_763 (by decide) (fun _ => ?_) (fun h => absurd rfl h)
  refine v_iload C dL_law_768 rfl ?_
  refine v_if_ne (tgt := 785) C dL_law_770 (by decide) (fun _ => ?_) (fun h0 => ?_)
  · refine v_goto (tgt := 3507) C dL_law_785 (by decide) ?_
    refine v_sub [2, 3, 4, 5, 6, 7] rfl ?_
    exact v_widen (by show cells + 2 ≤ cells + 9; omega) (by show slots + 12 ≤ slots + 54; omega) (kk q.2 lo9 od hI2)
  · have hr0 : r.1 = 0 := by
      rw [ht] at h0
      rcases hr with h1 | h1 | h1
      · exact h1
      · rw [h1] at h0; exact absurd h0 (by decide)
      · rw [h1] at h0; exact absurd h0 (by decide)
    have e0 := he hr0
    rw [if_pos hr0] at hlo
    refine v_aload_n C dL_law_773 rfl rfl ?_
    refine v_iconst (v := 0) C dL_law_774 (by decide) ?_
    refine v_lald C dL_law_775 ?_
    refine v_iload C dL_law_776 rfl ?_
    refine v_i2l C dL_law_778 ?_
    refine v_lcmp C dL_law_779 ?_
    rw [show bsLc lo9 q.1.toInt64 = 0 by rw [← hlo, e0]; exact bsLc_self _]
    refine v_if_eq (tgt := 785) C dL_law_780 (by decide) (fun _ => ?_) (fun h => absurd rfl h)
    refine v_goto (tgt := 3507) C dL_law_785 (by decide) ?_
    refine v_sub [2, 3, 4, 5, 6, 7] rfl ?_
    exact v_widen (by show cells + 2 ≤ cells + 9; omega) (by show slots + 12 ≤ slots + 54; omega) (kk q.2 lo9 od hI2)
/-- what the pure part owes for whyNot -/
def sim_whyNot (I : Nat → bsX → Prop) : Prop := ∀ (j : Nat) (X : bsX) (a1 : Int32), j < 512 → I j X → ∃ (r : bsXr) (q : Int32 × bsX), fX8_whyNot a1 X = some r ∧ (r.1 = 0 ∨ r.1 = 1 ∨ r.1 = 2) ∧ fX9_whyNot a1 r.2.2 = some q ∧ q.2 14 0 0 0 = (if r.1 = 1 then (1 : Int32) else (if r.1 = 2 then (2 : Int32) else (0 : Int32))) ∧ (r.1 = 0 → r.2.1 = q.1) ∧ I (j + 1) q.2
set_option maxHeartbeats 4000000 in
set_option maxRecDepth 100000 in
theorem law_10 {p : Program} {l : Launch} {e : Env} {s : State} {m : MethodId} {below : List Frame} {meth : Method} {c : Code} {ρ : bsR} {cA : Nat → ClassId} {dC : Nat → ClassId} {dI : Nat → Nat → Nat} {b L : Nat} {xs : Nat → Int32} {I : Nat → bsX → Prop} (H : sim_whyNot I) (LC : lawC p l s m meth c ρ cA dC dI b L xs) {j : Nat} (hj : 6 * j + 6 ≤ L) {cells slots : Nat} (hc1 : cells + 9 ≤ 601024) (hc2 : slots + 54 ≤ 7293033) {X : bsX} {lo : Int64} {od : UInt64} (hI : I j X) (kk : ∀ (X : bsX) (lo : Int64) (od : UInt64), I (j + 1) X → lawV p l e s m below meth c ρ cA dC dI b (cells + 9) (slots + 54) 3507 [(0, .ref b), (1, .ref (ρ 13 0 0)), (2, .ref (ρ 14 0 0)), (3, .ref (ρ 15 0 0)), (4, .ref (ρ 15 1 0)), (5, .int (nI (6 * j)))] [] X lo od) : lawV p l e s m below meth c ρ cA dC dI b cells slots 788 [(0, .ref b), (1, .ref (ρ 13 0 0)), (2, .ref (ρ 14 0 0)), (3, .ref (ρ 15 0 0)), (4, .ref (ρ 15 1 0)), (5, .int (nI (6 * j)))] [] X lo od := by
  have hL9 : L ≤ 3072 := LC.2.2.2.2.1
  obtain ⟨hC, hX, hbl, hbA, hL, hst, hfr⟩ := LC
  have C := hC lo od
  obtain ⟨r, q, hf, hr, hg, ht, he, hI2⟩ := H j X (xs (6 * j + 1)) (by omega) hI
  refine v_aload_n C dL_law_788 rfl rfl ?_
  refine v_aload_n C dL_law_789 rfl rfl ?_
  refine v_iload C dL_law_790 rfl ?_
  refine v_iconst (v := 1) C dL_law_792 (by decide) ?_
  refine v_iadd C dL_law_793 ?_
  refine v_sld (k := 1) C hX hbl (hbA lo od) rfl (by omega) (by omega) dL_law_794 ?_
  refine v_aload_n C dL_law_795 rfl rfl ?_
  refine v_wcallS (y := yL_whyNot) (As := [.ref (ρ 13 0 0), .int (xs (6 * j + 1)), .ref (ρ 15 0 0)]) (rest := []) C (cL_whyNot_ok hst hf hr) mlw_236 wwL_whyNot (by exact dpL_whyNot) ⟨Nat.le_of_ble_eq_true rfl, Nat.le_of_ble_eq_true rfl⟩ ⟨by show cells + 2 ≤ 601024; omega, by show slots + 12 ≤ 7293033; omega⟩ rfl (Nat.le_of_ble_eq_true rfl) dL_law_796 ?_
  have C := hC (if r.1 = 0 then r.2.1.toInt64 else lo) od
  generalize hlo : (if r.1 = 0 then r.2.1.toInt64 else lo) = lo9 at C ⊢
  dsimp only
  rw [← ht]
  refine v_istore (lv' := [(6, .int (q.2 14 0 0 0)), (0, .ref b), (1, .ref (ρ 13 0 0)), (2, .ref (ρ 14 0 0)), (3, .ref (ρ 15 0 0)), (4, .ref (ρ 15 1 0)), (5, .int (nI (6 * j)))]) C dL_law_799 (by decide) rfl ?_
  refine v_aload_n C dL_law_801 rfl rfl ?_
  refine v_aload_n C dL_law_802 rfl rfl ?_
  refine v_iload C dL_law_803 rfl ?_
  refine v_iconst (v := 1) C dL_law_805 (by decide) ?_
  refine v_iadd C dL_law_806 ?_
  refine v_sld (k := 1) C hX hbl (hbA lo9 od) rfl (by omega) (by omega) dL_law_807 ?_
  refine v_callVi (y := yX9_whyNot) (As := [.int (xs (6 * j + 1))]) (rest := []) C (cX9_whyNot_ok hg) mlw_238 wyX9_whyNot bsm_X9 bsc_X9 rfl (by exact dpX9_whyNot) ⟨Nat.le_of_ble_eq_true rfl, Nat.le_of_ble_eq_true rfl⟩ ⟨rfl, rfl⟩ ⟨by show cells + 2 ≤ 601024; omega, by show slots + 12 ≤ 7293033; omega⟩ rfl (Nat.le_of_ble_eq_true rfl) dL_law_808 ?_
  refine v_istore (lv' := [(7, .int q.1), (6, .int (q.2 14 0 0 0)), (0, .ref b), (1, .ref (ρ 13 0 0)), (2, .ref (ρ 14 0 0)), (3, .ref (ρ 15 0 0)), (4, .ref (ρ 15 1 0)), (5, .int (nI (6 * j)))]) C dL_law_811 (by decide) rfl ?_
  refine v_aload_n C dL_law_813 rfl rfl ?_
  refine v_callVi (y := yX9_thrown) (As := []) (rest := []) (z := (q.2 14 0 0 0, q.2)) C (cX9_thrown_ok rfl) mlw_205 wyX9_thrown bsm_X9 bsc_X9 rfl (by exact dpX9_thrown) ⟨Nat.le_of_ble_eq_true rfl, Nat.le_of_ble_eq_true rfl⟩ ⟨rfl, rfl⟩ ⟨by show cells + 2 ≤ 601024; omega, by show slots + 12 ≤ 7293033; omega⟩ rfl (Nat.le_of_ble_eq_true rfl) dL_law_814 ?_
  refine v_iload C dL_law_817 rfl ?_
  refine v_icmp_eq (tgt := 824) C dL_law_819 (by decide) (fun _ => ?_) (fun h => absurd rfl h)
  refine v_iload C dL_law_824 rfl ?_
  refine v_if_ne (tgt := 841) C dL_law_826 (by decide) (fun _ => ?_) (fun h0 => ?_)
  · refine v_goto (tgt := 3507) C dL_law_841 (by decide) ?_
    refine v_sub [2, 3, 4, 5, 6, 7] rfl ?_
    exact v_widen (by show cells + 2 ≤ cells + 9; omega) (by show slots + 12 ≤ slots + 54; omega) (kk q.2 lo9 od hI2)
  · have hr0 : r.1 = 0 := by
      rw [ht] at h0
      rcases hr with h1 | h1 | h1
      · exact h1
      · rw [h1] at h0; exact absurd h0 (by decide)
      · rw [h1] at h0; exact absurd h0 (by decide)
    have e0 := he hr0
    rw [if_pos hr0] at hlo
    refine v_aload_n C dL_law_829 rfl rfl ?_
    refine v_iconst (v := 0) C dL_law_830 (by decide) ?_
    refine v_lald C dL_law_831 ?_
    refine v_iload C dL_law_832 rfl ?_
    refine v_i2l C dL_law_834 ?_
    refine v_lcmp C dL_law_835 ?_
    rw [show bsLc lo9 q.1.toInt64 = 0 by rw [← hlo, e0]; exact bsLc_self _]
    refine v_if_eq (tgt := 841) C dL_law_836 (by decide) (fun _ => ?_) (fun h => absurd rfl h)
    refine v_goto (tgt := 3507) C dL_law_841 (by decide) ?_
    refine v_sub [2, 3, 4, 5, 6, 7] rfl ?_
    exact v_widen (by show cells + 2 ≤ cells + 9; omega) (by show slots + 12 ≤ slots + 54; omega) (kk q.2 lo9 od hI2)
/-- what the pure part owes for choice -/
def sim_choice (I : Nat → bsX → Prop) : Prop := ∀ (j : Nat) (X : bsX), j < 512 → I j X → ∃ (r : bsXr) (q : Int32 × bsX), fX8_choice  X = some r ∧ (r.1 = 0 ∨ r.1 = 1) ∧ fX9_choice  r.2.2 = some q ∧ q.2 14 0 0 0 = (if r.1 = 1 then (1 : Int32) else (0 : Int32)) ∧ (r.1 = 0 → r.2.1 = q.1) ∧ I (j + 1) q.2
set_option maxHeartbeats 4000000 in
set_option maxRecDepth 100000 in
theorem law_11 {p : Program} {l : Launch} {e : Env} {s : State} {m : MethodId} {below : List Frame} {meth : Method} {c : Code} {ρ : bsR} {cA : Nat → ClassId} {dC : Nat → ClassId} {dI : Nat → Nat → Nat} {b L : Nat} {xs : Nat → Int32} {I : Nat → bsX → Prop} (H : sim_choice I) (LC : lawC p l s m meth c ρ cA dC dI b L xs) {j : Nat} (hj : 6 * j + 6 ≤ L) {cells slots : Nat} (hc1 : cells + 9 ≤ 601024) (hc2 : slots + 54 ≤ 7293033) {X : bsX} {lo : Int64} {od : UInt64} (hI : I j X) (kk : ∀ (X : bsX) (lo : Int64) (od : UInt64), I (j + 1) X → lawV p l e s m below meth c ρ cA dC dI b (cells + 9) (slots + 54) 3507 [(0, .ref b), (1, .ref (ρ 13 0 0)), (2, .ref (ρ 14 0 0)), (3, .ref (ρ 15 0 0)), (4, .ref (ρ 15 1 0)), (5, .int (nI (6 * j)))] [] X lo od) : lawV p l e s m below meth c ρ cA dC dI b cells slots 844 [(0, .ref b), (1, .ref (ρ 13 0 0)), (2, .ref (ρ 14 0 0)), (3, .ref (ρ 15 0 0)), (4, .ref (ρ 15 1 0)), (5, .int (nI (6 * j)))] [] X lo od := by
  have hL9 : L ≤ 3072 := LC.2.2.2.2.1
  obtain ⟨hC, hX, hbl, hbA, hL, hst, hfr⟩ := LC
  have C := hC lo od
  obtain ⟨r, q, hf, hr, hg, ht, he, hI2⟩ := H j X  (by omega) hI
  refine v_aload_n C dL_law_844 rfl rfl ?_
  refine v_aload_n C dL_law_845 rfl rfl ?_
  refine v_wcallS (y := yL_choice) (As := [.ref (ρ 13 0 0), .ref (ρ 15 0 0)]) (rest := []) C (cL_choice_ok hst hf hr) mlw_239 wwL_choice (by exact dpL_choice) ⟨Nat.le_of_ble_eq_true rfl, Nat.le_of_ble_eq_true rfl⟩ ⟨by show cells + 1 ≤ 601024; omega, by show slots + 6 ≤ 7293033; omega⟩ rfl (Nat.le_of_ble_eq_true rfl) dL_law_846 ?_
  have C := hC (if r.1 = 0 then r.2.1.toInt64 else lo) od
  generalize hlo : (if r.1 = 0 then r.2.1.toInt64 else lo) = lo9 at C ⊢
  dsimp only
  rw [← ht]
  refine v_istore (lv' := [(6, .int (q.2 14 0 0 0)), (0, .ref b), (1, .ref (ρ 13 0 0)), (2, .ref (ρ 14 0 0)), (3, .ref (ρ 15 0 0)), (4, .ref (ρ 15 1 0)), (5, .int (nI (6 * j)))]) C dL_law_849 (by decide) rfl ?_
  refine v_aload_n C dL_law_851 rfl rfl ?_
  refine v_callVi (y := yX9_choice) (As := []) (rest := []) C (cX9_choice_ok hg) mlw_242 wyX9_choice bsm_X9 bsc_X9 rfl (by exact dpX9_choice) ⟨Nat.le_of_ble_eq_true rfl, Nat.le_of_ble_eq_true rfl⟩ ⟨rfl, rfl⟩ ⟨by show cells + 1 ≤ 601024; omega, by show slots + 6 ≤ 7293033; omega⟩ rfl (Nat.le_of_ble_eq_true rfl) dL_law_852 ?_
  refine v_istore (lv' := [(7, .int q.1), (6, .int (q.2 14 0 0 0)), (0, .ref b), (1, .ref (ρ 13 0 0)), (2, .ref (ρ 14 0 0)), (3, .ref (ρ 15 0 0)), (4, .ref (ρ 15 1 0)), (5, .int (nI (6 * j)))]) C dL_law_855 (by decide) rfl ?_
  refine v_aload_n C dL_law_857 rfl rfl ?_
  refine v_callVi (y := yX9_thrown) (As := []) (rest := []) (z := (q.2 14 0 0 0, q.2)) C (cX9_thrown_ok rfl) mlw_205 wyX9_thrown bsm_X9 bsc_X9 rfl (by exact dpX9_thrown) ⟨Nat.le_of_ble_eq_true rfl, Nat.le_of_ble_eq_true rfl⟩ ⟨rfl, rfl⟩ ⟨by show cells + 1 ≤ 601024; omega, by show slots + 6 ≤ 7293033; omega⟩ rfl (Nat.le_of_ble_eq_true rfl) dL_law_858 ?_
  refine v_iload C dL_law_861 rfl ?_
  refine v_icmp_eq (tgt := 868) C dL_law_863 (by decide) (fun _ => ?_) (fun h => absurd rfl h)
  refine v_iload C dL_law_868 rfl ?_
  refine v_if_ne (tgt := 885) C dL_law_870 (by decide) (fun _ => ?_) (fun h0 => ?_)
  · refine v_goto (tgt := 3507) C dL_law_885 (by decide) ?_
    refine v_sub [2, 3, 4, 5, 6, 7] rfl ?_
    exact v_widen (by show cells + 1 ≤ cells + 9; omega) (by show slots + 6 ≤ slots + 54; omega) (kk q.2 lo9 od hI2)
  · have hr0 : r.1 = 0 := by
      rw [ht] at h0
      rcases hr with h1 | h1
      · exact h1
      · rw [h1] at h0; exact absurd h0 (by decide)
    have e0 := he hr0
    rw [if_pos hr0] at hlo
    refine v_aload_n C dL_law_873 rfl rfl ?_
    refine v_iconst (v := 0) C dL_law_874 (by decide) ?_
    refine v_lald C dL_law_875 ?_
    refine v_iload C dL_law_876 rfl ?_
    refine v_i2l C dL_law_878 ?_
    refine v_lcmp C dL_law_879 ?_
    rw [show bsLc lo9 q.1.toInt64 = 0 by rw [← hlo, e0]; exact bsLc_self _]
    refine v_if_eq (tgt := 885) C dL_law_880 (by decide) (fun _ => ?_) (fun h => absurd rfl h)
    refine v_goto (tgt := 3507) C dL_law_885 (by decide) ?_
    refine v_sub [2, 3, 4, 5, 6, 7] rfl ?_
    exact v_widen (by show cells + 1 ≤ cells + 9; omega) (by show slots + 6 ≤ slots + 54; omega) (kk q.2 lo9 od hI2)
/-- what the pure part owes for place -/
def sim_place (I : Nat → bsX → Prop) : Prop := ∀ (j : Nat) (X : bsX) (a1 : Int32), j < 512 → I j X → ∃ (r : bsXr) (q : Int32 × bsX), fX8_place a1 X = some r ∧ (r.1 = 0 ∨ r.1 = 1 ∨ r.1 = 2) ∧ fX9_place a1 r.2.2 = some q ∧ q.2 14 0 0 0 = (if r.1 = 1 then (1 : Int32) else (if r.1 = 2 then (2 : Int32) else (0 : Int32))) ∧ (r.1 = 0 → r.2.1 = q.1) ∧ I (j + 1) q.2
set_option maxHeartbeats 4000000 in
set_option maxRecDepth 100000 in
theorem law_12 {p : Program} {l : Launch} {e : Env} {s : State} {m : MethodId} {below : List Frame} {meth : Method} {c : Code} {ρ : bsR} {cA : Nat → ClassId} {dC : Nat → ClassId} {dI : Nat → Nat → Nat} {b L : Nat} {xs : Nat → Int32} {I : Nat → bsX → Prop} (H : sim_place I) (LC : lawC p l s m meth c ρ cA dC dI b L xs) {j : Nat} (hj : 6 * j + 6 ≤ L) {cells slots : Nat} (hc1 : cells + 9 ≤ 601024) (hc2 : slots + 54 ≤ 7293033) {X : bsX} {lo : Int64} {od : UInt64} (hI : I j X) (kk : ∀ (X : bsX) (lo : Int64) (od : UInt64), I (j + 1) X → lawV p l e s m below meth c ρ cA dC dI b (cells + 9) (slots + 54) 3507 [(0, .ref b), (1, .ref (ρ 13 0 0)), (2, .ref (ρ 14 0 0)), (3, .ref (ρ 15 0 0)), (4, .ref (ρ 15 1 0)), (5, .int (nI (6 * j)))] [] X lo od) : lawV p l e s m below meth c ρ cA dC dI b cells slots 888 [(0, .ref b), (1, .ref (ρ 13 0 0)), (2, .ref (ρ 14 0 0)), (3, .ref (ρ 15 0 0)), (4, .ref (ρ 15 1 0)), (5, .int (nI (6 * j)))] [] X lo od := by
  have hL9 : L ≤ 3072 := LC.2.2.2.2.1
  obtain ⟨hC, hX, hbl, hbA, hL, hst, hfr⟩ := LC
  have C := hC lo od
  obtain ⟨r, q, hf, hr, hg, ht, he, hI2⟩ := H j X (xs (6 * j + 1)) (by omega) hI
  refine v_aload_n C dL_law_888 rfl rfl ?_
  refine v_aload_n C dL_law_889 rfl rfl ?_
  refine v_iload C dL_law_890 rfl ?_
  refine v_iconst (v := 1) C dL_law_892 (by decide) ?_
  refine v_iadd C dL_law_893 ?_
  refine v_sld (k := 1) C hX hbl (hbA lo od) rfl (by omega) (by omega) dL_law_894 ?_
  refine v_aload_n C dL_law_895 rfl rfl ?_
  refine v_wcallS (y := yL_place) (As := [.ref (ρ 13 0 0), .int (xs (6 * j + 1)), .ref (ρ 15 0 0)]) (rest := []) C (cL_place_ok hst hf hr) mlw_243 wwL_place (by exact dpL_place) ⟨Nat.le_of_ble_eq_true rfl, Nat.le_of_ble_eq_true rfl⟩ ⟨by show cells + 2 ≤ 601024; omega, by show slots + 12 ≤ 7293033; omega⟩ rfl (Nat.le_of_ble_eq_true rfl) dL_law_896 ?_
  have C := hC (if r.1 = 0 then r.2.1.toInt64 else lo) od
  generalize hlo : (if r.1 = 0 then r.2.1.toInt64 else lo) = lo9 at C ⊢
  dsimp only
  rw [← ht]
  refine v_istore (lv' := [(6, .int (q.2 14 0 0 0)), (0, .ref b), (1, .ref (ρ 13 0 0)), (2, .ref (ρ 14 0 0)), (3, .ref (ρ 15 0 0)), (4, .ref (ρ 15 1 0)), (5, .int (nI (6 * j)))]) C dL_law_899 (by decide) rfl ?_
  refine v_aload_n C dL_law_901 rfl rfl ?_
  refine v_aload_n C dL_law_902 rfl rfl ?_
  refine v_iload C dL_law_903 rfl ?_
  refine v_iconst (v := 1) C dL_law_905 (by decide) ?_
  refine v_iadd C dL_law_906 ?_
  refine v_sld (k := 1) C hX hbl (hbA lo9 od) rfl (by omega) (by omega) dL_law_907 ?_
  refine v_callVi (y := yX9_place) (As := [.int (xs (6 * j + 1))]) (rest := []) C (cX9_place_ok hg) mlw_245 wyX9_place bsm_X9 bsc_X9 rfl (by exact dpX9_place) ⟨Nat.le_of_ble_eq_true rfl, Nat.le_of_ble_eq_true rfl⟩ ⟨rfl, rfl⟩ ⟨by show cells + 2 ≤ 601024; omega, by show slots + 12 ≤ 7293033; omega⟩ rfl (Nat.le_of_ble_eq_true rfl) dL_law_908 ?_
  refine v_istore (lv' := [(7, .int q.1), (6, .int (q.2 14 0 0 0)), (0, .ref b), (1, .ref (ρ 13 0 0)), (2, .ref (ρ 14 0 0)), (3, .ref (ρ 15 0 0)), (4, .ref (ρ 15 1 0)), (5, .int (nI (6 * j)))]) C dL_law_911 (by decide) rfl ?_
  refine v_aload_n C dL_law_913 rfl rfl ?_
  refine v_callVi (y := yX9_thrown) (As := []) (rest := []) (z := (q.2 14 0 0 0, q.2)) C (cX9_thrown_ok rfl) mlw_205 wyX9_thrown bsm_X9 bsc_X9 rfl (by exact dpX9_thrown) ⟨Nat.le_of_ble_eq_true rfl, Nat.le_of_ble_eq_true rfl⟩ ⟨rfl, rfl⟩ ⟨by show cells + 2 ≤ 601024; omega, by show slots + 12 ≤ 7293033; omega⟩ rfl (Nat.le_of_ble_eq_true rfl) dL_law_914 ?_
  refine v_iload C dL_law_917 rfl ?_
  refine v_icmp_eq (tgt := 924) C dL_law_919 (by decide) (fun _ => ?_) (fun h => absurd rfl h)
  refine v_iload C dL_law_924 rfl ?_
  refine v_if_ne (tgt := 941) C dL_law_926 (by decide) (fun _ => ?_) (fun h0 => ?_)
  · refine v_goto (tgt := 3507) C dL_law_941 (by decide) ?_
    refine v_sub [2, 3, 4, 5, 6, 7] rfl ?_
    exact v_widen (by show cells + 2 ≤ cells + 9; omega) (by show slots + 12 ≤ slots + 54; omega) (kk q.2 lo9 od hI2)
  · have hr0 : r.1 = 0 := by
      rw [ht] at h0
      rcases hr with h1 | h1 | h1
      · exact h1
      · rw [h1] at h0; exact absurd h0 (by decide)
      · rw [h1] at h0; exact absurd h0 (by decide)
    have e0 := he hr0
    rw [if_pos hr0] at hlo
    refine v_aload_n C dL_law_929 rfl rfl ?_
    refine v_iconst (v := 0) C dL_law_930 (by decide) ?_
    refine v_lald C dL_law_931 ?_
    refine v_iload C dL_law_932 rfl ?_
    refine v_i2l C dL_law_934 ?_
    refine v_lcmp C dL_law_935 ?_
    rw [show bsLc lo9 q.1.toInt64 = 0 by rw [← hlo, e0]; exact bsLc_self _]
    refine v_if_eq (tgt := 941) C dL_law_936 (by decide) (fun _ => ?_) (fun h => absurd rfl h)
    refine v_goto (tgt := 3507) C dL_law_941 (by decide) ?_
    refine v_sub [2, 3, 4, 5, 6, 7] rfl ?_
    exact v_widen (by show cells + 2 ≤ cells + 9; omega) (by show slots + 12 ≤ slots + 54; omega) (kk q.2 lo9 od hI2)
/-- what the pure part owes for newest -/
def sim_newest (I : Nat → bsX → Prop) : Prop := ∀ (j : Nat) (X : bsX), j < 512 → I j X → ∃ (r : bsXr) (q : Int32 × bsX), fX8_newest  X = some r ∧ (r.1 = 0 ∨ r.1 = 1) ∧ fX9_newest  r.2.2 = some q ∧ q.2 14 0 0 0 = (if r.1 = 1 then (1 : Int32) else (0 : Int32)) ∧ (r.1 = 0 → r.2.1 = q.1) ∧ I (j + 1) q.2
set_option maxHeartbeats 4000000 in
set_option maxRecDepth 100000 in
theorem law_13 {p : Program} {l : Launch} {e : Env} {s : State} {m : MethodId} {below : List Frame} {meth : Method} {c : Code} {ρ : bsR} {cA : Nat → ClassId} {dC : Nat → ClassId} {dI : Nat → Nat → Nat} {b L : Nat} {xs : Nat → Int32} {I : Nat → bsX → Prop} (H : sim_newest I) (LC : lawC p l s m meth c ρ cA dC dI b L xs) {j : Nat} (hj : 6 * j + 6 ≤ L) {cells slots : Nat} (hc1 : cells + 9 ≤ 601024) (hc2 : slots + 54 ≤ 7293033) {X : bsX} {lo : Int64} {od : UInt64} (hI : I j X) (kk : ∀ (X : bsX) (lo : Int64) (od : UInt64), I (j + 1) X → lawV p l e s m below meth c ρ cA dC dI b (cells + 9) (slots + 54) 3507 [(0, .ref b), (1, .ref (ρ 13 0 0)), (2, .ref (ρ 14 0 0)), (3, .ref (ρ 15 0 0)), (4, .ref (ρ 15 1 0)), (5, .int (nI (6 * j)))] [] X lo od) : lawV p l e s m below meth c ρ cA dC dI b cells slots 944 [(0, .ref b), (1, .ref (ρ 13 0 0)), (2, .ref (ρ 14 0 0)), (3, .ref (ρ 15 0 0)), (4, .ref (ρ 15 1 0)), (5, .int (nI (6 * j)))] [] X lo od := by
  have hL9 : L ≤ 3072 := LC.2.2.2.2.1
  obtain ⟨hC, hX, hbl, hbA, hL, hst, hfr⟩ := LC
  have C := hC lo od
  obtain ⟨r, q, hf, hr, hg, ht, he, hI2⟩ := H j X  (by omega) hI
  refine v_aload_n C dL_law_944 rfl rfl ?_
  refine v_aload_n C dL_law_945 rfl rfl ?_
  refine v_wcallS (y := yL_newest) (As := [.ref (ρ 13 0 0), .ref (ρ 15 0 0)]) (rest := []) C (cL_newest_ok hst hf hr) mlw_246 wwL_newest (by exact dpL_newest) ⟨Nat.le_of_ble_eq_true rfl, Nat.le_of_ble_eq_true rfl⟩ ⟨by show cells + 1 ≤ 601024; omega, by show slots + 6 ≤ 7293033; omega⟩ rfl (Nat.le_of_ble_eq_true rfl) dL_law_946 ?_
  have C := hC (if r.1 = 0 then r.2.1.toInt64 else lo) od
  generalize hlo : (if r.1 = 0 then r.2.1.toInt64 else lo) = lo9 at C ⊢
  dsimp only
  rw [← ht]
  refine v_istore (lv' := [(6, .int (q.2 14 0 0 0)), (0, .ref b), (1, .ref (ρ 13 0 0)), (2, .ref (ρ 14 0 0)), (3, .ref (ρ 15 0 0)), (4, .ref (ρ 15 1 0)), (5, .int (nI (6 * j)))]) C dL_law_949 (by decide) rfl ?_
  refine v_aload_n C dL_law_951 rfl rfl ?_
  refine v_callVi (y := yX9_newest) (As := []) (rest := []) C (cX9_newest_ok hg) mlw_248 wyX9_newest bsm_X9 bsc_X9 rfl (by exact dpX9_newest) ⟨Nat.le_of_ble_eq_true rfl, Nat.le_of_ble_eq_true rfl⟩ ⟨rfl, rfl⟩ ⟨by show cells + 1 ≤ 601024; omega, by show slots + 6 ≤ 7293033; omega⟩ rfl (Nat.le_of_ble_eq_true rfl) dL_law_952 ?_
  refine v_istore (lv' := [(7, .int q.1), (6, .int (q.2 14 0 0 0)), (0, .ref b), (1, .ref (ρ 13 0 0)), (2, .ref (ρ 14 0 0)), (3, .ref (ρ 15 0 0)), (4, .ref (ρ 15 1 0)), (5, .int (nI (6 * j)))]) C dL_law_955 (by decide) rfl ?_
  refine v_aload_n C dL_law_957 rfl rfl ?_
  refine v_callVi (y := yX9_thrown) (As := []) (rest := []) (z := (q.2 14 0 0 0, q.2)) C (cX9_thrown_ok rfl) mlw_205 wyX9_thrown bsm_X9 bsc_X9 rfl (by exact dpX9_thrown) ⟨Nat.le_of_ble_eq_true rfl, Nat.le_of_ble_eq_true rfl⟩ ⟨rfl, rfl⟩ ⟨by show cells + 1 ≤ 601024; omega, by show slots + 6 ≤ 7293033; omega⟩ rfl (Nat.le_of_ble_eq_true rfl) dL_law_958 ?_
  refine v_iload C dL_law_961 rfl ?_
  refine v_icmp_eq (tgt := 968) C dL_law_963 (by decide) (fun _ => ?_) (fun h => absurd rfl h)
  refine v_iload C dL_law_968 rfl ?_
  refine v_if_ne (tgt := 985) C dL_law_970 (by decide) (fun _ => ?_) (fun h0 => ?_)
  · refine v_goto (tgt := 3507) C dL_law_985 (by decide) ?_
    refine v_sub [2, 3, 4, 5, 6, 7] rfl ?_
    exact v_widen (by show cells + 1 ≤ cells + 9; omega) (by show slots + 6 ≤ slots + 54; omega) (kk q.2 lo9 od hI2)
  · have hr0 : r.1 = 0 := by
      rw [ht] at h0
      rcases hr with h1 | h1
      · exact h1
      · rw [h1] at h0; exact absurd h0 (by decide)
    have e0 := he hr0
    rw [if_pos hr0] at hlo
    refine v_aload_n C dL_law_973 rfl rfl ?_
    refine v_iconst (v := 0) C dL_law_974 (by decide) ?_
    refine v_lald C dL_law_975 ?_
    refine v_iload C dL_law_976 rfl ?_
    refine v_i2l C dL_law_978 ?_
    refine v_lcmp C dL_law_979 ?_
    rw [show bsLc lo9 q.1.toInt64 = 0 by rw [← hlo, e0]; exact bsLc_self _]
    refine v_if_eq (tgt := 985) C dL_law_980 (by decide) (fun _ => ?_) (fun h => absurd rfl h)
    refine v_goto (tgt := 3507) C dL_law_985 (by decide) ?_
    refine v_sub [2, 3, 4, 5, 6, 7] rfl ?_
    exact v_widen (by show cells + 1 ≤ cells + 9; omega) (by show slots + 6 ≤ slots + 54; omega) (kk q.2 lo9 od hI2)
/-- what the pure part owes for spare -/
def sim_spare (I : Nat → bsX → Prop) : Prop := ∀ (j : Nat) (X : bsX), j < 512 → I j X → ∃ (r : bsXr) (q : Int32 × bsX), fX8_spare  X = some r ∧ (r.1 = 0 ∨ r.1 = 1) ∧ fX9_spare  r.2.2 = some q ∧ q.2 14 0 0 0 = (if r.1 = 1 then (1 : Int32) else (0 : Int32)) ∧ (r.1 = 0 → r.2.1 = q.1) ∧ I (j + 1) q.2
set_option maxHeartbeats 4000000 in
set_option maxRecDepth 100000 in
theorem law_14 {p : Program} {l : Launch} {e : Env} {s : State} {m : MethodId} {below : List Frame} {meth : Method} {c : Code} {ρ : bsR} {cA : Nat → ClassId} {dC : Nat → ClassId} {dI : Nat → Nat → Nat} {b L : Nat} {xs : Nat → Int32} {I : Nat → bsX → Prop} (H : sim_spare I) (LC : lawC p l s m meth c ρ cA dC dI b L xs) {j : Nat} (hj : 6 * j + 6 ≤ L) {cells slots : Nat} (hc1 : cells + 9 ≤ 601024) (hc2 : slots + 54 ≤ 7293033) {X : bsX} {lo : Int64} {od : UInt64} (hI : I j X) (kk : ∀ (X : bsX) (lo : Int64) (od : UInt64), I (j + 1) X → lawV p l e s m below meth c ρ cA dC dI b (cells + 9) (slots + 54) 3507 [(0, .ref b), (1, .ref (ρ 13 0 0)), (2, .ref (ρ 14 0 0)), (3, .ref (ρ 15 0 0)), (4, .ref (ρ 15 1 0)), (5, .int (nI (6 * j)))] [] X lo od) : lawV p l e s m below meth c ρ cA dC dI b cells slots 988 [(0, .ref b), (1, .ref (ρ 13 0 0)), (2, .ref (ρ 14 0 0)), (3, .ref (ρ 15 0 0)), (4, .ref (ρ 15 1 0)), (5, .int (nI (6 * j)))] [] X lo od := by
  have hL9 : L ≤ 3072 := LC.2.2.2.2.1
  obtain ⟨hC, hX, hbl, hbA, hL, hst, hfr⟩ := LC
  have C := hC lo od
  obtain ⟨r, q, hf, hr, hg, ht, he, hI2⟩ := H j X  (by omega) hI
  refine v_aload_n C dL_law_988 rfl rfl ?_
  refine v_aload_n C dL_law_989 rfl rfl ?_
  refine v_wcallS (y := yL_spare) (As := [.ref (ρ 13 0 0), .ref (ρ 15 0 0)]) (rest := []) C (cL_spare_ok hst hf hr) mlw_249 wwL_spare (by exact dpL_spare) ⟨Nat.le_of_ble_eq_true rfl, Nat.le_of_ble_eq_true rfl⟩ ⟨by show cells + 1 ≤ 601024; omega, by show slots + 6 ≤ 7293033; omega⟩ rfl (Nat.le_of_ble_eq_true rfl) dL_law_990 ?_
  have C := hC (if r.1 = 0 then r.2.1.toInt64 else lo) od
  generalize hlo : (if r.1 = 0 then r.2.1.toInt64 else lo) = lo9 at C ⊢
  dsimp only
  rw [← ht]
  refine v_istore (lv' := [(6, .int (q.2 14 0 0 0)), (0, .ref b), (1, .ref (ρ 13 0 0)), (2, .ref (ρ 14 0 0)), (3, .ref (ρ 15 0 0)), (4, .ref (ρ 15 1 0)), (5, .int (nI (6 * j)))]) C dL_law_993 (by decide) rfl ?_
  refine v_aload_n C dL_law_995 rfl rfl ?_
  refine v_callVi (y := yX9_spare) (As := []) (rest := []) C (cX9_spare_ok hg) mlw_251 wyX9_spare bsm_X9 bsc_X9 rfl (by exact dpX9_spare) ⟨Nat.le_of_ble_eq_true rfl, Nat.le_of_ble_eq_true rfl⟩ ⟨rfl, rfl⟩ ⟨by show cells + 1 ≤ 601024; omega, by show slots + 6 ≤ 7293033; omega⟩ rfl (Nat.le_of_ble_eq_true rfl) dL_law_996 ?_
  refine v_istore (lv' := [(7, .int q.1), (6, .int (q.2 14 0 0 0)), (0, .ref b), (1, .ref (ρ 13 0 0)), (2, .ref (ρ 14 0 0)), (3, .ref (ρ 15 0 0)), (4, .ref (ρ 15 1 0)), (5, .int (nI (6 * j)))]) C dL_law_999 (by decide) rfl ?_
  refine v_aload_n C dL_law_1001 rfl rfl ?_
  refine v_callVi (y := yX9_thrown) (As := []) (rest := []) (z := (q.2 14 0 0 0, q.2)) C (cX9_thrown_ok rfl) mlw_205 wyX9_thrown bsm_X9 bsc_X9 rfl (by exact dpX9_thrown) ⟨Nat.le_of_ble_eq_true rfl, Nat.le_of_ble_eq_true rfl⟩ ⟨rfl, rfl⟩ ⟨by show cells + 1 ≤ 601024; omega, by show slots + 6 ≤ 7293033; omega⟩ rfl (Nat.le_of_ble_eq_true rfl) dL_law_1002 ?_
  refine v_iload C dL_law_1005 rfl ?_
  refine v_icmp_eq (tgt := 1012) C dL_law_1007 (by decide) (fun _ => ?_) (fun h => absurd rfl h)
  refine v_iload C dL_law_1012 rfl ?_
  refine v_if_ne (tgt := 1029) C dL_law_1014 (by decide) (fun _ => ?_) (fun h0 => ?_)
  · refine v_goto (tgt := 3507) C dL_law_1029 (by decide) ?_
    refine v_sub [2, 3, 4, 5, 6, 7] rfl ?_
    exact v_widen (by show cells + 1 ≤ cells + 9; omega) (by show slots + 6 ≤ slots + 54; omega) (kk q.2 lo9 od hI2)
  · have hr0 : r.1 = 0 := by
      rw [ht] at h0
      rcases hr with h1 | h1
      · exact h1
      · rw [h1] at h0; exact absurd h0 (by decide)
    have e0 := he hr0
    rw [if_pos hr0] at hlo
    refine v_aload_n C dL_law_1017 rfl rfl ?_
    refine v_iconst (v := 0) C dL_law_1018 (by decide) ?_
    refine v_lald C dL_law_1019 ?_
    refine v_iload C dL_law_1020 rfl ?_
    refine v_i2l C dL_law_1022 ?_
    refine v_lcmp C dL_law_1023 ?_
    rw [show bsLc lo9 q.1.toInt64 = 0 by rw [← hlo, e0]; exact bsLc_self _]
    refine v_if_eq (tgt := 1029) C dL_law_1024 (by decide) (fun _ => ?_) (fun h => absurd rfl h)
    refine v_goto (tgt := 3507) C dL_law_1029 (by decide) ?_
    refine v_sub [2, 3, 4, 5, 6, 7] rfl ?_
    exact v_widen (by show cells + 1 ≤ cells + 9; omega) (by show slots + 6 ≤ slots + 54; omega) (kk q.2 lo9 od hI2)
/-- what the pure part owes for fallback -/
def sim_fallback (I : Nat → bsX → Prop) : Prop := ∀ (j : Nat) (X : bsX), j < 512 → I j X → ∃ (r : bsXr) (q : Int32 × bsX), fX8_fallback  X = some r ∧ (r.1 = 0 ∨ r.1 = 1) ∧ fX9_fallback  r.2.2 = some q ∧ q.2 14 0 0 0 = (if r.1 = 1 then (1 : Int32) else (0 : Int32)) ∧ (r.1 = 0 → r.2.1 = q.1) ∧ I (j + 1) q.2
set_option maxHeartbeats 4000000 in
set_option maxRecDepth 100000 in
theorem law_15 {p : Program} {l : Launch} {e : Env} {s : State} {m : MethodId} {below : List Frame} {meth : Method} {c : Code} {ρ : bsR} {cA : Nat → ClassId} {dC : Nat → ClassId} {dI : Nat → Nat → Nat} {b L : Nat} {xs : Nat → Int32} {I : Nat → bsX → Prop} (H : sim_fallback I) (LC : lawC p l s m meth c ρ cA dC dI b L xs) {j : Nat} (hj : 6 * j + 6 ≤ L) {cells slots : Nat} (hc1 : cells + 9 ≤ 601024) (hc2 : slots + 54 ≤ 7293033) {X : bsX} {lo : Int64} {od : UInt64} (hI : I j X) (kk : ∀ (X : bsX) (lo : Int64) (od : UInt64), I (j + 1) X → lawV p l e s m below meth c ρ cA dC dI b (cells + 9) (slots + 54) 3507 [(0, .ref b), (1, .ref (ρ 13 0 0)), (2, .ref (ρ 14 0 0)), (3, .ref (ρ 15 0 0)), (4, .ref (ρ 15 1 0)), (5, .int (nI (6 * j)))] [] X lo od) : lawV p l e s m below meth c ρ cA dC dI b cells slots 1032 [(0, .ref b), (1, .ref (ρ 13 0 0)), (2, .ref (ρ 14 0 0)), (3, .ref (ρ 15 0 0)), (4, .ref (ρ 15 1 0)), (5, .int (nI (6 * j)))] [] X lo od := by
  have hL9 : L ≤ 3072 := LC.2.2.2.2.1
  obtain ⟨hC, hX, hbl, hbA, hL, hst, hfr⟩ := LC
  have C := hC lo od
  obtain ⟨r, q, hf, hr, hg, ht, he, hI2⟩ := H j X  (by omega) hI
  refine v_aload_n C dL_law_1032 rfl rfl ?_
  refine v_aload_n C dL_law_1033 rfl rfl ?_
  refine v_wcallS (y := yL_fallback) (As := [.ref (ρ 13 0 0), .ref (ρ 15 0 0)]) (rest := []) C (cL_fallback_ok hst hf hr) mlw_252 wwL_fallback (by exact dpL_fallback) ⟨Nat.le_of_ble_eq_true rfl, Nat.le_of_ble_eq_true rfl⟩ ⟨by show cells + 1 ≤ 601024; omega, by show slots + 6 ≤ 7293033; omega⟩ rfl (Nat.le_of_ble_eq_true rfl) dL_law_1034 ?_
  have C := hC (if r.1 = 0 then r.2.1.toInt64 else lo) od
  generalize hlo : (if r.1 = 0 then r.2.1.toInt64 else lo) = lo9 at C ⊢
  dsimp only
  rw [← ht]
  refine v_istore (lv' := [(6, .int (q.2 14 0 0 0)), (0, .ref b), (1, .ref (ρ 13 0 0)), (2, .ref (ρ 14 0 0)), (3, .ref (ρ 15 0 0)), (4, .ref (ρ 15 1 0)), (5, .int (nI (6 * j)))]) C dL_law_1037 (by decide) rfl ?_
  refine v_aload_n C dL_law_1039 rfl rfl ?_
  refine v_callVi (y := yX9_fallback) (As := []) (rest := []) C (cX9_fallback_ok hg) mlw_254 wyX9_fallback bsm_X9 bsc_X9 rfl (by exact dpX9_fallback) ⟨Nat.le_of_ble_eq_true rfl, Nat.le_of_ble_eq_true rfl⟩ ⟨rfl, rfl⟩ ⟨by show cells + 1 ≤ 601024; omega, by show slots + 6 ≤ 7293033; omega⟩ rfl (Nat.le_of_ble_eq_true rfl) dL_law_1040 ?_
  refine v_istore (lv' := [(7, .int q.1), (6, .int (q.2 14 0 0 0)), (0, .ref b), (1, .ref (ρ 13 0 0)), (2, .ref (ρ 14 0 0)), (3, .ref (ρ 15 0 0)), (4, .ref (ρ 15 1 0)), (5, .int (nI (6 * j)))]) C dL_law_1043 (by decide) rfl ?_
  refine v_aload_n C dL_law_1045 rfl rfl ?_
  refine v_callVi (y := yX9_thrown) (As := []) (rest := []) (z := (q.2 14 0 0 0, q.2)) C (cX9_thrown_ok rfl) mlw_205 wyX9_thrown bsm_X9 bsc_X9 rfl (by exact dpX9_thrown) ⟨Nat.le_of_ble_eq_true rfl, Nat.le_of_ble_eq_true rfl⟩ ⟨rfl, rfl⟩ ⟨by show cells + 1 ≤ 601024; omega, by show slots + 6 ≤ 7293033; omega⟩ rfl (Nat.le_of_ble_eq_true rfl) dL_law_1046 ?_
  refine v_iload C dL_law_1049 rfl ?_
  refine v_icmp_eq (tgt := 1056) C dL_law_1051 (by decide) (fun _ => ?_) (fun h => absurd rfl h)
  refine v_iload C dL_law_1056 rfl ?_
  refine v_if_ne (tgt := 1073) C dL_law_1058 (by decide) (fun _ => ?_) (fun h0 => ?_)
  · refine v_goto (tgt := 3507) C dL_law_1073 (by decide) ?_
    refine v_sub [2, 3, 4, 5, 6, 7] rfl ?_
    exact v_widen (by show cells + 1 ≤ cells + 9; omega) (by show slots + 6 ≤ slots + 54; omega) (kk q.2 lo9 od hI2)
  · have hr0 : r.1 = 0 := by
      rw [ht] at h0
      rcases hr with h1 | h1
      · exact h1
      · rw [h1] at h0; exact absurd h0 (by decide)
    have e0 := he hr0
    rw [if_pos hr0] at hlo
    refine v_aload_n C dL_law_1061 rfl rfl ?_
    refine v_iconst (v := 0) C dL_law_1062 (by decide) ?_
    refine v_lald C dL_law_1063 ?_
    refine v_iload C dL_law_1064 rfl ?_
    refine v_i2l C dL_law_1066 ?_
    refine v_lcmp C dL_law_1067 ?_
    rw [show bsLc lo9 q.1.toInt64 = 0 by rw [← hlo, e0]; exact bsLc_self _]
    refine v_if_eq (tgt := 1073) C dL_law_1068 (by decide) (fun _ => ?_) (fun h => absurd rfl h)
    refine v_goto (tgt := 3507) C dL_law_1073 (by decide) ?_
    refine v_sub [2, 3, 4, 5, 6, 7] rfl ?_
    exact v_widen (by show cells + 1 ≤ cells + 9; omega) (by show slots + 6 ≤ slots + 54; omega) (kk q.2 lo9 od hI2)
/-- what the pure part owes for weakest -/
def sim_weakest (I : Nat → bsX → Prop) : Prop := ∀ (j : Nat) (X : bsX), j < 512 → I j X → ∃ (r : bsXr) (q : Int32 × bsX), fX8_weakest  X = some r ∧ (r.1 = 0 ∨ r.1 = 1) ∧ fX9_weakest  r.2.2 = some q ∧ q.2 14 0 0 0 = (if r.1 = 1 then (1 : Int32) else (0 : Int32)) ∧ (r.1 = 0 → r.2.1 = q.1) ∧ I (j + 1) q.2
set_option maxHeartbeats 4000000 in
set_option maxRecDepth 100000 in
theorem law_16 {p : Program} {l : Launch} {e : Env} {s : State} {m : MethodId} {below : List Frame} {meth : Method} {c : Code} {ρ : bsR} {cA : Nat → ClassId} {dC : Nat → ClassId} {dI : Nat → Nat → Nat} {b L : Nat} {xs : Nat → Int32} {I : Nat → bsX → Prop} (H : sim_weakest I) (LC : lawC p l s m meth c ρ cA dC dI b L xs) {j : Nat} (hj : 6 * j + 6 ≤ L) {cells slots : Nat} (hc1 : cells + 9 ≤ 601024) (hc2 : slots + 54 ≤ 7293033) {X : bsX} {lo : Int64} {od : UInt64} (hI : I j X) (kk : ∀ (X : bsX) (lo : Int64) (od : UInt64), I (j + 1) X → lawV p l e s m below meth c ρ cA dC dI b (cells + 9) (slots + 54) 3507 [(0, .ref b), (1, .ref (ρ 13 0 0)), (2, .ref (ρ 14 0 0)), (3, .ref (ρ 15 0 0)), (4, .ref (ρ 15 1 0)), (5, .int (nI (6 * j)))] [] X lo od) : lawV p l e s m below meth c ρ cA dC dI b cells slots 1076 [(0, .ref b), (1, .ref (ρ 13 0 0)), (2, .ref (ρ 14 0 0)), (3, .ref (ρ 15 0 0)), (4, .ref (ρ 15 1 0)), (5, .int (nI (6 * j)))] [] X lo od := by
  have hL9 : L ≤ 3072 := LC.2.2.2.2.1
  obtain ⟨hC, hX, hbl, hbA, hL, hst, hfr⟩ := LC
  have C := hC lo od
  obtain ⟨r, q, hf, hr, hg, ht, he, hI2⟩ := H j X  (by omega) hI
  refine v_aload_n C dL_law_1076 rfl rfl ?_
  refine v_aload_n C dL_law_1077 rfl rfl ?_
  refine v_wcallS (y := yL_weakest) (As := [.ref (ρ 13 0 0), .ref (ρ 15 0 0)]) (rest := []) C (cL_weakest_ok hst hf hr) mlw_255 wwL_weakest (by exact dpL_weakest) ⟨Nat.le_of_ble_eq_true rfl, Nat.le_of_ble_eq_true rfl⟩ ⟨by show cells + 1 ≤ 601024; omega, by show slots + 6 ≤ 7293033; omega⟩ rfl (Nat.le_of_ble_eq_true rfl) dL_law_1078 ?_
  have C := hC (if r.1 = 0 then r.2.1.toInt64 else lo) od
  generalize hlo : (if r.1 = 0 then r.2.1.toInt64 else lo) = lo9 at C ⊢
  dsimp only
  rw [← ht]
  refine v_istore (lv' := [(6, .int (q.2 14 0 0 0)), (0, .ref b), (1, .ref (ρ 13 0 0)), (2, .ref (ρ 14 0 0)), (3, .ref (ρ 15 0 0)), (4, .ref (ρ 15 1 0)), (5, .int (nI (6 * j)))]) C dL_law_1081 (by decide) rfl ?_
  refine v_aload_n C dL_law_1083 rfl rfl ?_
  refine v_callVi (y := yX9_weakest) (As := []) (rest := []) C (cX9_weakest_ok hg) mlw_257 wyX9_weakest bsm_X9 bsc_X9 rfl (by exact dpX9_weakest) ⟨Nat.le_of_ble_eq_true rfl, Nat.le_of_ble_eq_true rfl⟩ ⟨rfl, rfl⟩ ⟨by show cells + 1 ≤ 601024; omega, by show slots + 6 ≤ 7293033; omega⟩ rfl (Nat.le_of_ble_eq_true rfl) dL_law_1084 ?_
  refine v_istore (lv' := [(7, .int q.1), (6, .int (q.2 14 0 0 0)), (0, .ref b), (1, .ref (ρ 13 0 0)), (2, .ref (ρ 14 0 0)), (3, .ref (ρ 15 0 0)), (4, .ref (ρ 15 1 0)), (5, .int (nI (6 * j)))]) C dL_law_1087 (by decide) rfl ?_
  refine v_aload_n C dL_law_1089 rfl rfl ?_
  refine v_callVi (y := yX9_thrown) (As := []) (rest := []) (z := (q.2 14 0 0 0, q.2)) C (cX9_thrown_ok rfl) mlw_205 wyX9_thrown bsm_X9 bsc_X9 rfl (by exact dpX9_thrown) ⟨Nat.le_of_ble_eq_true rfl, Nat.le_of_ble_eq_true rfl⟩ ⟨rfl, rfl⟩ ⟨by show cells + 1 ≤ 601024; omega, by show slots + 6 ≤ 7293033; omega⟩ rfl (Nat.le_of_ble_eq_true rfl) dL_law_1090 ?_
  refine v_iload C dL_law_1093 rfl ?_
  refine v_icmp_eq (tgt := 1100) C dL_law_1095 (by decide) (fun _ => ?_) (fun h => absurd rfl h)
  refine v_iload C dL_law_1100 rfl ?_
  refine v_if_ne (tgt := 1117) C dL_law_1102 (by decide) (fun _ => ?_) (fun h0 => ?_)
  · refine v_goto (tgt := 3507) C dL_law_1117 (by decide) ?_
    refine v_sub [2, 3, 4, 5, 6, 7] rfl ?_
    exact v_widen (by show cells + 1 ≤ cells + 9; omega) (by show slots + 6 ≤ slots + 54; omega) (kk q.2 lo9 od hI2)
  · have hr0 : r.1 = 0 := by
      rw [ht] at h0
      rcases hr with h1 | h1
      · exact h1
      · rw [h1] at h0; exact absurd h0 (by decide)
    have e0 := he hr0
    rw [if_pos hr0] at hlo
    refine v_aload_n C dL_law_1105 rfl rfl ?_
    refine v_iconst (v := 0) C dL_law_1106 (by decide) ?_
    refine v_lald C dL_law_1107 ?_
    refine v_iload C dL_law_1108 rfl ?_
    refine v_i2l C dL_law_1110 ?_
    refine v_lcmp C dL_law_1111 ?_
    rw [show bsLc lo9 q.1.toInt64 = 0 by rw [← hlo, e0]; exact bsLc_self _]
    refine v_if_eq (tgt := 1117) C dL_law_1112 (by decide) (fun _ => ?_) (fun h => absurd rfl h)
    refine v_goto (tgt := 3507) C dL_law_1117 (by decide) ?_
    refine v_sub [2, 3, 4, 5, 6, 7] rfl ?_
    exact v_widen (by show cells + 1 ≤ cells + 9; omega) (by show slots + 6 ≤ slots + 54; omega) (kk q.2 lo9 od hI2)
/-- what the pure part owes for twins -/
def sim_twins (I : Nat → bsX → Prop) : Prop := ∀ (j : Nat) (X : bsX) (a1 : Int32), j < 512 → I j X → ∃ (r : bsXr) (q : Int32 × bsX), fX8_twins a1 X = some r ∧ (r.1 = 0 ∨ r.1 = 1 ∨ r.1 = 2) ∧ fX9_twins a1 r.2.2 = some q ∧ q.2 14 0 0 0 = (if r.1 = 1 then (1 : Int32) else (if r.1 = 2 then (2 : Int32) else (0 : Int32))) ∧ (r.1 = 0 → r.2.1 = q.1) ∧ I (j + 1) q.2
set_option maxHeartbeats 4000000 in
set_option maxRecDepth 100000 in
theorem law_17 {p : Program} {l : Launch} {e : Env} {s : State} {m : MethodId} {below : List Frame} {meth : Method} {c : Code} {ρ : bsR} {cA : Nat → ClassId} {dC : Nat → ClassId} {dI : Nat → Nat → Nat} {b L : Nat} {xs : Nat → Int32} {I : Nat → bsX → Prop} (H : sim_twins I) (LC : lawC p l s m meth c ρ cA dC dI b L xs) {j : Nat} (hj : 6 * j + 6 ≤ L) {cells slots : Nat} (hc1 : cells + 9 ≤ 601024) (hc2 : slots + 54 ≤ 7293033) {X : bsX} {lo : Int64} {od : UInt64} (hI : I j X) (kk : ∀ (X : bsX) (lo : Int64) (od : UInt64), I (j + 1) X → lawV p l e s m below meth c ρ cA dC dI b (cells + 9) (slots + 54) 3507 [(0, .ref b), (1, .ref (ρ 13 0 0)), (2, .ref (ρ 14 0 0)), (3, .ref (ρ 15 0 0)), (4, .ref (ρ 15 1 0)), (5, .int (nI (6 * j)))] [] X lo od) : lawV p l e s m below meth c ρ cA dC dI b cells slots 1120 [(0, .ref b), (1, .ref (ρ 13 0 0)), (2, .ref (ρ 14 0 0)), (3, .ref (ρ 15 0 0)), (4, .ref (ρ 15 1 0)), (5, .int (nI (6 * j)))] [] X lo od := by
  have hL9 : L ≤ 3072 := LC.2.2.2.2.1
  obtain ⟨hC, hX, hbl, hbA, hL, hst, hfr⟩ := LC
  have C := hC lo od
  obtain ⟨r, q, hf, hr, hg, ht, he, hI2⟩ := H j X (xs (6 * j + 1)) (by omega) hI
  refine v_aload_n C dL_law_1120 rfl rfl ?_
  refine v_aload_n C dL_law_1121 rfl rfl ?_
  refine v_iload C dL_law_1122 rfl ?_
  refine v_iconst (v := 1) C dL_law_1124 (by decide) ?_
  refine v_iadd C dL_law_1125 ?_
  refine v_sld (k := 1) C hX hbl (hbA lo od) rfl (by omega) (by omega) dL_law_1126 ?_
  refine v_aload_n C dL_law_1127 rfl rfl ?_
  refine v_wcallS (y := yL_twins) (As := [.ref (ρ 13 0 0), .int (xs (6 * j + 1)), .ref (ρ 15 0 0)]) (rest := []) C (cL_twins_ok hst hf hr) mlw_258 wwL_twins (by exact dpL_twins) ⟨Nat.le_of_ble_eq_true rfl, Nat.le_of_ble_eq_true rfl⟩ ⟨by show cells + 2 ≤ 601024; omega, by show slots + 12 ≤ 7293033; omega⟩ rfl (Nat.le_of_ble_eq_true rfl) dL_law_1128 ?_
  have C := hC (if r.1 = 0 then r.2.1.toInt64 else lo) od
  generalize hlo : (if r.1 = 0 then r.2.1.toInt64 else lo) = lo9 at C ⊢
  dsimp only
  rw [← ht]
  refine v_istore (lv' := [(6, .int (q.2 14 0 0 0)), (0, .ref b), (1, .ref (ρ 13 0 0)), (2, .ref (ρ 14 0 0)), (3, .ref (ρ 15 0 0)), (4, .ref (ρ 15 1 0)), (5, .int (nI (6 * j)))]) C dL_law_1131 (by decide) rfl ?_
  refine v_aload_n C dL_law_1133 rfl rfl ?_
  refine v_aload_n C dL_law_1134 rfl rfl ?_
  refine v_iload C dL_law_1135 rfl ?_
  refine v_iconst (v := 1) C dL_law_1137 (by decide) ?_
  refine v_iadd C dL_law_1138 ?_
  refine v_sld (k := 1) C hX hbl (hbA lo9 od) rfl (by omega) (by omega) dL_law_1139 ?_
  refine v_callVi (y := yX9_twins) (As := [.int (xs (6 * j + 1))]) (rest := []) C (cX9_twins_ok hg) mlw_260 wyX9_twins bsm_X9 bsc_X9 rfl (by exact dpX9_twins) ⟨Nat.le_of_ble_eq_true rfl, Nat.le_of_ble_eq_true rfl⟩ ⟨rfl, rfl⟩ ⟨by show cells + 2 ≤ 601024; omega, by show slots + 12 ≤ 7293033; omega⟩ rfl (Nat.le_of_ble_eq_true rfl) dL_law_1140 ?_
  refine v_istore (lv' := [(7, .int q.1), (6, .int (q.2 14 0 0 0)), (0, .ref b), (1, .ref (ρ 13 0 0)), (2, .ref (ρ 14 0 0)), (3, .ref (ρ 15 0 0)), (4, .ref (ρ 15 1 0)), (5, .int (nI (6 * j)))]) C dL_law_1143 (by decide) rfl ?_
  refine v_aload_n C dL_law_1145 rfl rfl ?_
  refine v_callVi (y := yX9_thrown) (As := []) (rest := []) (z := (q.2 14 0 0 0, q.2)) C (cX9_thrown_ok rfl) mlw_205 wyX9_thrown bsm_X9 bsc_X9 rfl (by exact dpX9_thrown) ⟨Nat.le_of_ble_eq_true rfl, Nat.le_of_ble_eq_true rfl⟩ ⟨rfl, rfl⟩ ⟨by show cells + 2 ≤ 601024; omega, by show slots + 12 ≤ 7293033; omega⟩ rfl (Nat.le_of_ble_eq_true rfl) dL_law_1146 ?_
  refine v_iload C dL_law_1149 rfl ?_
  refine v_icmp_eq (tgt := 1156) C dL_law_1151 (by decide) (fun _ => ?_) (fun h => absurd rfl h)
  refine v_iload C dL_law_1156 rfl ?_
  refine v_if_ne (tgt := 1173) C dL_law_1158 (by decide) (fun _ => ?_) (fun h0 => ?_)
  · refine v_goto (tgt := 3507) C dL_law_1173 (by decide) ?_
    refine v_sub [2, 3, 4, 5, 6, 7] rfl ?_
    exact v_widen (by show cells + 2 ≤ cells + 9; omega) (by show slots + 12 ≤ slots + 54; omega) (kk q.2 lo9 od hI2)
  · have hr0 : r.1 = 0 := by
      rw [ht] at h0
      rcases hr with h1 | h1 | h1
      · exact h1
      · rw [h1] at h0; exact absurd h0 (by decide)
      · rw [h1] at h0; exact absurd h0 (by decide)
    have e0 := he hr0
    rw [if_pos hr0] at hlo
    refine v_aload_n C dL_law_1161 rfl rfl ?_
    refine v_iconst (v := 0) C dL_law_1162 (by decide) ?_
    refine v_lald C dL_law_1163 ?_
    refine v_iload C dL_law_1164 rfl ?_
    refine v_i2l C dL_law_1166 ?_
    refine v_lcmp C dL_law_1167 ?_
    rw [show bsLc lo9 q.1.toInt64 = 0 by rw [← hlo, e0]; exact bsLc_self _]
    refine v_if_eq (tgt := 1173) C dL_law_1168 (by decide) (fun _ => ?_) (fun h => absurd rfl h)
    refine v_goto (tgt := 3507) C dL_law_1173 (by decide) ?_
    refine v_sub [2, 3, 4, 5, 6, 7] rfl ?_
    exact v_widen (by show cells + 2 ≤ cells + 9; omega) (by show slots + 12 ≤ slots + 54; omega) (kk q.2 lo9 od hI2)
/-- what the pure part owes for sinking -/
def sim_sinking (I : Nat → bsX → Prop) : Prop := ∀ (j : Nat) (X : bsX), j < 512 → I j X → ∃ (r : bsXr) (q : Int32 × bsX), fX8_sinking  X = some r ∧ (r.1 = 0 ∨ r.1 = 1) ∧ fX9_sinking  r.2.2 = some q ∧ q.2 14 0 0 0 = (if r.1 = 1 then (1 : Int32) else (0 : Int32)) ∧ (r.1 = 0 → r.2.1 = q.1) ∧ I (j + 1) q.2
set_option maxHeartbeats 4000000 in
set_option maxRecDepth 100000 in
theorem law_18 {p : Program} {l : Launch} {e : Env} {s : State} {m : MethodId} {below : List Frame} {meth : Method} {c : Code} {ρ : bsR} {cA : Nat → ClassId} {dC : Nat → ClassId} {dI : Nat → Nat → Nat} {b L : Nat} {xs : Nat → Int32} {I : Nat → bsX → Prop} (H : sim_sinking I) (LC : lawC p l s m meth c ρ cA dC dI b L xs) {j : Nat} (hj : 6 * j + 6 ≤ L) {cells slots : Nat} (hc1 : cells + 9 ≤ 601024) (hc2 : slots + 54 ≤ 7293033) {X : bsX} {lo : Int64} {od : UInt64} (hI : I j X) (kk : ∀ (X : bsX) (lo : Int64) (od : UInt64), I (j + 1) X → lawV p l e s m below meth c ρ cA dC dI b (cells + 9) (slots + 54) 3507 [(0, .ref b), (1, .ref (ρ 13 0 0)), (2, .ref (ρ 14 0 0)), (3, .ref (ρ 15 0 0)), (4, .ref (ρ 15 1 0)), (5, .int (nI (6 * j)))] [] X lo od) : lawV p l e s m below meth c ρ cA dC dI b cells slots 1176 [(0, .ref b), (1, .ref (ρ 13 0 0)), (2, .ref (ρ 14 0 0)), (3, .ref (ρ 15 0 0)), (4, .ref (ρ 15 1 0)), (5, .int (nI (6 * j)))] [] X lo od := by
  have hL9 : L ≤ 3072 := LC.2.2.2.2.1
  obtain ⟨hC, hX, hbl, hbA, hL, hst, hfr⟩ := LC
  have C := hC lo od
  obtain ⟨r, q, hf, hr, hg, ht, he, hI2⟩ := H j X  (by omega) hI
  refine v_aload_n C dL_law_1176 rfl rfl ?_
  refine v_aload_n C dL_law_1177 rfl rfl ?_
  refine v_wcallS (y := yL_sinking) (As := [.ref (ρ 13 0 0), .ref (ρ 15 0 0)]) (rest := []) C (cL_sinking_ok hst hf hr) mlw_261 wwL_sinking (by exact dpL_sinking) ⟨Nat.le_of_ble_eq_true rfl, Nat.le_of_ble_eq_true rfl⟩ ⟨by show cells + 1 ≤ 601024; omega, by show slots + 6 ≤ 7293033; omega⟩ rfl (Nat.le_of_ble_eq_true rfl) dL_law_1178 ?_
  have C := hC (if r.1 = 0 then r.2.1.toInt64 else lo) od
  generalize hlo : (if r.1 = 0 then r.2.1.toInt64 else lo) = lo9 at C ⊢
  dsimp only
  rw [← ht]
  refine v_istore (lv' := [(6, .int (q.2 14 0 0 0)), (0, .ref b), (1, .ref (ρ 13 0 0)), (2, .ref (ρ 14 0 0)), (3, .ref (ρ 15 0 0)), (4, .ref (ρ 15 1 0)), (5, .int (nI (6 * j)))]) C dL_law_1181 (by decide) rfl ?_
  refine v_aload_n C dL_law_1183 rfl rfl ?_
  refine v_callVi (y := yX9_sinking) (As := []) (rest := []) C (cX9_sinking_ok hg) mlw_263 wyX9_sinking bsm_X9 bsc_X9 rfl (by exact dpX9_sinking) ⟨Nat.le_of_ble_eq_true rfl, Nat.le_of_ble_eq_true rfl⟩ ⟨rfl, rfl⟩ ⟨by show cells + 1 ≤ 601024; omega, by show slots + 6 ≤ 7293033; omega⟩ rfl (Nat.le_of_ble_eq_true rfl) dL_law_1184 ?_
  refine v_istore (lv' := [(7, .int q.1), (6, .int (q.2 14 0 0 0)), (0, .ref b), (1, .ref (ρ 13 0 0)), (2, .ref (ρ 14 0 0)), (3, .ref (ρ 15 0 0)), (4, .ref (ρ 15 1 0)), (5, .int (nI (6 * j)))]) C dL_law_1187 (by decide) rfl ?_
  refine v_aload_n C dL_law_1189 rfl rfl ?_
  refine v_callVi (y := yX9_thrown) (As := []) (rest := []) (z := (q.2 14 0 0 0, q.2)) C (cX9_thrown_ok rfl) mlw_205 wyX9_thrown bsm_X9 bsc_X9 rfl (by exact dpX9_thrown) ⟨Nat.le_of_ble_eq_true rfl, Nat.le_of_ble_eq_true rfl⟩ ⟨rfl, rfl⟩ ⟨by show cells + 1 ≤ 601024; omega, by show slots + 6 ≤ 7293033; omega⟩ rfl (Nat.le_of_ble_eq_true rfl) dL_law_1190 ?_
  refine v_iload C dL_law_1193 rfl ?_
  refine v_icmp_eq (tgt := 1200) C dL_law_1195 (by decide) (fun _ => ?_) (fun h => absurd rfl h)
  refine v_iload C dL_law_1200 rfl ?_
  refine v_if_ne (tgt := 1217) C dL_law_1202 (by decide) (fun _ => ?_) (fun h0 => ?_)
  · refine v_goto (tgt := 3507) C dL_law_1217 (by decide) ?_
    refine v_sub [2, 3, 4, 5, 6, 7] rfl ?_
    exact v_widen (by show cells + 1 ≤ cells + 9; omega) (by show slots + 6 ≤ slots + 54; omega) (kk q.2 lo9 od hI2)
  · have hr0 : r.1 = 0 := by
      rw [ht] at h0
      rcases hr with h1 | h1
      · exact h1
      · rw [h1] at h0; exact absurd h0 (by decide)
    have e0 := he hr0
    rw [if_pos hr0] at hlo
    refine v_aload_n C dL_law_1205 rfl rfl ?_
    refine v_iconst (v := 0) C dL_law_1206 (by decide) ?_
    refine v_lald C dL_law_1207 ?_
    refine v_iload C dL_law_1208 rfl ?_
    refine v_i2l C dL_law_1210 ?_
    refine v_lcmp C dL_law_1211 ?_
    rw [show bsLc lo9 q.1.toInt64 = 0 by rw [← hlo, e0]; exact bsLc_self _]
    refine v_if_eq (tgt := 1217) C dL_law_1212 (by decide) (fun _ => ?_) (fun h => absurd rfl h)
    refine v_goto (tgt := 3507) C dL_law_1217 (by decide) ?_
    refine v_sub [2, 3, 4, 5, 6, 7] rfl ?_
    exact v_widen (by show cells + 1 ≤ cells + 9; omega) (by show slots + 6 ≤ slots + 54; omega) (kk q.2 lo9 od hI2)
/-- what the pure part owes for floorWith -/
def sim_floorWith (I : Nat → bsX → Prop) : Prop := ∀ (j : Nat) (X : bsX) (a1 : Int32), j < 512 → I j X → ∃ (r : bsXr) (q : Int32 × bsX), fX8_floorWith a1 X = some r ∧ (r.1 = 0 ∨ r.1 = 1 ∨ r.1 = 2) ∧ fX9_floorWith a1 r.2.2 = some q ∧ q.2 14 0 0 0 = (if r.1 = 1 then (1 : Int32) else (if r.1 = 2 then (2 : Int32) else (0 : Int32))) ∧ (r.1 = 0 → r.2.1 = q.1) ∧ I (j + 1) q.2
set_option maxHeartbeats 4000000 in
set_option maxRecDepth 100000 in
theorem law_19 {p : Program} {l : Launch} {e : Env} {s : State} {m : MethodId} {below : List Frame} {meth : Method} {c : Code} {ρ : bsR} {cA : Nat → ClassId} {dC : Nat → ClassId} {dI : Nat → Nat → Nat} {b L : Nat} {xs : Nat → Int32} {I : Nat → bsX → Prop} (H : sim_floorWith I) (LC : lawC p l s m meth c ρ cA dC dI b L xs) {j : Nat} (hj : 6 * j + 6 ≤ L) {cells slots : Nat} (hc1 : cells + 9 ≤ 601024) (hc2 : slots + 54 ≤ 7293033) {X : bsX} {lo : Int64} {od : UInt64} (hI : I j X) (kk : ∀ (X : bsX) (lo : Int64) (od : UInt64), I (j + 1) X → lawV p l e s m below meth c ρ cA dC dI b (cells + 9) (slots + 54) 3507 [(0, .ref b), (1, .ref (ρ 13 0 0)), (2, .ref (ρ 14 0 0)), (3, .ref (ρ 15 0 0)), (4, .ref (ρ 15 1 0)), (5, .int (nI (6 * j)))] [] X lo od) : lawV p l e s m below meth c ρ cA dC dI b cells slots 1220 [(0, .ref b), (1, .ref (ρ 13 0 0)), (2, .ref (ρ 14 0 0)), (3, .ref (ρ 15 0 0)), (4, .ref (ρ 15 1 0)), (5, .int (nI (6 * j)))] [] X lo od := by
  have hL9 : L ≤ 3072 := LC.2.2.2.2.1
  obtain ⟨hC, hX, hbl, hbA, hL, hst, hfr⟩ := LC
  have C := hC lo od
  obtain ⟨r, q, hf, hr, hg, ht, he, hI2⟩ := H j X (xs (6 * j + 1)) (by omega) hI
  refine v_aload_n C dL_law_1220 rfl rfl ?_
  refine v_aload_n C dL_law_1221 rfl rfl ?_
  refine v_iload C dL_law_1222 rfl ?_
  refine v_iconst (v := 1) C dL_law_1224 (by decide) ?_
  refine v_iadd C dL_law_1225 ?_
  refine v_sld (k := 1) C hX hbl (hbA lo od) rfl (by omega) (by omega) dL_law_1226 ?_
  refine v_aload_n C dL_law_1227 rfl rfl ?_
  refine v_wcallS (y := yL_floorWith) (As := [.ref (ρ 13 0 0), .int (xs (6 * j + 1)), .ref (ρ 15 0 0)]) (rest := []) C (cL_floorWith_ok hst hf hr) mlw_264 wwL_floorWith (by exact dpL_floorWith) ⟨Nat.le_of_ble_eq_true rfl, Nat.le_of_ble_eq_true rfl⟩ ⟨by show cells + 2 ≤ 601024; omega, by show slots + 12 ≤ 7293033; omega⟩ rfl (Nat.le_of_ble_eq_true rfl) dL_law_1228 ?_
  have C := hC (if r.1 = 0 then r.2.1.toInt64 else lo) od
  generalize hlo : (if r.1 = 0 then r.2.1.toInt64 else lo) = lo9 at C ⊢
  dsimp only
  rw [← ht]
  refine v_istore (lv' := [(6, .int (q.2 14 0 0 0)), (0, .ref b), (1, .ref (ρ 13 0 0)), (2, .ref (ρ 14 0 0)), (3, .ref (ρ 15 0 0)), (4, .ref (ρ 15 1 0)), (5, .int (nI (6 * j)))]) C dL_law_1231 (by decide) rfl ?_
  refine v_aload_n C dL_law_1233 rfl rfl ?_
  refine v_aload_n C dL_law_1234 rfl rfl ?_
  refine v_iload C dL_law_1235 rfl ?_
  refine v_iconst (v := 1) C dL_law_1237 (by decide) ?_
  refine v_iadd C dL_law_1238 ?_
  refine v_sld (k := 1) C hX hbl (hbA lo9 od) rfl (by omega) (by omega) dL_law_1239 ?_
  refine v_callVi (y := yX9_floorWith) (As := [.int (xs (6 * j + 1))]) (rest := []) C (cX9_floorWith_ok hg) mlw_266 wyX9_floorWith bsm_X9 bsc_X9 rfl (by exact dpX9_floorWith) ⟨Nat.le_of_ble_eq_true rfl, Nat.le_of_ble_eq_true rfl⟩ ⟨rfl, rfl⟩ ⟨by show cells + 2 ≤ 601024; omega, by show slots + 12 ≤ 7293033; omega⟩ rfl (Nat.le_of_ble_eq_true rfl) dL_law_1240 ?_
  refine v_istore (lv' := [(7, .int q.1), (6, .int (q.2 14 0 0 0)), (0, .ref b), (1, .ref (ρ 13 0 0)), (2, .ref (ρ 14 0 0)), (3, .ref (ρ 15 0 0)), (4, .ref (ρ 15 1 0)), (5, .int (nI (6 * j)))]) C dL_law_1243 (by decide) rfl ?_
  refine v_aload_n C dL_law_1245 rfl rfl ?_
  refine v_callVi (y := yX9_thrown) (As := []) (rest := []) (z := (q.2 14 0 0 0, q.2)) C (cX9_thrown_ok rfl) mlw_205 wyX9_thrown bsm_X9 bsc_X9 rfl (by exact dpX9_thrown) ⟨Nat.le_of_ble_eq_true rfl, Nat.le_of_ble_eq_true rfl⟩ ⟨rfl, rfl⟩ ⟨by show cells + 2 ≤ 601024; omega, by show slots + 12 ≤ 7293033; omega⟩ rfl (Nat.le_of_ble_eq_true rfl) dL_law_1246 ?_
  refine v_iload C dL_law_1249 rfl ?_
  refine v_icmp_eq (tgt := 1256) C dL_law_1251 (by decide) (fun _ => ?_) (fun h => absurd rfl h)
  refine v_iload C dL_law_1256 rfl ?_
  refine v_if_ne (tgt := 1273) C dL_law_1258 (by decide) (fun _ => ?_) (fun h0 => ?_)
  · refine v_goto (tgt := 3507) C dL_law_1273 (by decide) ?_
    refine v_sub [2, 3, 4, 5, 6, 7] rfl ?_
    exact v_widen (by show cells + 2 ≤ cells + 9; omega) (by show slots + 12 ≤ slots + 54; omega) (kk q.2 lo9 od hI2)
  · have hr0 : r.1 = 0 := by
      rw [ht] at h0
      rcases hr with h1 | h1 | h1
      · exact h1
      · rw [h1] at h0; exact absurd h0 (by decide)
      · rw [h1] at h0; exact absurd h0 (by decide)
    have e0 := he hr0
    rw [if_pos hr0] at hlo
    refine v_aload_n C dL_law_1261 rfl rfl ?_
    refine v_iconst (v := 0) C dL_law_1262 (by decide) ?_
    refine v_lald C dL_law_1263 ?_
    refine v_iload C dL_law_1264 rfl ?_
    refine v_i2l C dL_law_1266 ?_
    refine v_lcmp C dL_law_1267 ?_
    rw [show bsLc lo9 q.1.toInt64 = 0 by rw [← hlo, e0]; exact bsLc_self _]
    refine v_if_eq (tgt := 1273) C dL_law_1268 (by decide) (fun _ => ?_) (fun h => absurd rfl h)
    refine v_goto (tgt := 3507) C dL_law_1273 (by decide) ?_
    refine v_sub [2, 3, 4, 5, 6, 7] rfl ?_
    exact v_widen (by show cells + 2 ≤ cells + 9; omega) (by show slots + 12 ≤ slots + 54; omega) (kk q.2 lo9 od hI2)
/-- what the pure part owes for mayHold -/
def sim_mayHold (I : Nat → bsX → Prop) : Prop := ∀ (j : Nat) (X : bsX) (a1 : Int32), j < 512 → I j X → ∃ (r : bsXr) (q : Int32 × bsX), fX8_mayHold a1 X = some r ∧ (r.1 = 0 ∨ r.1 = 1 ∨ r.1 = 2) ∧ fX9_mayHold a1 r.2.2 = some q ∧ q.2 14 0 0 0 = (if r.1 = 1 then (1 : Int32) else (if r.1 = 2 then (2 : Int32) else (0 : Int32))) ∧ (r.1 = 0 → r.2.1 = q.1) ∧ I (j + 1) q.2
set_option maxHeartbeats 4000000 in
set_option maxRecDepth 100000 in
theorem law_20 {p : Program} {l : Launch} {e : Env} {s : State} {m : MethodId} {below : List Frame} {meth : Method} {c : Code} {ρ : bsR} {cA : Nat → ClassId} {dC : Nat → ClassId} {dI : Nat → Nat → Nat} {b L : Nat} {xs : Nat → Int32} {I : Nat → bsX → Prop} (H : sim_mayHold I) (LC : lawC p l s m meth c ρ cA dC dI b L xs) {j : Nat} (hj : 6 * j + 6 ≤ L) {cells slots : Nat} (hc1 : cells + 9 ≤ 601024) (hc2 : slots + 54 ≤ 7293033) {X : bsX} {lo : Int64} {od : UInt64} (hI : I j X) (kk : ∀ (X : bsX) (lo : Int64) (od : UInt64), I (j + 1) X → lawV p l e s m below meth c ρ cA dC dI b (cells + 9) (slots + 54) 3507 [(0, .ref b), (1, .ref (ρ 13 0 0)), (2, .ref (ρ 14 0 0)), (3, .ref (ρ 15 0 0)), (4, .ref (ρ 15 1 0)), (5, .int (nI (6 * j)))] [] X lo od) : lawV p l e s m below meth c ρ cA dC dI b cells slots 1276 [(0, .ref b), (1, .ref (ρ 13 0 0)), (2, .ref (ρ 14 0 0)), (3, .ref (ρ 15 0 0)), (4, .ref (ρ 15 1 0)), (5, .int (nI (6 * j)))] [] X lo od := by
  have hL9 : L ≤ 3072 := LC.2.2.2.2.1
  obtain ⟨hC, hX, hbl, hbA, hL, hst, hfr⟩ := LC
  have C := hC lo od
  obtain ⟨r, q, hf, hr, hg, ht, he, hI2⟩ := H j X (xs (6 * j + 1)) (by omega) hI
  refine v_aload_n C dL_law_1276 rfl rfl ?_
  refine v_aload_n C dL_law_1277 rfl rfl ?_
  refine v_iload C dL_law_1278 rfl ?_
  refine v_iconst (v := 1) C dL_law_1280 (by decide) ?_
  refine v_iadd C dL_law_1281 ?_
  refine v_sld (k := 1) C hX hbl (hbA lo od) rfl (by omega) (by omega) dL_law_1282 ?_
  refine v_aload_n C dL_law_1283 rfl rfl ?_
  refine v_wcallS (y := yL_mayHold) (As := [.ref (ρ 13 0 0), .int (xs (6 * j + 1)), .ref (ρ 15 0 0)]) (rest := []) C (cL_mayHold_ok hst hf hr) mlw_267 wwL_mayHold (by exact dpL_mayHold) ⟨Nat.le_of_ble_eq_true rfl, Nat.le_of_ble_eq_true rfl⟩ ⟨by show cells + 2 ≤ 601024; omega, by show slots + 12 ≤ 7293033; omega⟩ rfl (Nat.le_of_ble_eq_true rfl) dL_law_1284 ?_
  have C := hC (if r.1 = 0 then (if r.2.1 = 0 then (0 : Int64) else (1 : Int64)) else lo) od
  generalize hlo : (if r.1 = 0 then (if r.2.1 = 0 then (0 : Int64) else (1 : Int64)) else lo) = lo9 at C ⊢
  dsimp only
  rw [← ht]
  refine v_istore (lv' := [(6, .int (q.2 14 0 0 0)), (0, .ref b), (1, .ref (ρ 13 0 0)), (2, .ref (ρ 14 0 0)), (3, .ref (ρ 15 0 0)), (4, .ref (ρ 15 1 0)), (5, .int (nI (6 * j)))]) C dL_law_1287 (by decide) rfl ?_
  refine v_aload_n C dL_law_1289 rfl rfl ?_
  refine v_aload_n C dL_law_1290 rfl rfl ?_
  refine v_iload C dL_law_1291 rfl ?_
  refine v_iconst (v := 1) C dL_law_1293 (by decide) ?_
  refine v_iadd C dL_law_1294 ?_
  refine v_sld (k := 1) C hX hbl (hbA lo9 od) rfl (by omega) (by omega) dL_law_1295 ?_
  refine v_callVi (y := yX9_mayHold) (As := [.int (xs (6 * j + 1))]) (rest := []) C (cX9_mayHold_ok hg) mlw_269 wyX9_mayHold bsm_X9 bsc_X9 rfl (by exact dpX9_mayHold) ⟨Nat.le_of_ble_eq_true rfl, Nat.le_of_ble_eq_true rfl⟩ ⟨rfl, rfl⟩ ⟨by show cells + 2 ≤ 601024; omega, by show slots + 12 ≤ 7293033; omega⟩ rfl (Nat.le_of_ble_eq_true rfl) dL_law_1296 ?_
  refine v_istore (lv' := [(7, .int q.1), (6, .int (q.2 14 0 0 0)), (0, .ref b), (1, .ref (ρ 13 0 0)), (2, .ref (ρ 14 0 0)), (3, .ref (ρ 15 0 0)), (4, .ref (ρ 15 1 0)), (5, .int (nI (6 * j)))]) C dL_law_1299 (by decide) rfl ?_
  refine v_aload_n C dL_law_1301 rfl rfl ?_
  refine v_callVi (y := yX9_thrown) (As := []) (rest := []) (z := (q.2 14 0 0 0, q.2)) C (cX9_thrown_ok rfl) mlw_205 wyX9_thrown bsm_X9 bsc_X9 rfl (by exact dpX9_thrown) ⟨Nat.le_of_ble_eq_true rfl, Nat.le_of_ble_eq_true rfl⟩ ⟨rfl, rfl⟩ ⟨by show cells + 2 ≤ 601024; omega, by show slots + 12 ≤ 7293033; omega⟩ rfl (Nat.le_of_ble_eq_true rfl) dL_law_1302 ?_
  refine v_iload C dL_law_1305 rfl ?_
  refine v_icmp_eq (tgt := 1312) C dL_law_1307 (by decide) (fun _ => ?_) (fun h => absurd rfl h)
  refine v_iload C dL_law_1312 rfl ?_
  refine v_if_ne (tgt := 1336) C dL_law_1314 (by decide) (fun _ => ?_) (fun h0 => ?_)
  · refine v_goto (tgt := 3507) C dL_law_1336 (by decide) ?_
    refine v_sub [2, 3, 4, 5, 6, 7] rfl ?_
    exact v_widen (by show cells + 2 ≤ cells + 9; omega) (by show slots + 12 ≤ slots + 54; omega) (kk q.2 lo9 od hI2)
  · have hr0 : r.1 = 0 := by
      rw [ht] at h0
      rcases hr with h1 | h1 | h1
      · exact h1
      · rw [h1] at h0; exact absurd h0 (by decide)
      · rw [h1] at h0; exact absurd h0 (by decide)
    have e0 := he hr0
    rw [if_pos hr0] at hlo
    refine v_aload_n C dL_law_1317 rfl rfl ?_
    refine v_iconst (v := 0) C dL_law_1318 (by decide) ?_
    refine v_lald C dL_law_1319 ?_
    refine v_iload C dL_law_1320 rfl ?_
    refine v_if_eq (tgt := 1329) C dL_law_1322 (by decide) (fun h7 => ?_) (fun h7 => ?_)
    · refine v_lconst (v := 0) C dL_law_1329 (by decide) ?_
      refine v_lcmp C dL_law_1330 ?_
      rw [show bsLc lo9 (0 : Int64) = 0 by rw [← hlo, e0, if_pos h7]; exact bsLc_self _]
      refine v_if_eq (tgt := 1336) C dL_law_1331 (by decide) (fun _ => ?_) (fun h => absurd rfl h)
      refine v_goto (tgt := 3507) C dL_law_1336 (by decide) ?_
      refine v_sub [2, 3, 4, 5, 6, 7] rfl ?_
      exact v_widen (by show cells + 2 ≤ cells + 9; omega) (by show slots + 12 ≤ slots + 54; omega) (kk q.2 lo9 od hI2)
    · refine v_lconst (v := 1) C dL_law_1325 (by decide) ?_
      refine v_goto (tgt := 1330) C dL_law_1326 (by decide) ?_
      refine v_lcmp C dL_law_1330 ?_
      rw [show bsLc lo9 (1 : Int64) = 0 by rw [← hlo, e0, if_neg h7]; exact bsLc_self _]
      refine v_if_eq (tgt := 1336) C dL_law_1331 (by decide) (fun _ => ?_) (fun h => absurd rfl h)
      refine v_goto (tgt := 3507) C dL_law_1336 (by decide) ?_
      refine v_sub [2, 3, 4, 5, 6, 7] rfl ?_
      exact v_widen (by show cells + 2 ≤ cells + 9; omega) (by show slots + 12 ≤ slots + 54; omega) (kk q.2 lo9 od hI2)
/-- what the pure part owes for mostBoots -/
def sim_mostBoots (I : Nat → bsX → Prop) : Prop := ∀ (j : Nat) (X : bsX), j < 512 → I j X → ∃ (r : bsXr) (q : Int32 × bsX), fX8_mostBoots  X = some r ∧ (r.1 = 0 ∨ r.1 = 1) ∧ fX9_mostBoots  r.2.2 = some q ∧ q.2 14 0 0 0 = (if r.1 = 1 then (1 : Int32) else (0 : Int32)) ∧ (r.1 = 0 → r.2.1 = q.1) ∧ I (j + 1) q.2
set_option maxHeartbeats 4000000 in
set_option maxRecDepth 100000 in
theorem law_21 {p : Program} {l : Launch} {e : Env} {s : State} {m : MethodId} {below : List Frame} {meth : Method} {c : Code} {ρ : bsR} {cA : Nat → ClassId} {dC : Nat → ClassId} {dI : Nat → Nat → Nat} {b L : Nat} {xs : Nat → Int32} {I : Nat → bsX → Prop} (H : sim_mostBoots I) (LC : lawC p l s m meth c ρ cA dC dI b L xs) {j : Nat} (hj : 6 * j + 6 ≤ L) {cells slots : Nat} (hc1 : cells + 9 ≤ 601024) (hc2 : slots + 54 ≤ 7293033) {X : bsX} {lo : Int64} {od : UInt64} (hI : I j X) (kk : ∀ (X : bsX) (lo : Int64) (od : UInt64), I (j + 1) X → lawV p l e s m below meth c ρ cA dC dI b (cells + 9) (slots + 54) 3507 [(0, .ref b), (1, .ref (ρ 13 0 0)), (2, .ref (ρ 14 0 0)), (3, .ref (ρ 15 0 0)), (4, .ref (ρ 15 1 0)), (5, .int (nI (6 * j)))] [] X lo od) : lawV p l e s m below meth c ρ cA dC dI b cells slots 1339 [(0, .ref b), (1, .ref (ρ 13 0 0)), (2, .ref (ρ 14 0 0)), (3, .ref (ρ 15 0 0)), (4, .ref (ρ 15 1 0)), (5, .int (nI (6 * j)))] [] X lo od := by
  have hL9 : L ≤ 3072 := LC.2.2.2.2.1
  obtain ⟨hC, hX, hbl, hbA, hL, hst, hfr⟩ := LC
  have C := hC lo od
  obtain ⟨r, q, hf, hr, hg, ht, he, hI2⟩ := H j X  (by omega) hI
  refine v_aload_n C dL_law_1339 rfl rfl ?_
  refine v_aload_n C dL_law_1340 rfl rfl ?_
  refine v_wcallS (y := yL_mostBoots) (As := [.ref (ρ 13 0 0), .ref (ρ 15 0 0)]) (rest := []) C (cL_mostBoots_ok hst hf hr) mlw_270 wwL_mostBoots (by exact dpL_mostBoots) ⟨Nat.le_of_ble_eq_true rfl, Nat.le_of_ble_eq_true rfl⟩ ⟨by show cells + 1 ≤ 601024; omega, by show slots + 6 ≤ 7293033; omega⟩ rfl (Nat.le_of_ble_eq_true rfl) dL_law_1341 ?_
  have C := hC (if r.1 = 0 then r.2.1.toInt64 else lo) od
  generalize hlo : (if r.1 = 0 then r.2.1.toInt64 else lo) = lo9 at C ⊢
  dsimp only
  rw [← ht]
  refine v_istore (lv' := [(6, .int (q.2 14 0 0 0)), (0, .ref b), (1, .ref (ρ 13 0 0)), (2, .ref (ρ 14 0 0)), (3, .ref (ρ 15 0 0)), (4, .ref (ρ 15 1 0)), (5, .int (nI (6 * j)))]) C dL_law_1344 (by decide) rfl ?_
  refine v_aload_n C dL_law_1346 rfl rfl ?_
  refine v_callVi (y := yX9_mostBoots) (As := []) (rest := []) C (cX9_mostBoots_ok hg) mlw_272 wyX9_mostBoots bsm_X9 bsc_X9 rfl (by exact dpX9_mostBoots) ⟨Nat.le_of_ble_eq_true rfl, Nat.le_of_ble_eq_true rfl⟩ ⟨rfl, rfl⟩ ⟨by show cells + 1 ≤ 601024; omega, by show slots + 6 ≤ 7293033; omega⟩ rfl (Nat.le_of_ble_eq_true rfl) dL_law_1347 ?_
  refine v_istore (lv' := [(7, .int q.1), (6, .int (q.2 14 0 0 0)), (0, .ref b), (1, .ref (ρ 13 0 0)), (2, .ref (ρ 14 0 0)), (3, .ref (ρ 15 0 0)), (4, .ref (ρ 15 1 0)), (5, .int (nI (6 * j)))]) C dL_law_1350 (by decide) rfl ?_
  refine v_aload_n C dL_law_1352 rfl rfl ?_
  refine v_callVi (y := yX9_thrown) (As := []) (rest := []) (z := (q.2 14 0 0 0, q.2)) C (cX9_thrown_ok rfl) mlw_205 wyX9_thrown bsm_X9 bsc_X9 rfl (by exact dpX9_thrown) ⟨Nat.le_of_ble_eq_true rfl, Nat.le_of_ble_eq_true rfl⟩ ⟨rfl, rfl⟩ ⟨by show cells + 1 ≤ 601024; omega, by show slots + 6 ≤ 7293033; omega⟩ rfl (Nat.le_of_ble_eq_true rfl) dL_law_1353 ?_
  refine v_iload C dL_law_1356 rfl ?_
  refine v_icmp_eq (tgt := 1363) C dL_law_1358 (by decide) (fun _ => ?_) (fun h => absurd rfl h)
  refine v_iload C dL_law_1363 rfl ?_
  refine v_if_ne (tgt := 1380) C dL_law_1365 (by decide) (fun _ => ?_) (fun h0 => ?_)
  · refine v_goto (tgt := 3507) C dL_law_1380 (by decide) ?_
    refine v_sub [2, 3, 4, 5, 6, 7] rfl ?_
    exact v_widen (by show cells + 1 ≤ cells + 9; omega) (by show slots + 6 ≤ slots + 54; omega) (kk q.2 lo9 od hI2)
  · have hr0 : r.1 = 0 := by
      rw [ht] at h0
      rcases hr with h1 | h1
      · exact h1
      · rw [h1] at h0; exact absurd h0 (by decide)
    have e0 := he hr0
    rw [if_pos hr0] at hlo
    refine v_aload_n C dL_law_1368 rfl rfl ?_
    refine v_iconst (v := 0) C dL_law_1369 (by decide) ?_
    refine v_lald C dL_law_1370 ?_
    refine v_iload C dL_law_1371 rfl ?_
    refine v_i2l C dL_law_1373 ?_
    refine v_lcmp C dL_law_1374 ?_
    rw [show bsLc lo9 q.1.toInt64 = 0 by rw [← hlo, e0]; exact bsLc_self _]
    refine v_if_eq (tgt := 1380) C dL_law_1375 (by decide) (fun _ => ?_) (fun h => absurd rfl h)
    refine v_goto (tgt := 3507) C dL_law_1380 (by decide) ?_
    refine v_sub [2, 3, 4, 5, 6, 7] rfl ?_
    exact v_widen (by show cells + 1 ≤ cells + 9; omega) (by show slots + 6 ≤ slots + 54; omega) (kk q.2 lo9 od hI2)
/-- what the pure part owes for bootsOf -/
def sim_bootsOf (I : Nat → bsX → Prop) : Prop := ∀ (j : Nat) (X : bsX) (a1 : Int32), j < 512 → I j X → ∃ (r : bsXr) (q : Int32 × bsX), fX8_bootsOf a1 X = some r ∧ (r.1 = 0 ∨ r.1 = 1 ∨ r.1 = 2) ∧ fX9_bootsOf a1 r.2.2 = some q ∧ q.2 14 0 0 0 = (if r.1 = 1 then (1 : Int32) else (if r.1 = 2 then (2 : Int32) else (0 : Int32))) ∧ (r.1 = 0 → r.2.1 = q.1) ∧ I (j + 1) q.2
set_option maxHeartbeats 4000000 in
set_option maxRecDepth 100000 in
theorem law_22 {p : Program} {l : Launch} {e : Env} {s : State} {m : MethodId} {below : List Frame} {meth : Method} {c : Code} {ρ : bsR} {cA : Nat → ClassId} {dC : Nat → ClassId} {dI : Nat → Nat → Nat} {b L : Nat} {xs : Nat → Int32} {I : Nat → bsX → Prop} (H : sim_bootsOf I) (LC : lawC p l s m meth c ρ cA dC dI b L xs) {j : Nat} (hj : 6 * j + 6 ≤ L) {cells slots : Nat} (hc1 : cells + 9 ≤ 601024) (hc2 : slots + 54 ≤ 7293033) {X : bsX} {lo : Int64} {od : UInt64} (hI : I j X) (kk : ∀ (X : bsX) (lo : Int64) (od : UInt64), I (j + 1) X → lawV p l e s m below meth c ρ cA dC dI b (cells + 9) (slots + 54) 3507 [(0, .ref b), (1, .ref (ρ 13 0 0)), (2, .ref (ρ 14 0 0)), (3, .ref (ρ 15 0 0)), (4, .ref (ρ 15 1 0)), (5, .int (nI (6 * j)))] [] X lo od) : lawV p l e s m below meth c ρ cA dC dI b cells slots 1383 [(0, .ref b), (1, .ref (ρ 13 0 0)), (2, .ref (ρ 14 0 0)), (3, .ref (ρ 15 0 0)), (4, .ref (ρ 15 1 0)), (5, .int (nI (6 * j)))] [] X lo od := by
  have hL9 : L ≤ 3072 := LC.2.2.2.2.1
  obtain ⟨hC, hX, hbl, hbA, hL, hst, hfr⟩ := LC
  have C := hC lo od
  obtain ⟨r, q, hf, hr, hg, ht, he, hI2⟩ := H j X (xs (6 * j + 1)) (by omega) hI
  refine v_aload_n C dL_law_1383 rfl rfl ?_
  refine v_aload_n C dL_law_1384 rfl rfl ?_
  refine v_iload C dL_law_1385 rfl ?_
  refine v_iconst (v := 1) C dL_law_1387 (by decide) ?_
  refine v_iadd C dL_law_1388 ?_
  refine v_sld (k := 1) C hX hbl (hbA lo od) rfl (by omega) (by omega) dL_law_1389 ?_
  refine v_aload_n C dL_law_1390 rfl rfl ?_
  refine v_wcallS (y := yL_bootsOf) (As := [.ref (ρ 13 0 0), .int (xs (6 * j + 1)), .ref (ρ 15 0 0)]) (rest := []) C (cL_bootsOf_ok hst hf hr) mlw_273 wwL_bootsOf (by exact dpL_bootsOf) ⟨Nat.le_of_ble_eq_true rfl, Nat.le_of_ble_eq_true rfl⟩ ⟨by show cells + 2 ≤ 601024; omega, by show slots + 12 ≤ 7293033; omega⟩ rfl (Nat.le_of_ble_eq_true rfl) dL_law_1391 ?_
  have C := hC (if r.1 = 0 then r.2.1.toInt64 else lo) od
  generalize hlo : (if r.1 = 0 then r.2.1.toInt64 else lo) = lo9 at C ⊢
  dsimp only
  rw [← ht]
  refine v_istore (lv' := [(6, .int (q.2 14 0 0 0)), (0, .ref b), (1, .ref (ρ 13 0 0)), (2, .ref (ρ 14 0 0)), (3, .ref (ρ 15 0 0)), (4, .ref (ρ 15 1 0)), (5, .int (nI (6 * j)))]) C dL_law_1394 (by decide) rfl ?_
  refine v_aload_n C dL_law_1396 rfl rfl ?_
  refine v_aload_n C dL_law_1397 rfl rfl ?_
  refine v_iload C dL_law_1398 rfl ?_
  refine v_iconst (v := 1) C dL_law_1400 (by decide) ?_
  refine v_iadd C dL_law_1401 ?_
  refine v_sld (k := 1) C hX hbl (hbA lo9 od) rfl (by omega) (by omega) dL_law_1402 ?_
  refine v_callVi (y := yX9_bootsOf) (As := [.int (xs (6 * j + 1))]) (rest := []) C (cX9_bootsOf_ok hg) mlw_275 wyX9_bootsOf bsm_X9 bsc_X9 rfl (by exact dpX9_bootsOf) ⟨Nat.le_of_ble_eq_true rfl, Nat.le_of_ble_eq_true rfl⟩ ⟨rfl, rfl⟩ ⟨by show cells + 2 ≤ 601024; omega, by show slots + 12 ≤ 7293033; omega⟩ rfl (Nat.le_of_ble_eq_true rfl) dL_law_1403 ?_
  refine v_istore (lv' := [(7, .int q.1), (6, .int (q.2 14 0 0 0)), (0, .ref b), (1, .ref (ρ 13 0 0)), (2, .ref (ρ 14 0 0)), (3, .ref (ρ 15 0 0)), (4, .ref (ρ 15 1 0)), (5, .int (nI (6 * j)))]) C dL_law_1406 (by decide) rfl ?_
  refine v_aload_n C dL_law_1408 rfl rfl ?_
  refine v_callVi (y := yX9_thrown) (As := []) (rest := []) (z := (q.2 14 0 0 0, q.2)) C (cX9_thrown_ok rfl) mlw_205 wyX9_thrown bsm_X9 bsc_X9 rfl (by exact dpX9_thrown) ⟨Nat.le_of_ble_eq_true rfl, Nat.le_of_ble_eq_true rfl⟩ ⟨rfl, rfl⟩ ⟨by show cells + 2 ≤ 601024; omega, by show slots + 12 ≤ 7293033; omega⟩ rfl (Nat.le_of_ble_eq_true rfl) dL_law_1409 ?_
  refine v_iload C dL_law_1412 rfl ?_
  refine v_icmp_eq (tgt := 1419) C dL_law_1414 (by decide) (fun _ => ?_) (fun h => absurd rfl h)
  refine v_iload C dL_law_1419 rfl ?_
  refine v_if_ne (tgt := 1436) C dL_law_1421 (by decide) (fun _ => ?_) (fun h0 => ?_)
  · refine v_goto (tgt := 3507) C dL_law_1436 (by decide) ?_
    refine v_sub [2, 3, 4, 5, 6, 7] rfl ?_
    exact v_widen (by show cells + 2 ≤ cells + 9; omega) (by show slots + 12 ≤ slots + 54; omega) (kk q.2 lo9 od hI2)
  · have hr0 : r.1 = 0 := by
      rw [ht] at h0
      rcases hr with h1 | h1 | h1
      · exact h1
      · rw [h1] at h0; exact absurd h0 (by decide)
      · rw [h1] at h0; exact absurd h0 (by decide)
    have e0 := he hr0
    rw [if_pos hr0] at hlo
    refine v_aload_n C dL_law_1424 rfl rfl ?_
    refine v_iconst (v := 0) C dL_law_1425 (by decide) ?_
    refine v_lald C dL_law_1426 ?_
    refine v_iload C dL_law_1427 rfl ?_
    refine v_i2l C dL_law_1429 ?_
    refine v_lcmp C dL_law_1430 ?_
    rw [show bsLc lo9 q.1.toInt64 = 0 by rw [← hlo, e0]; exact bsLc_self _]
    refine v_if_eq (tgt := 1436) C dL_law_1431 (by decide) (fun _ => ?_) (fun h => absurd rfl h)
    refine v_goto (tgt := 3507) C dL_law_1436 (by decide) ?_
    refine v_sub [2, 3, 4, 5, 6, 7] rfl ?_
    exact v_widen (by show cells + 2 ≤ cells + 9; omega) (by show slots + 12 ≤ slots + 54; omega) (kk q.2 lo9 od hI2)
/-- what the pure part owes for stateIn -/
def sim_stateIn (I : Nat → bsX → Prop) : Prop := ∀ (j : Nat) (X : bsX) (a1 : Int32), j < 512 → I j X → ∃ (r : bsXr) (q : Int32 × bsX), fX8_stateIn a1 X = some r ∧ (r.1 = 0 ∨ r.1 = 1 ∨ r.1 = 3) ∧ fX9_stateIn a1 r.2.2 = some q ∧ q.2 14 0 0 0 = (if r.1 = 1 then (1 : Int32) else (if r.1 = 3 then (2 : Int32) else (0 : Int32))) ∧ (r.1 = 0 → r.2.1 = q.1) ∧ I (j + 1) q.2
set_option maxHeartbeats 4000000 in
set_option maxRecDepth 100000 in
theorem law_23 {p : Program} {l : Launch} {e : Env} {s : State} {m : MethodId} {below : List Frame} {meth : Method} {c : Code} {ρ : bsR} {cA : Nat → ClassId} {dC : Nat → ClassId} {dI : Nat → Nat → Nat} {b L : Nat} {xs : Nat → Int32} {I : Nat → bsX → Prop} (H : sim_stateIn I) (LC : lawC p l s m meth c ρ cA dC dI b L xs) {j : Nat} (hj : 6 * j + 6 ≤ L) {cells slots : Nat} (hc1 : cells + 9 ≤ 601024) (hc2 : slots + 54 ≤ 7293033) {X : bsX} {lo : Int64} {od : UInt64} (hI : I j X) (kk : ∀ (X : bsX) (lo : Int64) (od : UInt64), I (j + 1) X → lawV p l e s m below meth c ρ cA dC dI b (cells + 9) (slots + 54) 3507 [(0, .ref b), (1, .ref (ρ 13 0 0)), (2, .ref (ρ 14 0 0)), (3, .ref (ρ 15 0 0)), (4, .ref (ρ 15 1 0)), (5, .int (nI (6 * j)))] [] X lo od) : lawV p l e s m below meth c ρ cA dC dI b cells slots 1439 [(0, .ref b), (1, .ref (ρ 13 0 0)), (2, .ref (ρ 14 0 0)), (3, .ref (ρ 15 0 0)), (4, .ref (ρ 15 1 0)), (5, .int (nI (6 * j)))] [] X lo od := by
  have hL9 : L ≤ 3072 := LC.2.2.2.2.1
  obtain ⟨hC, hX, hbl, hbA, hL, hst, hfr⟩ := LC
  have C := hC lo od
  obtain ⟨r, q, hf, hr, hg, ht, he, hI2⟩ := H j X (xs (6 * j + 1)) (by omega) hI
  refine v_aload_n C dL_law_1439 rfl rfl ?_
  refine v_aload_n C dL_law_1440 rfl rfl ?_
  refine v_iload C dL_law_1441 rfl ?_
  refine v_iconst (v := 1) C dL_law_1443 (by decide) ?_
  refine v_iadd C dL_law_1444 ?_
  refine v_sld (k := 1) C hX hbl (hbA lo od) rfl (by omega) (by omega) dL_law_1445 ?_
  refine v_aload_n C dL_law_1446 rfl rfl ?_
  refine v_wcallS (y := yL_stateIn) (As := [.ref (ρ 13 0 0), .int (xs (6 * j + 1)), .ref (ρ 15 0 0)]) (rest := []) C (cL_stateIn_ok hst hf hr) mlw_276 wwL_stateIn (by exact dpL_stateIn) ⟨Nat.le_of_ble_eq_true rfl, Nat.le_of_ble_eq_true rfl⟩ ⟨by show cells + 2 ≤ 601024; omega, by show slots + 12 ≤ 7293033; omega⟩ rfl (Nat.le_of_ble_eq_true rfl) dL_law_1447 ?_
  have C := hC (if r.1 = 0 then r.2.1.toInt64 else lo) od
  generalize hlo : (if r.1 = 0 then r.2.1.toInt64 else lo) = lo9 at C ⊢
  dsimp only
  rw [← ht]
  refine v_istore (lv' := [(6, .int (q.2 14 0 0 0)), (0, .ref b), (1, .ref (ρ 13 0 0)), (2, .ref (ρ 14 0 0)), (3, .ref (ρ 15 0 0)), (4, .ref (ρ 15 1 0)), (5, .int (nI (6 * j)))]) C dL_law_1450 (by decide) rfl ?_
  refine v_aload_n C dL_law_1452 rfl rfl ?_
  refine v_aload_n C dL_law_1453 rfl rfl ?_
  refine v_iload C dL_law_1454 rfl ?_
  refine v_iconst (v := 1) C dL_law_1456 (by decide) ?_
  refine v_iadd C dL_law_1457 ?_
  refine v_sld (k := 1) C hX hbl (hbA lo9 od) rfl (by omega) (by omega) dL_law_1458 ?_
  refine v_callVi (y := yX9_stateIn) (As := [.int (xs (6 * j + 1))]) (rest := []) C (cX9_stateIn_ok hg) mlw_278 wyX9_stateIn bsm_X9 bsc_X9 rfl (by exact dpX9_stateIn) ⟨Nat.le_of_ble_eq_true rfl, Nat.le_of_ble_eq_true rfl⟩ ⟨rfl, rfl⟩ ⟨by show cells + 2 ≤ 601024; omega, by show slots + 12 ≤ 7293033; omega⟩ rfl (Nat.le_of_ble_eq_true rfl) dL_law_1459 ?_
  refine v_istore (lv' := [(7, .int q.1), (6, .int (q.2 14 0 0 0)), (0, .ref b), (1, .ref (ρ 13 0 0)), (2, .ref (ρ 14 0 0)), (3, .ref (ρ 15 0 0)), (4, .ref (ρ 15 1 0)), (5, .int (nI (6 * j)))]) C dL_law_1462 (by decide) rfl ?_
  refine v_aload_n C dL_law_1464 rfl rfl ?_
  refine v_callVi (y := yX9_thrown) (As := []) (rest := []) (z := (q.2 14 0 0 0, q.2)) C (cX9_thrown_ok rfl) mlw_205 wyX9_thrown bsm_X9 bsc_X9 rfl (by exact dpX9_thrown) ⟨Nat.le_of_ble_eq_true rfl, Nat.le_of_ble_eq_true rfl⟩ ⟨rfl, rfl⟩ ⟨by show cells + 2 ≤ 601024; omega, by show slots + 12 ≤ 7293033; omega⟩ rfl (Nat.le_of_ble_eq_true rfl) dL_law_1465 ?_
  refine v_iload C dL_law_1468 rfl ?_
  refine v_icmp_eq (tgt := 1475) C dL_law_1470 (by decide) (fun _ => ?_) (fun h => absurd rfl h)
  refine v_iload C dL_law_1475 rfl ?_
  refine v_if_ne (tgt := 1492) C dL_law_1477 (by decide) (fun _ => ?_) (fun h0 => ?_)
  · refine v_goto (tgt := 3507) C dL_law_1492 (by decide) ?_
    refine v_sub [2, 3, 4, 5, 6, 7] rfl ?_
    exact v_widen (by show cells + 2 ≤ cells + 9; omega) (by show slots + 12 ≤ slots + 54; omega) (kk q.2 lo9 od hI2)
  · have hr0 : r.1 = 0 := by
      rw [ht] at h0
      rcases hr with h1 | h1 | h1
      · exact h1
      · rw [h1] at h0; exact absurd h0 (by decide)
      · rw [h1] at h0; exact absurd h0 (by decide)
    have e0 := he hr0
    rw [if_pos hr0] at hlo
    refine v_aload_n C dL_law_1480 rfl rfl ?_
    refine v_iconst (v := 0) C dL_law_1481 (by decide) ?_
    refine v_lald C dL_law_1482 ?_
    refine v_iload C dL_law_1483 rfl ?_
    refine v_i2l C dL_law_1485 ?_
    refine v_lcmp C dL_law_1486 ?_
    rw [show bsLc lo9 q.1.toInt64 = 0 by rw [← hlo, e0]; exact bsLc_self _]
    refine v_if_eq (tgt := 1492) C dL_law_1487 (by decide) (fun _ => ?_) (fun h => absurd rfl h)
    refine v_goto (tgt := 3507) C dL_law_1492 (by decide) ?_
    refine v_sub [2, 3, 4, 5, 6, 7] rfl ?_
    exact v_widen (by show cells + 2 ≤ cells + 9; omega) (by show slots + 12 ≤ slots + 54; omega) (kk q.2 lo9 od hI2)
/-- what the pure part owes for slotIn -/
def sim_slotIn (I : Nat → bsX → Prop) : Prop := ∀ (j : Nat) (X : bsX) (a1 : Int32), j < 512 → I j X → ∃ (r : bsXr) (q : Int32 × bsX), fX8_slotIn a1 X = some r ∧ (r.1 = 0 ∨ r.1 = 1 ∨ r.1 = 3) ∧ fX9_slotIn a1 r.2.2 = some q ∧ q.2 14 0 0 0 = (if r.1 = 1 then (1 : Int32) else (if r.1 = 3 then (2 : Int32) else (0 : Int32))) ∧ (r.1 = 0 → r.2.1 = q.1) ∧ I (j + 1) q.2
set_option maxHeartbeats 4000000 in
set_option maxRecDepth 100000 in
theorem law_24 {p : Program} {l : Launch} {e : Env} {s : State} {m : MethodId} {below : List Frame} {meth : Method} {c : Code} {ρ : bsR} {cA : Nat → ClassId} {dC : Nat → ClassId} {dI : Nat → Nat → Nat} {b L : Nat} {xs : Nat → Int32} {I : Nat → bsX → Prop} (H : sim_slotIn I) (LC : lawC p l s m meth c ρ cA dC dI b L xs) {j : Nat} (hj : 6 * j + 6 ≤ L) {cells slots : Nat} (hc1 : cells + 9 ≤ 601024) (hc2 : slots + 54 ≤ 7293033) {X : bsX} {lo : Int64} {od : UInt64} (hI : I j X) (kk : ∀ (X : bsX) (lo : Int64) (od : UInt64), I (j + 1) X → lawV p l e s m below meth c ρ cA dC dI b (cells + 9) (slots + 54) 3507 [(0, .ref b), (1, .ref (ρ 13 0 0)), (2, .ref (ρ 14 0 0)), (3, .ref (ρ 15 0 0)), (4, .ref (ρ 15 1 0)), (5, .int (nI (6 * j)))] [] X lo od) : lawV p l e s m below meth c ρ cA dC dI b cells slots 1495 [(0, .ref b), (1, .ref (ρ 13 0 0)), (2, .ref (ρ 14 0 0)), (3, .ref (ρ 15 0 0)), (4, .ref (ρ 15 1 0)), (5, .int (nI (6 * j)))] [] X lo od := by
  have hL9 : L ≤ 3072 := LC.2.2.2.2.1
  obtain ⟨hC, hX, hbl, hbA, hL, hst, hfr⟩ := LC
  have C := hC lo od
  obtain ⟨r, q, hf, hr, hg, ht, he, hI2⟩ := H j X (xs (6 * j + 1)) (by omega) hI
  refine v_aload_n C dL_law_1495 rfl rfl ?_
  refine v_aload_n C dL_law_1496 rfl rfl ?_
  refine v_iload C dL_law_1497 rfl ?_
  refine v_iconst (v := 1) C dL_law_1499 (by decide) ?_
  refine v_iadd C dL_law_1500 ?_
  refine v_sld (k := 1) C hX hbl (hbA lo od) rfl (by omega) (by omega) dL_law_1501 ?_
  refine v_aload_n C dL_law_1502 rfl rfl ?_
  refine v_wcallS (y := yL_slotIn) (As := [.ref (ρ 13 0 0), .int (xs (6 * j + 1)), .ref (ρ 15 0 0)]) (rest := []) C (cL_slotIn_ok hst hf hr) mlw_279 wwL_slotIn (by exact dpL_slotIn) ⟨Nat.le_of_ble_eq_true rfl, Nat.le_of_ble_eq_true rfl⟩ ⟨by show cells + 2 ≤ 601024; omega, by show slots + 12 ≤ 7293033; omega⟩ rfl (Nat.le_of_ble_eq_true rfl) dL_law_1503 ?_
  have C := hC (if r.1 = 0 then r.2.1.toInt64 else lo) od
  generalize hlo : (if r.1 = 0 then r.2.1.toInt64 else lo) = lo9 at C ⊢
  dsimp only
  rw [← ht]
  refine v_istore (lv' := [(6, .int (q.2 14 0 0 0)), (0, .ref b), (1, .ref (ρ 13 0 0)), (2, .ref (ρ 14 0 0)), (3, .ref (ρ 15 0 0)), (4, .ref (ρ 15 1 0)), (5, .int (nI (6 * j)))]) C dL_law_1506 (by decide) rfl ?_
  refine v_aload_n C dL_law_1508 rfl rfl ?_
  refine v_aload_n C dL_law_1509 rfl rfl ?_
  refine v_iload C dL_law_1510 rfl ?_
  refine v_iconst (v := 1) C dL_law_1512 (by decide) ?_
  refine v_iadd C dL_law_1513 ?_
  refine v_sld (k := 1) C hX hbl (hbA lo9 od) rfl (by omega) (by omega) dL_law_1514 ?_
  refine v_callVi (y := yX9_slotIn) (As := [.int (xs (6 * j + 1))]) (rest := []) C (cX9_slotIn_ok hg) mlw_281 wyX9_slotIn bsm_X9 bsc_X9 rfl (by exact dpX9_slotIn) ⟨Nat.le_of_ble_eq_true rfl, Nat.le_of_ble_eq_true rfl⟩ ⟨rfl, rfl⟩ ⟨by show cells + 2 ≤ 601024; omega, by show slots + 12 ≤ 7293033; omega⟩ rfl (Nat.le_of_ble_eq_true rfl) dL_law_1515 ?_
  refine v_istore (lv' := [(7, .int q.1), (6, .int (q.2 14 0 0 0)), (0, .ref b), (1, .ref (ρ 13 0 0)), (2, .ref (ρ 14 0 0)), (3, .ref (ρ 15 0 0)), (4, .ref (ρ 15 1 0)), (5, .int (nI (6 * j)))]) C dL_law_1518 (by decide) rfl ?_
  refine v_aload_n C dL_law_1520 rfl rfl ?_
  refine v_callVi (y := yX9_thrown) (As := []) (rest := []) (z := (q.2 14 0 0 0, q.2)) C (cX9_thrown_ok rfl) mlw_205 wyX9_thrown bsm_X9 bsc_X9 rfl (by exact dpX9_thrown) ⟨Nat.le_of_ble_eq_true rfl, Nat.le_of_ble_eq_true rfl⟩ ⟨rfl, rfl⟩ ⟨by show cells + 2 ≤ 601024; omega, by show slots + 12 ≤ 7293033; omega⟩ rfl (Nat.le_of_ble_eq_true rfl) dL_law_1521 ?_
  refine v_iload C dL_law_1524 rfl ?_
  refine v_icmp_eq (tgt := 1531) C dL_law_1526 (by decide) (fun _ => ?_) (fun h => absurd rfl h)
  refine v_iload C dL_law_1531 rfl ?_
  refine v_if_ne (tgt := 1548) C dL_law_1533 (by decide) (fun _ => ?_) (fun h0 => ?_)
  · refine v_goto (tgt := 3507) C dL_law_1548 (by decide) ?_
    refine v_sub [2, 3, 4, 5, 6, 7] rfl ?_
    exact v_widen (by show cells + 2 ≤ cells + 9; omega) (by show slots + 12 ≤ slots + 54; omega) (kk q.2 lo9 od hI2)
  · have hr0 : r.1 = 0 := by
      rw [ht] at h0
      rcases hr with h1 | h1 | h1
      · exact h1
      · rw [h1] at h0; exact absurd h0 (by decide)
      · rw [h1] at h0; exact absurd h0 (by decide)
    have e0 := he hr0
    rw [if_pos hr0] at hlo
    refine v_aload_n C dL_law_1536 rfl rfl ?_
    refine v_iconst (v := 0) C dL_law_1537 (by decide) ?_
    refine v_lald C dL_law_1538 ?_
    refine v_iload C dL_law_1539 rfl ?_
    refine v_i2l C dL_law_1541 ?_
    refine v_lcmp C dL_law_1542 ?_
    rw [show bsLc lo9 q.1.toInt64 = 0 by rw [← hlo, e0]; exact bsLc_self _]
    refine v_if_eq (tgt := 1548) C dL_law_1543 (by decide) (fun _ => ?_) (fun h => absurd rfl h)
    refine v_goto (tgt := 3507) C dL_law_1548 (by decide) ?_
    refine v_sub [2, 3, 4, 5, 6, 7] rfl ?_
    exact v_widen (by show cells + 2 ≤ cells + 9; omega) (by show slots + 12 ≤ slots + 54; omega) (kk q.2 lo9 od hI2)
/-- what the pure part owes for floorIn -/
def sim_floorIn (I : Nat → bsX → Prop) : Prop := ∀ (j : Nat) (X : bsX) (a1 : Int32), j < 512 → I j X → ∃ (r : bsXr) (q : Int32 × bsX), fX8_floorIn a1 X = some r ∧ (r.1 = 0 ∨ r.1 = 1 ∨ r.1 = 3) ∧ fX9_floorIn a1 r.2.2 = some q ∧ q.2 14 0 0 0 = (if r.1 = 1 then (1 : Int32) else (if r.1 = 3 then (2 : Int32) else (0 : Int32))) ∧ (r.1 = 0 → r.2.1 = q.1) ∧ I (j + 1) q.2
set_option maxHeartbeats 4000000 in
set_option maxRecDepth 100000 in
theorem law_25 {p : Program} {l : Launch} {e : Env} {s : State} {m : MethodId} {below : List Frame} {meth : Method} {c : Code} {ρ : bsR} {cA : Nat → ClassId} {dC : Nat → ClassId} {dI : Nat → Nat → Nat} {b L : Nat} {xs : Nat → Int32} {I : Nat → bsX → Prop} (H : sim_floorIn I) (LC : lawC p l s m meth c ρ cA dC dI b L xs) {j : Nat} (hj : 6 * j + 6 ≤ L) {cells slots : Nat} (hc1 : cells + 9 ≤ 601024) (hc2 : slots + 54 ≤ 7293033) {X : bsX} {lo : Int64} {od : UInt64} (hI : I j X) (kk : ∀ (X : bsX) (lo : Int64) (od : UInt64), I (j + 1) X → lawV p l e s m below meth c ρ cA dC dI b (cells + 9) (slots + 54) 3507 [(0, .ref b), (1, .ref (ρ 13 0 0)), (2, .ref (ρ 14 0 0)), (3, .ref (ρ 15 0 0)), (4, .ref (ρ 15 1 0)), (5, .int (nI (6 * j)))] [] X lo od) : lawV p l e s m below meth c ρ cA dC dI b cells slots 1551 [(0, .ref b), (1, .ref (ρ 13 0 0)), (2, .ref (ρ 14 0 0)), (3, .ref (ρ 15 0 0)), (4, .ref (ρ 15 1 0)), (5, .int (nI (6 * j)))] [] X lo od := by
  have hL9 : L ≤ 3072 := LC.2.2.2.2.1
  obtain ⟨hC, hX, hbl, hbA, hL, hst, hfr⟩ := LC
  have C := hC lo od
  obtain ⟨r, q, hf, hr, hg, ht, he, hI2⟩ := H j X (xs (6 * j + 1)) (by omega) hI
  refine v_aload_n C dL_law_1551 rfl rfl ?_
  refine v_aload_n C dL_law_1552 rfl rfl ?_
  refine v_iload C dL_law_1553 rfl ?_
  refine v_iconst (v := 1) C dL_law_1555 (by decide) ?_
  refine v_iadd C dL_law_1556 ?_
  refine v_sld (k := 1) C hX hbl (hbA lo od) rfl (by omega) (by omega) dL_law_1557 ?_
  refine v_aload_n C dL_law_1558 rfl rfl ?_
  refine v_wcallS (y := yL_floorIn) (As := [.ref (ρ 13 0 0), .int (xs (6 * j + 1)), .ref (ρ 15 0 0)]) (rest := []) C (cL_floorIn_ok hst hf hr) mlw_282 wwL_floorIn (by exact dpL_floorIn) ⟨Nat.le_of_ble_eq_true rfl, Nat.le_of_ble_eq_true rfl⟩ ⟨by show cells + 2 ≤ 601024; omega, by show slots + 12 ≤ 7293033; omega⟩ rfl (Nat.le_of_ble_eq_true rfl) dL_law_1559 ?_
  have C := hC (if r.1 = 0 then r.2.1.toInt64 else lo) od
  generalize hlo : (if r.1 = 0 then r.2.1.toInt64 else lo) = lo9 at C ⊢
  dsimp only
  rw [← ht]
  refine v_istore (lv' := [(6, .int (q.2 14 0 0 0)), (0, .ref b), (1, .ref (ρ 13 0 0)), (2, .ref (ρ 14 0 0)), (3, .ref (ρ 15 0 0)), (4, .ref (ρ 15 1 0)), (5, .int (nI (6 * j)))]) C dL_law_1562 (by decide) rfl ?_
  refine v_aload_n C dL_law_1564 rfl rfl ?_
  refine v_aload_n C dL_law_1565 rfl rfl ?_
  refine v_iload C dL_law_1566 rfl ?_
  refine v_iconst (v := 1) C dL_law_1568 (by decide) ?_
  refine v_iadd C dL_law_1569 ?_
  refine v_sld (k := 1) C hX hbl (hbA lo9 od) rfl (by omega) (by omega) dL_law_1570 ?_
  refine v_callVi (y := yX9_floorIn) (As := [.int (xs (6 * j + 1))]) (rest := []) C (cX9_floorIn_ok hg) mlw_284 wyX9_floorIn bsm_X9 bsc_X9 rfl (by exact dpX9_floorIn) ⟨Nat.le_of_ble_eq_true rfl, Nat.le_of_ble_eq_true rfl⟩ ⟨rfl, rfl⟩ ⟨by show cells + 2 ≤ 601024; omega, by show slots + 12 ≤ 7293033; omega⟩ rfl (Nat.le_of_ble_eq_true rfl) dL_law_1571 ?_
  refine v_istore (lv' := [(7, .int q.1), (6, .int (q.2 14 0 0 0)), (0, .ref b), (1, .ref (ρ 13 0 0)), (2, .ref (ρ 14 0 0)), (3, .ref (ρ 15 0 0)), (4, .ref (ρ 15 1 0)), (5, .int (nI (6 * j)))]) C dL_law_1574 (by decide) rfl ?_
  refine v_aload_n C dL_law_1576 rfl rfl ?_
  refine v_callVi (y := yX9_thrown) (As := []) (rest := []) (z := (q.2 14 0 0 0, q.2)) C (cX9_thrown_ok rfl) mlw_205 wyX9_thrown bsm_X9 bsc_X9 rfl (by exact dpX9_thrown) ⟨Nat.le_of_ble_eq_true rfl, Nat.le_of_ble_eq_true rfl⟩ ⟨rfl, rfl⟩ ⟨by show cells + 2 ≤ 601024; omega, by show slots + 12 ≤ 7293033; omega⟩ rfl (Nat.le_of_ble_eq_true rfl) dL_law_1577 ?_
  refine v_iload C dL_law_1580 rfl ?_
  refine v_icmp_eq (tgt := 1587) C dL_law_1582 (by decide) (fun _ => ?_) (fun h => absurd rfl h)
  refine v_iload C dL_law_1587 rfl ?_
  refine v_if_ne (tgt := 1604) C dL_law_1589 (by decide) (fun _ => ?_) (fun h0 => ?_)
  · refine v_goto (tgt := 3507) C dL_law_1604 (by decide) ?_
    refine v_sub [2, 3, 4, 5, 6, 7] rfl ?_
    exact v_widen (by show cells + 2 ≤ cells + 9; omega) (by show slots + 12 ≤ slots + 54; omega) (kk q.2 lo9 od hI2)
  · have hr0 : r.1 = 0 := by
      rw [ht] at h0
      rcases hr with h1 | h1 | h1
      · exact h1
      · rw [h1] at h0; exact absurd h0 (by decide)
      · rw [h1] at h0; exact absurd h0 (by decide)
    have e0 := he hr0
    rw [if_pos hr0] at hlo
    refine v_aload_n C dL_law_1592 rfl rfl ?_
    refine v_iconst (v := 0) C dL_law_1593 (by decide) ?_
    refine v_lald C dL_law_1594 ?_
    refine v_iload C dL_law_1595 rfl ?_
    refine v_i2l C dL_law_1597 ?_
    refine v_lcmp C dL_law_1598 ?_
    rw [show bsLc lo9 q.1.toInt64 = 0 by rw [← hlo, e0]; exact bsLc_self _]
    refine v_if_eq (tgt := 1604) C dL_law_1599 (by decide) (fun _ => ?_) (fun h => absurd rfl h)
    refine v_goto (tgt := 3507) C dL_law_1604 (by decide) ?_
    refine v_sub [2, 3, 4, 5, 6, 7] rfl ?_
    exact v_widen (by show cells + 2 ≤ cells + 9; omega) (by show slots + 12 ≤ slots + 54; omega) (kk q.2 lo9 od hI2)
/-- what the pure part owes for bootsIn -/
def sim_bootsIn (I : Nat → bsX → Prop) : Prop := ∀ (j : Nat) (X : bsX) (a1 : Int32), j < 512 → I j X → ∃ (r : bsXr) (q : Int32 × bsX), fX8_bootsIn a1 X = some r ∧ (r.1 = 0 ∨ r.1 = 1 ∨ r.1 = 3) ∧ fX9_bootsIn a1 r.2.2 = some q ∧ q.2 14 0 0 0 = (if r.1 = 1 then (1 : Int32) else (if r.1 = 3 then (2 : Int32) else (0 : Int32))) ∧ (r.1 = 0 → r.2.1 = q.1) ∧ I (j + 1) q.2
set_option maxHeartbeats 4000000 in
set_option maxRecDepth 100000 in
theorem law_26 {p : Program} {l : Launch} {e : Env} {s : State} {m : MethodId} {below : List Frame} {meth : Method} {c : Code} {ρ : bsR} {cA : Nat → ClassId} {dC : Nat → ClassId} {dI : Nat → Nat → Nat} {b L : Nat} {xs : Nat → Int32} {I : Nat → bsX → Prop} (H : sim_bootsIn I) (LC : lawC p l s m meth c ρ cA dC dI b L xs) {j : Nat} (hj : 6 * j + 6 ≤ L) {cells slots : Nat} (hc1 : cells + 9 ≤ 601024) (hc2 : slots + 54 ≤ 7293033) {X : bsX} {lo : Int64} {od : UInt64} (hI : I j X) (kk : ∀ (X : bsX) (lo : Int64) (od : UInt64), I (j + 1) X → lawV p l e s m below meth c ρ cA dC dI b (cells + 9) (slots + 54) 3507 [(0, .ref b), (1, .ref (ρ 13 0 0)), (2, .ref (ρ 14 0 0)), (3, .ref (ρ 15 0 0)), (4, .ref (ρ 15 1 0)), (5, .int (nI (6 * j)))] [] X lo od) : lawV p l e s m below meth c ρ cA dC dI b cells slots 1607 [(0, .ref b), (1, .ref (ρ 13 0 0)), (2, .ref (ρ 14 0 0)), (3, .ref (ρ 15 0 0)), (4, .ref (ρ 15 1 0)), (5, .int (nI (6 * j)))] [] X lo od := by
  have hL9 : L ≤ 3072 := LC.2.2.2.2.1
  obtain ⟨hC, hX, hbl, hbA, hL, hst, hfr⟩ := LC
  have C := hC lo od
  obtain ⟨r, q, hf, hr, hg, ht, he, hI2⟩ := H j X (xs (6 * j + 1)) (by omega) hI
  refine v_aload_n C dL_law_1607 rfl rfl ?_
  refine v_aload_n C dL_law_1608 rfl rfl ?_
  refine v_iload C dL_law_1609 rfl ?_
  refine v_iconst (v := 1) C dL_law_1611 (by decide) ?_
  refine v_iadd C dL_law_1612 ?_
  refine v_sld (k := 1) C hX hbl (hbA lo od) rfl (by omega) (by omega) dL_law_1613 ?_
  refine v_aload_n C dL_law_1614 rfl rfl ?_
  refine v_wcallS (y := yL_bootsIn) (As := [.ref (ρ 13 0 0), .int (xs (6 * j + 1)), .ref (ρ 15 0 0)]) (rest := []) C (cL_bootsIn_ok hst hf hr) mlw_285 wwL_bootsIn (by exact dpL_bootsIn) ⟨Nat.le_of_ble_eq_true rfl, Nat.le_of_ble_eq_true rfl⟩ ⟨by show cells + 2 ≤ 601024; omega, by show slots + 12 ≤ 7293033; omega⟩ rfl (Nat.le_of_ble_eq_true rfl) dL_law_1615 ?_
  have C := hC (if r.1 = 0 then r.2.1.toInt64 else lo) od
  generalize hlo : (if r.1 = 0 then r.2.1.toInt64 else lo) = lo9 at C ⊢
  dsimp only
  rw [← ht]
  refine v_istore (lv' := [(6, .int (q.2 14 0 0 0)), (0, .ref b), (1, .ref (ρ 13 0 0)), (2, .ref (ρ 14 0 0)), (3, .ref (ρ 15 0 0)), (4, .ref (ρ 15 1 0)), (5, .int (nI (6 * j)))]) C dL_law_1618 (by decide) rfl ?_
  refine v_aload_n C dL_law_1620 rfl rfl ?_
  refine v_aload_n C dL_law_1621 rfl rfl ?_
  refine v_iload C dL_law_1622 rfl ?_
  refine v_iconst (v := 1) C dL_law_1624 (by decide) ?_
  refine v_iadd C dL_law_1625 ?_
  refine v_sld (k := 1) C hX hbl (hbA lo9 od) rfl (by omega) (by omega) dL_law_1626 ?_
  refine v_callVi (y := yX9_bootsIn) (As := [.int (xs (6 * j + 1))]) (rest := []) C (cX9_bootsIn_ok hg) mlw_287 wyX9_bootsIn bsm_X9 bsc_X9 rfl (by exact dpX9_bootsIn) ⟨Nat.le_of_ble_eq_true rfl, Nat.le_of_ble_eq_true rfl⟩ ⟨rfl, rfl⟩ ⟨by show cells + 2 ≤ 601024; omega, by show slots + 12 ≤ 7293033; omega⟩ rfl (Nat.le_of_ble_eq_true rfl) dL_law_1627 ?_
  refine v_istore (lv' := [(7, .int q.1), (6, .int (q.2 14 0 0 0)), (0, .ref b), (1, .ref (ρ 13 0 0)), (2, .ref (ρ 14 0 0)), (3, .ref (ρ 15 0 0)), (4, .ref (ρ 15 1 0)), (5, .int (nI (6 * j)))]) C dL_law_1630 (by decide) rfl ?_
  refine v_aload_n C dL_law_1632 rfl rfl ?_
  refine v_callVi (y := yX9_thrown) (As := []) (rest := []) (z := (q.2 14 0 0 0, q.2)) C (cX9_thrown_ok rfl) mlw_205 wyX9_thrown bsm_X9 bsc_X9 rfl (by exact dpX9_thrown) ⟨Nat.le_of_ble_eq_true rfl, Nat.le_of_ble_eq_true rfl⟩ ⟨rfl, rfl⟩ ⟨by show cells + 2 ≤ 601024; omega, by show slots + 12 ≤ 7293033; omega⟩ rfl (Nat.le_of_ble_eq_true rfl) dL_law_1633 ?_
  refine v_iload C dL_law_1636 rfl ?_
  refine v_icmp_eq (tgt := 1643) C dL_law_1638 (by decide) (fun _ => ?_) (fun h => absurd rfl h)
  refine v_iload C dL_law_1643 rfl ?_
  refine v_if_ne (tgt := 1660) C dL_law_1645 (by decide) (fun _ => ?_) (fun h0 => ?_)
  · refine v_goto (tgt := 3507) C dL_law_1660 (by decide) ?_
    refine v_sub [2, 3, 4, 5, 6, 7] rfl ?_
    exact v_widen (by show cells + 2 ≤ cells + 9; omega) (by show slots + 12 ≤ slots + 54; omega) (kk q.2 lo9 od hI2)
  · have hr0 : r.1 = 0 := by
      rw [ht] at h0
      rcases hr with h1 | h1 | h1
      · exact h1
      · rw [h1] at h0; exact absurd h0 (by decide)
      · rw [h1] at h0; exact absurd h0 (by decide)
    have e0 := he hr0
    rw [if_pos hr0] at hlo
    refine v_aload_n C dL_law_1648 rfl rfl ?_
    refine v_iconst (v := 0) C dL_law_1649 (by decide) ?_
    refine v_lald C dL_law_1650 ?_
    refine v_iload C dL_law_1651 rfl ?_
    refine v_i2l C dL_law_1653 ?_
    refine v_lcmp C dL_law_1654 ?_
    rw [show bsLc lo9 q.1.toInt64 = 0 by rw [← hlo, e0]; exact bsLc_self _]
    refine v_if_eq (tgt := 1660) C dL_law_1655 (by decide) (fun _ => ?_) (fun h => absurd rfl h)
    refine v_goto (tgt := 3507) C dL_law_1660 (by decide) ?_
    refine v_sub [2, 3, 4, 5, 6, 7] rfl ?_
    exact v_widen (by show cells + 2 ≤ cells + 9; omega) (by show slots + 12 ≤ slots + 54; omega) (kk q.2 lo9 od hI2)
/-- what the pure part owes for runsIn -/
def sim_runsIn (I : Nat → bsX → Prop) : Prop := ∀ (j : Nat) (X : bsX) (a1 a2 : Int32), j < 512 → I j X → ∃ (r : bsXr) (q : Int32 × bsX), fX8_runsIn a1 a2 X = some r ∧ (r.1 = 0 ∨ r.1 = 1 ∨ r.1 = 2 ∨ r.1 = 3) ∧ fX9_runsIn a1 a2 r.2.2 = some q ∧ q.2 14 0 0 0 = (if r.1 = 1 then (1 : Int32) else (if r.1 = 2 then (2 : Int32) else (if r.1 = 3 then (3 : Int32) else (0 : Int32)))) ∧ (r.1 = 0 → r.2.1 = q.1) ∧ I (j + 1) q.2
set_option maxHeartbeats 4000000 in
set_option maxRecDepth 100000 in
theorem law_27 {p : Program} {l : Launch} {e : Env} {s : State} {m : MethodId} {below : List Frame} {meth : Method} {c : Code} {ρ : bsR} {cA : Nat → ClassId} {dC : Nat → ClassId} {dI : Nat → Nat → Nat} {b L : Nat} {xs : Nat → Int32} {I : Nat → bsX → Prop} (H : sim_runsIn I) (LC : lawC p l s m meth c ρ cA dC dI b L xs) {j : Nat} (hj : 6 * j + 6 ≤ L) {cells slots : Nat} (hc1 : cells + 9 ≤ 601024) (hc2 : slots + 54 ≤ 7293033) {X : bsX} {lo : Int64} {od : UInt64} (hI : I j X) (kk : ∀ (X : bsX) (lo : Int64) (od : UInt64), I (j + 1) X → lawV p l e s m below meth c ρ cA dC dI b (cells + 9) (slots + 54) 3507 [(0, .ref b), (1, .ref (ρ 13 0 0)), (2, .ref (ρ 14 0 0)), (3, .ref (ρ 15 0 0)), (4, .ref (ρ 15 1 0)), (5, .int (nI (6 * j)))] [] X lo od) : lawV p l e s m below meth c ρ cA dC dI b cells slots 1663 [(0, .ref b), (1, .ref (ρ 13 0 0)), (2, .ref (ρ 14 0 0)), (3, .ref (ρ 15 0 0)), (4, .ref (ρ 15 1 0)), (5, .int (nI (6 * j)))] [] X lo od := by
  have hL9 : L ≤ 3072 := LC.2.2.2.2.1
  obtain ⟨hC, hX, hbl, hbA, hL, hst, hfr⟩ := LC
  have C := hC lo od
  obtain ⟨r, q, hf, hr, hg, ht, he, hI2⟩ := H j X (xs (6 * j + 1)) (xs (6 * j + 2)) (by omega) hI
  refine v_aload_n C dL_law_1663 rfl rfl ?_
  refine v_aload_n C dL_law_1664 rfl rfl ?_
  refine v_iload C dL_law_1665 rfl ?_
  refine v_iconst (v := 1) C dL_law_1667 (by decide) ?_
  refine v_iadd C dL_law_1668 ?_
  refine v_sld (k := 1) C hX hbl (hbA lo od) rfl (by omega) (by omega) dL_law_1669 ?_
  refine v_aload_n C dL_law_1670 rfl rfl ?_
  refine v_iload C dL_law_1671 rfl ?_
  refine v_iconst (v := 2) C dL_law_1673 (by decide) ?_
  refine v_iadd C dL_law_1674 ?_
  refine v_sld (k := 2) C hX hbl (hbA lo od) rfl (by omega) (by omega) dL_law_1675 ?_
  refine v_aload_n C dL_law_1676 rfl rfl ?_
  refine v_wcallS (y := yL_runsIn) (As := [.ref (ρ 13 0 0), .int (xs (6 * j + 1)), .int (xs (6 * j + 2)), .ref (ρ 15 0 0)]) (rest := []) C (cL_runsIn_ok hst hf hr) mlw_288 wwL_runsIn (by exact dpL_runsIn) ⟨Nat.le_of_ble_eq_true rfl, Nat.le_of_ble_eq_true rfl⟩ ⟨by show cells + 4 ≤ 601024; omega, by show slots + 24 ≤ 7293033; omega⟩ rfl (Nat.le_of_ble_eq_true rfl) dL_law_1677 ?_
  have C := hC (if r.1 = 0 then r.2.1.toInt64 else lo) od
  generalize hlo : (if r.1 = 0 then r.2.1.toInt64 else lo) = lo9 at C ⊢
  dsimp only
  rw [← ht]
  refine v_istore (lv' := [(6, .int (q.2 14 0 0 0)), (0, .ref b), (1, .ref (ρ 13 0 0)), (2, .ref (ρ 14 0 0)), (3, .ref (ρ 15 0 0)), (4, .ref (ρ 15 1 0)), (5, .int (nI (6 * j)))]) C dL_law_1680 (by decide) rfl ?_
  refine v_aload_n C dL_law_1682 rfl rfl ?_
  refine v_aload_n C dL_law_1683 rfl rfl ?_
  refine v_iload C dL_law_1684 rfl ?_
  refine v_iconst (v := 1) C dL_law_1686 (by decide) ?_
  refine v_iadd C dL_law_1687 ?_
  refine v_sld (k := 1) C hX hbl (hbA lo9 od) rfl (by omega) (by omega) dL_law_1688 ?_
  refine v_aload_n C dL_law_1689 rfl rfl ?_
  refine v_iload C dL_law_1690 rfl ?_
  refine v_iconst (v := 2) C dL_law_1692 (by decide) ?_
  refine v_iadd C dL_law_1693 ?_
  refine v_sld (k := 2) C hX hbl (hbA lo9 od) rfl (by omega) (by omega) dL_law_1694 ?_
  refine v_callVi (y := yX9_runsIn) (As := [.int (xs (6 * j + 1)), .int (xs (6 * j + 2))]) (rest := []) C (cX9_runsIn_ok hg) mlw_290 wyX9_runsIn bsm_X9 bsc_X9 rfl (by exact dpX9_runsIn) ⟨Nat.le_of_ble_eq_true rfl, Nat.le_of_ble_eq_true rfl⟩ ⟨rfl, rfl⟩ ⟨by show cells + 4 ≤ 601024; omega, by show slots + 24 ≤ 7293033; omega⟩ rfl (Nat.le_of_ble_eq_true rfl) dL_law_1695 ?_
  refine v_istore (lv' := [(7, .int q.1), (6, .int (q.2 14 0 0 0)), (0, .ref b), (1, .ref (ρ 13 0 0)), (2, .ref (ρ 14 0 0)), (3, .ref (ρ 15 0 0)), (4, .ref (ρ 15 1 0)), (5, .int (nI (6 * j)))]) C dL_law_1698 (by decide) rfl ?_
  refine v_aload_n C dL_law_1700 rfl rfl ?_
  refine v_callVi (y := yX9_thrown) (As := []) (rest := []) (z := (q.2 14 0 0 0, q.2)) C (cX9_thrown_ok rfl) mlw_205 wyX9_thrown bsm_X9 bsc_X9 rfl (by exact dpX9_thrown) ⟨Nat.le_of_ble_eq_true rfl, Nat.le_of_ble_eq_true rfl⟩ ⟨rfl, rfl⟩ ⟨by show cells + 4 ≤ 601024; omega, by show slots + 24 ≤ 7293033; omega⟩ rfl (Nat.le_of_ble_eq_true rfl) dL_law_1701 ?_
  refine v_iload C dL_law_1704 rfl ?_
  refine v_icmp_eq (tgt := 1711) C dL_law_1706 (by decide) (fun _ => ?_) (fun h => absurd rfl h)
  refine v_iload C dL_law_1711 rfl ?_
  refine v_if_ne (tgt := 1728) C dL_law_1713 (by decide) (fun _ => ?_) (fun h0 => ?_)
  · refine v_goto (tgt := 3507) C dL_law_1728 (by decide) ?_
    refine v_sub [2, 3, 4, 5, 6, 7] rfl ?_
    exact v_widen (by show cells + 4 ≤ cells + 9; omega) (by show slots + 24 ≤ slots + 54; omega) (kk q.2 lo9 od hI2)
  · have hr0 : r.1 = 0 := by
      rw [ht] at h0
      rcases hr with h1 | h1 | h1 | h1
      · exact h1
      · rw [h1] at h0; exact absurd h0 (by decide)
      · rw [h1] at h0; exact absurd h0 (by decide)
      · rw [h1] at h0; exact absurd h0 (by decide)
    have e0 := he hr0
    rw [if_pos hr0] at hlo
    refine v_aload_n C dL_law_1716 rfl rfl ?_
    refine v_iconst (v := 0) C dL_law_1717 (by decide) ?_
    refine v_lald C dL_law_1718 ?_
    refine v_iload C dL_law_1719 rfl ?_
    refine v_i2l C dL_law_1721 ?_
    refine v_lcmp C dL_law_1722 ?_
    rw [show bsLc lo9 q.1.toInt64 = 0 by rw [← hlo, e0]; exact bsLc_self _]
    refine v_if_eq (tgt := 1728) C dL_law_1723 (by decide) (fun _ => ?_) (fun h => absurd rfl h)
    refine v_goto (tgt := 3507) C dL_law_1728 (by decide) ?_
    refine v_sub [2, 3, 4, 5, 6, 7] rfl ?_
    exact v_widen (by show cells + 4 ≤ cells + 9; omega) (by show slots + 24 ≤ slots + 54; omega) (kk q.2 lo9 od hI2)
/-- what the pure part owes for crashesIn -/
def sim_crashesIn (I : Nat → bsX → Prop) : Prop := ∀ (j : Nat) (X : bsX) (a1 : Int32), j < 512 → I j X → ∃ (r : bsXr) (q : Int32 × bsX), fX8_crashesIn a1 X = some r ∧ (r.1 = 0 ∨ r.1 = 1 ∨ r.1 = 3) ∧ fX9_crashesIn a1 r.2.2 = some q ∧ q.2 14 0 0 0 = (if r.1 = 1 then (1 : Int32) else (if r.1 = 3 then (2 : Int32) else (0 : Int32))) ∧ (r.1 = 0 → r.2.1 = q.1) ∧ I (j + 1) q.2
set_option maxHeartbeats 4000000 in
set_option maxRecDepth 100000 in
theorem law_28 {p : Program} {l : Launch} {e : Env} {s : State} {m : MethodId} {below : List Frame} {meth : Method} {c : Code} {ρ : bsR} {cA : Nat → ClassId} {dC : Nat → ClassId} {dI : Nat → Nat → Nat} {b L : Nat} {xs : Nat → Int32} {I : Nat → bsX → Prop} (H : sim_crashesIn I) (LC : lawC p l s m meth c ρ cA dC dI b L xs) {j : Nat} (hj : 6 * j + 6 ≤ L) {cells slots : Nat} (hc1 : cells + 9 ≤ 601024) (hc2 : slots + 54 ≤ 7293033) {X : bsX} {lo : Int64} {od : UInt64} (hI : I j X) (kk : ∀ (X : bsX) (lo : Int64) (od : UInt64), I (j + 1) X → lawV p l e s m below meth c ρ cA dC dI b (cells + 9) (slots + 54) 3507 [(0, .ref b), (1, .ref (ρ 13 0 0)), (2, .ref (ρ 14 0 0)), (3, .ref (ρ 15 0 0)), (4, .ref (ρ 15 1 0)), (5, .int (nI (6 * j)))] [] X lo od) : lawV p l e s m below meth c ρ cA dC dI b cells slots 1731 [(0, .ref b), (1, .ref (ρ 13 0 0)), (2, .ref (ρ 14 0 0)), (3, .ref (ρ 15 0 0)), (4, .ref (ρ 15 1 0)), (5, .int (nI (6 * j)))] [] X lo od := by
  have hL9 : L ≤ 3072 := LC.2.2.2.2.1
  obtain ⟨hC, hX, hbl, hbA, hL, hst, hfr⟩ := LC
  have C := hC lo od
  obtain ⟨r, q, hf, hr, hg, ht, he, hI2⟩ := H j X (xs (6 * j + 1)) (by omega) hI
  refine v_aload_n C dL_law_1731 rfl rfl ?_
  refine v_aload_n C dL_law_1732 rfl rfl ?_
  refine v_iload C dL_law_1733 rfl ?_
  refine v_iconst (v := 1) C dL_law_1735 (by decide) ?_
  refine v_iadd C dL_law_1736 ?_
  refine v_sld (k := 1) C hX hbl (hbA lo od) rfl (by omega) (by omega) dL_law_1737 ?_
  refine v_aload_n C dL_law_1738 rfl rfl ?_
  refine v_wcallS (y := yL_crashesIn) (As := [.ref (ρ 13 0 0), .int (xs (6 * j + 1)), .ref (ρ 15 0 0)]) (rest := []) C (cL_crashesIn_ok hst hf hr) mlw_291 wwL_crashesIn (by exact dpL_crashesIn) ⟨Nat.le_of_ble_eq_true rfl, Nat.le_of_ble_eq_true rfl⟩ ⟨by show cells + 2 ≤ 601024; omega, by show slots + 12 ≤ 7293033; omega⟩ rfl (Nat.le_of_ble_eq_true rfl) dL_law_1739 ?_
  have C := hC (if r.1 = 0 then r.2.1.toInt64 else lo) od
  generalize hlo : (if r.1 = 0 then r.2.1.toInt64 else lo) = lo9 at C ⊢
  dsimp only
  rw [← ht]
  refine v_istore (lv' := [(6, .int (q.2 14 0 0 0)), (0, .ref b), (1, .ref (ρ 13 0 0)), (2, .ref (ρ 14 0 0)), (3, .ref (ρ 15 0 0)), (4, .ref (ρ 15 1 0)), (5, .int (nI (6 * j)))]) C dL_law_1742 (by decide) rfl ?_
  refine v_aload_n C dL_law_1744 rfl rfl ?_
  refine v_aload_n C dL_law_1745 rfl rfl ?_
  refine v_iload C dL_law_1746 rfl ?_
  refine v_iconst (v := 1) C dL_law_1748 (by decide) ?_
  refine v_iadd C dL_law_1749 ?_
  refine v_sld (k := 1) C hX hbl (hbA lo9 od) rfl (by omega) (by omega) dL_law_1750 ?_
  refine v_callVi (y := yX9_crashesIn) (As := [.int (xs (6 * j + 1))]) (rest := []) C (cX9_crashesIn_ok hg) mlw_293 wyX9_crashesIn bsm_X9 bsc_X9 rfl (by exact dpX9_crashesIn) ⟨Nat.le_of_ble_eq_true rfl, Nat.le_of_ble_eq_true rfl⟩ ⟨rfl, rfl⟩ ⟨by show cells + 2 ≤ 601024; omega, by show slots + 12 ≤ 7293033; omega⟩ rfl (Nat.le_of_ble_eq_true rfl) dL_law_1751 ?_
  refine v_istore (lv' := [(7, .int q.1), (6, .int (q.2 14 0 0 0)), (0, .ref b), (1, .ref (ρ 13 0 0)), (2, .ref (ρ 14 0 0)), (3, .ref (ρ 15 0 0)), (4, .ref (ρ 15 1 0)), (5, .int (nI (6 * j)))]) C dL_law_1754 (by decide) rfl ?_
  refine v_aload_n C dL_law_1756 rfl rfl ?_
  refine v_callVi (y := yX9_thrown) (As := []) (rest := []) (z := (q.2 14 0 0 0, q.2)) C (cX9_thrown_ok rfl) mlw_205 wyX9_thrown bsm_X9 bsc_X9 rfl (by exact dpX9_thrown) ⟨Nat.le_of_ble_eq_true rfl, Nat.le_of_ble_eq_true rfl⟩ ⟨rfl, rfl⟩ ⟨by show cells + 2 ≤ 601024; omega, by show slots + 12 ≤ 7293033; omega⟩ rfl (Nat.le_of_ble_eq_true rfl) dL_law_1757 ?_
  refine v_iload C dL_law_1760 rfl ?_
  refine v_icmp_eq (tgt := 1767) C dL_law_1762 (by decide) (fun _ => ?_) (fun h => absurd rfl h)
  refine v_iload C dL_law_1767 rfl ?_
  refine v_if_ne (tgt := 1784) C dL_law_1769 (by decide) (fun _ => ?_) (fun h0 => ?_)
  · refine v_goto (tgt := 3507) C dL_law_1784 (by decide) ?_
    refine v_sub [2, 3, 4, 5, 6, 7] rfl ?_
    exact v_widen (by show cells + 2 ≤ cells + 9; omega) (by show slots + 12 ≤ slots + 54; omega) (kk q.2 lo9 od hI2)
  · have hr0 : r.1 = 0 := by
      rw [ht] at h0
      rcases hr with h1 | h1 | h1
      · exact h1
      · rw [h1] at h0; exact absurd h0 (by decide)
      · rw [h1] at h0; exact absurd h0 (by decide)
    have e0 := he hr0
    rw [if_pos hr0] at hlo
    refine v_aload_n C dL_law_1772 rfl rfl ?_
    refine v_iconst (v := 0) C dL_law_1773 (by decide) ?_
    refine v_lald C dL_law_1774 ?_
    refine v_iload C dL_law_1775 rfl ?_
    refine v_i2l C dL_law_1777 ?_
    refine v_lcmp C dL_law_1778 ?_
    rw [show bsLc lo9 q.1.toInt64 = 0 by rw [← hlo, e0]; exact bsLc_self _]
    refine v_if_eq (tgt := 1784) C dL_law_1779 (by decide) (fun _ => ?_) (fun h => absurd rfl h)
    refine v_goto (tgt := 3507) C dL_law_1784 (by decide) ?_
    refine v_sub [2, 3, 4, 5, 6, 7] rfl ?_
    exact v_widen (by show cells + 2 ≤ cells + 9; omega) (by show slots + 12 ≤ slots + 54; omega) (kk q.2 lo9 od hI2)
