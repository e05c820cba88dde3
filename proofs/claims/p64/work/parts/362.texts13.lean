set_option maxHeartbeats 4000000 in
set_option maxRecDepth 100000 in
theorem cL_texts_ok {l : Launch} {ρ : bsR} {sc L : Nat} {xs : Nat → Int32} {cA : Nat → ClassId} {dC : Nat → ClassId} {dI : Nat → Nat → Nat} {σ θ : xA2} {F : va_W} (hst : l.stackTraces = false) {X : bsX} {Z : pY} {z : (Int32 × bsX × pY)} (hf : hL_texts  X Z = some z) : xMi l yL_texts cL_texts 7 (some .boolean) rmL_texts ρ sc L xs cA dC dI [.ref (ρ 13 0 0), .ref (σ 0 0)] X (lwWs σ θ cA Z ++ F) (fun r X' R' => r = z.1 ∧ X' = z.2.1 ∧ ∃ θ' : xA2, R' = lwWs σ θ' cA z.2.2 ++ F) := by
  refine xMi_of (by decide) (Nat.le_of_ble_eq_true rfl) (fun p e s m args below meth c C => ?_)
  have C : xCx p m c cL_texts 7 s args (Cond.code yL_texts cL_texts 7 (some .boolean) :: bsG) RL ρ sc L xs cA dC dI (bsA ρ cA (lwWs σ θ cA Z ++ F) s.heap.size) meth (some .boolean) := C
  rw [hL_texts] at hf
  generalize (bsA ρ cA (lwWs σ θ cA Z ++ F) s.heap.size) = A at C ⊢
  refine x_sub [0, 1] rfl ?_
  refine xu_none ?_
  refine x_new (ci := 1) (Cn := RJ4) (T := TJ4) (N := 4) (fs := [.null, .int 0, .int 0, .int 0]) C bsin_J4 tyJ4 tyJ4_ok (bsG_in 1449 (by decide +kernel) rfl) (bsG_in 465 (by decide +kernel) rfl) (bsG_in 41 (by decide +kernel) rfl) rfl (by decide) ⟨by show (0) + 1 ≤ 1877; omega, by show (0) + 4 ≤ 291880; omega⟩ dL_texts_0 (fun sb136 => ?_)
  refine x_widen (k := (1)) (n := (4)) (by show (0) + 1 ≤ _; omega) (by show (0) + 4 ≤ _; omega) ?_
  refine x_dup C dL_texts_3 rfl ?_
  refine x_callI (y := yJ4_init_da8c8) (As := []) (rest := [.ref sb136]) C (cJ4_init_da8c8_ok) (bsG_in 1450 (by decide +kernel) rfl) wiJ4_init_da8c8 dpJ4_init_da8c8 ⟨Nat.le_of_ble_eq_true rfl, Nat.le_of_ble_eq_true rfl⟩ ⟨by show (1) + 1 ≤ 1877; omega, by show (4) + 16 ≤ 291880; omega⟩ rfl (Nat.le_of_ble_eq_true rfl) dL_texts_4 (fun X' R' hp => ?_)
  obtain ⟨eX, sv137, sk137, sa137, sm137, eW, hL137, hF137, hN137, hK137⟩ := hp
  rw [eX, eW]
  clear eX eW X' R'
  refine x_widen (k := (2)) (n := (20)) (by show (1) + 1 ≤ _; omega) (by show (4) + 16 ≤ _; omega) ?_
  refine x_eq (Rz' := (lwWs σ θ cA Z) ++ (F ++ [(sb136, sbC sv137 sm137 (nI 0)), (sv137, byC cA sk137 sa137)])) (xu_app _ F [] _) ?_
  refine x_astore_n (lv' := [(2, .ref sb136), (0, .ref (ρ 13 0 0)), (1, .ref (σ 0 0))]) C dL_texts_7 rfl (by decide) rfl ?_
  refine x_new (ci := 1) (Cn := RJ4) (T := TJ4) (N := 4) (fs := [.null, .int 0, .int 0, .int 0]) C bsin_J4 tyJ4 tyJ4_ok (bsG_in 1449 (by decide +kernel) rfl) (bsG_in 465 (by decide +kernel) rfl) (bsG_in 41 (by decide +kernel) rfl) rfl (by decide) ⟨by show (2) + 1 ≤ 1877; omega, by show (20) + 4 ≤ 291880; omega⟩ dL_texts_8 (fun sb138 => ?_)
  refine x_widen (k := (3)) (n := (24)) (by show (2) + 1 ≤ _; omega) (by show (20) + 4 ≤ _; omega) ?_
  refine x_dup C dL_texts_11 rfl ?_
  refine x_callI (y := yJ4_init_da8c8) (As := []) (rest := [.ref sb138]) C (cJ4_init_da8c8_ok) (bsG_in 1450 (by decide +kernel) rfl) wiJ4_init_da8c8 dpJ4_init_da8c8 ⟨Nat.le_of_ble_eq_true rfl, Nat.le_of_ble_eq_true rfl⟩ ⟨by show (3) + 1 ≤ 1877; omega, by show (24) + 16 ≤ 291880; omega⟩ rfl (Nat.le_of_ble_eq_true rfl) dL_texts_12 (fun X' R' hp => ?_)
  obtain ⟨eX, sv139, sk139, sa139, sm139, eW, hL139, hF139, hN139, hK139⟩ := hp
  rw [eX, eW]
  clear eX eW X' R'
  refine x_widen (k := (4)) (n := (40)) (by show (3) + 1 ≤ _; omega) (by show (24) + 16 ≤ _; omega) ?_
  refine x_eq (Rz' := (lwWs σ θ cA Z) ++ (F ++ [(sb136, sbC sv137 sm137 (nI 0)), (sv137, byC cA sk137 sa137), (sb138, sbC sv139 sm139 (nI 0)), (sv139, byC cA sk139 sa139)])) (xu_app _ F [(sb136, sbC sv137 sm137 (nI 0)), (sv137, byC cA sk137 sa137)] _) ?_
  refine x_astore_n (lv' := [(3, .ref sb138), (2, .ref sb136), (0, .ref (ρ 13 0 0)), (1, .ref (σ 0 0))]) C dL_texts_15 rfl (by decide) rfl ?_
  refine x_new (ci := 1) (Cn := RJ4) (T := TJ4) (N := 4) (fs := [.null, .int 0, .int 0, .int 0]) C bsin_J4 tyJ4 tyJ4_ok (bsG_in 1449 (by decide +kernel) rfl) (bsG_in 465 (by decide +kernel) rfl) (bsG_in 41 (by decide +kernel) rfl) rfl (by decide) ⟨by show (4) + 1 ≤ 1877; omega, by show (40) + 4 ≤ 291880; omega⟩ dL_texts_16 (fun sb140 => ?_)
  refine x_widen (k := (5)) (n := (44)) (by show (4) + 1 ≤ _; omega) (by show (40) + 4 ≤ _; omega) ?_
  refine x_dup C dL_texts_19 rfl ?_
  refine x_ldcSw (tx := "machine ") (t := 14) C (by decide +kernel) dL_texts_20 ?_
  refine x_callI (y := yJ4_init_a7421) (As := [.ref (ρ 16 0 14)]) (rest := [.ref sb140]) C (cJ4_init_a7421_ok (by decide)) (bsG_in 1457 (by decide +kernel) rfl) wiJ4_init_a7421 dpJ4_init_a7421 ⟨Nat.le_of_ble_eq_true rfl, Nat.le_of_ble_eq_true rfl⟩ ⟨by show (5) + 2 ≤ 1877; omega, by show (44) + 1082 ≤ 291880; omega⟩ rfl (Nat.le_of_ble_eq_true rfl) dL_texts_23 (fun X' R' hp => ?_)
  obtain ⟨eX, sv141, sk141, sa141, sm141, eW, hL141, hF141, hN141, hK141⟩ := hp
  rw [eX, eW]
  clear eX eW X' R'
  refine x_widen (k := (7)) (n := (1126)) (by show (5) + 2 ≤ _; omega) (by show (44) + 1082 ≤ _; omega) ?_
  refine x_eq (Rz' := (lwWs σ θ cA Z) ++ (F ++ [(sb136, sbC sv137 sm137 (nI 0)), (sv137, byC cA sk137 sa137), (sb138, sbC sv139 sm139 (nI 0)), (sv139, byC cA sk139 sa139), (sb140, sbC sv141 sm141 (nI (stN 14))), (sv141, byC cA sk141 sa141)])) (xu_app _ F [(sb136, sbC sv137 sm137 (nI 0)), (sv137, byC cA sk137 sa137), (sb138, sbC sv139 sm139 (nI 0)), (sv139, byC cA sk139 sa139)] _) ?_
  refine x_aload_n C dL_texts_26 rfl rfl ?_
  refine xg_L_136 C dL_texts_27 ?_
  obtain ⟨hg143, hf⟩ := bs_if hf
  obtain ⟨hg144, hf⟩ := bs_if hf
  refine x_topi (y := nI (bsIx (Z 0 0 5))) (jd_nat hg143) ?_
  refine x_out [(sb136, sbC sv137 sm137 (nI 0)), (sv137, byC cA sk137 sa137), (sb138, sbC sv139 sm139 (nI 0)), (sv139, byC cA sk139 sa139)] [(sb140, sbC sv141 sm141 (nI (stN 14))), (sv141, byC cA sk141 sa141)] [] rfl ?_
  refine x_callVr (y := yJ4_append_bf812) (As := [.int (nI (bsIx (Z 0 0 5)))]) (rest := []) C (cJ4_append_bf812_ok (w := (bsIx (Z 0 0 5))) hL141 hF141 hN141 hK141 (jd_natlt _) hg144) (bsG_in 1458 (by decide +kernel) rfl) wyJ4_append_bf812 ((jd_at _ [(sb140, sbC sv141 sm141 (nI (stN 14))), (sv141, byC cA sk141 sa141)] 0).trans rfl) rfl dpJ4_append_bf812 ⟨Nat.le_of_ble_eq_true rfl, Nat.le_of_ble_eq_true rfl⟩ ⟨by show (7) + 1 ≤ 1877; omega, by show (1126) + 1026 ≤ 291880; omega⟩ rfl (Nat.le_of_ble_eq_true rfl) dL_texts_30 (fun r' X' R' hp => ?_)
  obtain ⟨eA, eX, sv142, sk142, sa142, sm142, eW, hL142, hF142, hN142, hK142⟩ := hp
  rw [eA, eX, eW]
  clear eA eX eW r' X' R'
  refine x_widen (k := (8)) (n := (2152)) (by show (7) + 1 ≤ _; omega) (by show (1126) + 1026 ≤ _; omega) ?_
  refine x_in [(sb136, sbC sv137 sm137 (nI 0)), (sv137, byC cA sk137 sa137), (sb138, sbC sv139 sm139 (nI 0)), (sv139, byC cA sk139 sa139)] [(sb140, sbC sv142 sm142 (nI ((stN 14) + sb_dg (bsIx (Z 0 0 5))))), (sv142, byC cA sk142 sa142)] [] (W := [(sb136, sbC sv137 sm137 (nI 0)), (sv137, byC cA sk137 sa137), (sb138, sbC sv139 sm139 (nI 0)), (sv139, byC cA sk139 sa139), (sb140, sbC sv142 sm142 (nI ((stN 14) + sb_dg (bsIx (Z 0 0 5))))), (sv142, byC cA sk142 sa142)]) rfl ?_
  refine x_bipush (v := 32) C dL_texts_33 (by decide) ?_
  obtain ⟨hg146, hf⟩ := bs_if hf
  refine x_out [(sb136, sbC sv137 sm137 (nI 0)), (sv137, byC cA sk137 sa137), (sb138, sbC sv139 sm139 (nI 0)), (sv139, byC cA sk139 sa139)] [(sb140, sbC sv142 sm142 (nI ((stN 14) + sb_dg (bsIx (Z 0 0 5))))), (sv142, byC cA sk142 sa142)] [] rfl ?_
  refine x_callVr (y := yJ4_append_cf468) (As := [.int (nI 32)]) (rest := []) C (cJ4_append_cf468_ok (ch := 32) hL142 hF142 hN142 hK142 hg146 (by decide)) (bsG_in 1459 (by decide +kernel) rfl) wyJ4_append_cf468 ((jd_at _ [(sb140, sbC sv142 sm142 (nI ((stN 14) + sb_dg (bsIx (Z 0 0 5))))), (sv142, byC cA sk142 sa142)] 0).trans rfl) rfl dpJ4_append_cf468 ⟨Nat.le_of_ble_eq_true rfl, Nat.le_of_ble_eq_true rfl⟩ ⟨by show (8) + 1 ≤ 1877; omega, by show (2152) + 1026 ≤ 291880; omega⟩ rfl (Nat.le_of_ble_eq_true rfl) dL_texts_35 (fun r' X' R' hp => ?_)
  obtain ⟨eA, eX, sv145, sk145, sa145, sm145, eW, hL145, hF145, hN145, hK145⟩ := hp
  rw [eA, eX, eW]
  clear eA eX eW r' X' R'
  refine x_widen (k := (9)) (n := (3178)) (by show (8) + 1 ≤ _; omega) (by show (2152) + 1026 ≤ _; omega) ?_
  refine x_in [(sb136, sbC sv137 sm137 (nI 0)), (sv137, byC cA sk137 sa137), (sb138, sbC sv139 sm139 (nI 0)), (sv139, byC cA sk139 sa139)] [(sb140, sbC sv145 sm145 (nI (((stN 14) + sb_dg (bsIx (Z 0 0 5))) + 1))), (sv145, byC cA sk145 sa145)] [] (W := [(sb136, sbC sv137 sm137 (nI 0)), (sv137, byC cA sk137 sa137), (sb138, sbC sv139 sm139 (nI 0)), (sv139, byC cA sk139 sa139), (sb140, sbC sv145 sm145 (nI (((stN 14) + sb_dg (bsIx (Z 0 0 5))) + 1))), (sv145, byC cA sk145 sa145)]) rfl ?_
  refine x_aload_n C dL_texts_38 rfl rfl ?_
  refine xg_L_139 C dL_texts_39 ?_
  obtain ⟨hg148, hf⟩ := bs_if hf
  obtain ⟨hg149, hf⟩ := bs_if hf
  refine x_topi (y := nI (bsIx (Z 0 0 6))) (jd_nat hg148) ?_
  refine x_out [(sb136, sbC sv137 sm137 (nI 0)), (sv137, byC cA sk137 sa137), (sb138, sbC sv139 sm139 (nI 0)), (sv139, byC cA sk139 sa139)] [(sb140, sbC sv145 sm145 (nI (((stN 14) + sb_dg (bsIx (Z 0 0 5))) + 1))), (sv145, byC cA sk145 sa145)] [] rfl ?_
  refine x_callVr (y := yJ4_append_bf812) (As := [.int (nI (bsIx (Z 0 0 6)))]) (rest := []) C (cJ4_append_bf812_ok (w := (bsIx (Z 0 0 6))) hL145 hF145 hN145 hK145 (jd_natlt _) hg149) (bsG_in 1458 (by decide +kernel) rfl) wyJ4_append_bf812 ((jd_at _ [(sb140, sbC sv145 sm145 (nI (((stN 14) + sb_dg (bsIx (Z 0 0 5))) + 1))), (sv145, byC cA sk145 sa145)] 0).trans rfl) rfl dpJ4_append_bf812 ⟨Nat.le_of_ble_eq_true rfl, Nat.le_of_ble_eq_true rfl⟩ ⟨by show (9) + 1 ≤ 1877; omega, by show (3178) + 1026 ≤ 291880; omega⟩ rfl (Nat.le_of_ble_eq_true rfl) dL_texts_42 (fun r' X' R' hp => ?_)
  obtain ⟨eA, eX, sv147, sk147, sa147, sm147, eW, hL147, hF147, hN147, hK147⟩ := hp
  rw [eA, eX, eW]
  clear eA eX eW r' X' R'
  refine x_widen (k := (10)) (n := (4204)) (by show (9) + 1 ≤ _; omega) (by show (3178) + 1026 ≤ _; omega) ?_
  refine x_in [(sb136, sbC sv137 sm137 (nI 0)), (sv137, byC cA sk137 sa137), (sb138, sbC sv139 sm139 (nI 0)), (sv139, byC cA sk139 sa139)] [(sb140, sbC sv147 sm147 (nI ((((stN 14) + sb_dg (bsIx (Z 0 0 5))) + 1) + sb_dg (bsIx (Z 0 0 6))))), (sv147, byC cA sk147 sa147)] [] (W := [(sb136, sbC sv137 sm137 (nI 0)), (sv137, byC cA sk137 sa137), (sb138, sbC sv139 sm139 (nI 0)), (sv139, byC cA sk139 sa139), (sb140, sbC sv147 sm147 (nI ((((stN 14) + sb_dg (bsIx (Z 0 0 5))) + 1) + sb_dg (bsIx (Z 0 0 6))))), (sv147, byC cA sk147 sa147)]) rfl ?_
  refine x_bipush (v := 32) C dL_texts_45 (by decide) ?_
  obtain ⟨hg151, hf⟩ := bs_if hf
  refine x_out [(sb136, sbC sv137 sm137 (nI 0)), (sv137, byC cA sk137 sa137), (sb138, sbC sv139 sm139 (nI 0)), (sv139, byC cA sk139 sa139)] [(sb140, sbC sv147 sm147 (nI ((((stN 14) + sb_dg (bsIx (Z 0 0 5))) + 1) + sb_dg (bsIx (Z 0 0 6))))), (sv147, byC cA sk147 sa147)] [] rfl ?_
  refine x_callVr (y := yJ4_append_cf468) (As := [.int (nI 32)]) (rest := []) C (cJ4_append_cf468_ok (ch := 32) hL147 hF147 hN147 hK147 hg151 (by decide)) (bsG_in 1459 (by decide +kernel) rfl) wyJ4_append_cf468 ((jd_at _ [(sb140, sbC sv147 sm147 (nI ((((stN 14) + sb_dg (bsIx (Z 0 0 5))) + 1) + sb_dg (bsIx (Z 0 0 6))))), (sv147, byC cA sk147 sa147)] 0).trans rfl) rfl dpJ4_append_cf468 ⟨Nat.le_of_ble_eq_true rfl, Nat.le_of_ble_eq_true rfl⟩ ⟨by show (10) + 1 ≤ 1877; omega, by show (4204) + 1026 ≤ 291880; omega⟩ rfl (Nat.le_of_ble_eq_true rfl) dL_texts_47 (fun r' X' R' hp => ?_)
  obtain ⟨eA, eX, sv150, sk150, sa150, sm150, eW, hL150, hF150, hN150, hK150⟩ := hp
  rw [eA, eX, eW]
  clear eA eX eW r' X' R'
  refine x_widen (k := (11)) (n := (5230)) (by show (10) + 1 ≤ _; omega) (by show (4204) + 1026 ≤ _; omega) ?_
  refine x_in [(sb136, sbC sv137 sm137 (nI 0)), (sv137, byC cA sk137 sa137), (sb138, sbC sv139 sm139 (nI 0)), (sv139, byC cA sk139 sa139)] [(sb140, sbC sv150 sm150 (nI (((((stN 14) + sb_dg (bsIx (Z 0 0 5))) + 1) + sb_dg (bsIx (Z 0 0 6))) + 1))), (sv150, byC cA sk150 sa150)] [] (W := [(sb136, sbC sv137 sm137 (nI 0)), (sv137, byC cA sk137 sa137), (sb138, sbC sv139 sm139 (nI 0)), (sv139, byC cA sk139 sa139), (sb140, sbC sv150 sm150 (nI (((((stN 14) + sb_dg (bsIx (Z 0 0 5))) + 1) + sb_dg (bsIx (Z 0 0 6))) + 1))), (sv150, byC cA sk150 sa150)]) rfl ?_
  refine x_aload_n C dL_texts_50 rfl rfl ?_
  refine xg_L_142 C dL_texts_51 ?_
  obtain ⟨hg153, hf⟩ := bs_if hf
  obtain ⟨hg154, hf⟩ := bs_if hf
  refine x_topi (y := nI (bsIx (Z 0 0 7))) (jd_nat hg153) ?_
  refine x_out [(sb136, sbC sv137 sm137 (nI 0)), (sv137, byC cA sk137 sa137), (sb138, sbC sv139 sm139 (nI 0)), (sv139, byC cA sk139 sa139)] [(sb140, sbC sv150 sm150 (nI (((((stN 14) + sb_dg (bsIx (Z 0 0 5))) + 1) + sb_dg (bsIx (Z 0 0 6))) + 1))), (sv150, byC cA sk150 sa150)] [] rfl ?_
  refine x_callVr (y := yJ4_append_bf812) (As := [.int (nI (bsIx (Z 0 0 7)))]) (rest := []) C (cJ4_append_bf812_ok (w := (bsIx (Z 0 0 7))) hL150 hF150 hN150 hK150 (jd_natlt _) hg154) (bsG_in 1458 (by decide +kernel) rfl) wyJ4_append_bf812 ((jd_at _ [(sb140, sbC sv150 sm150 (nI (((((stN 14) + sb_dg (bsIx (Z 0 0 5))) + 1) + sb_dg (bsIx (Z 0 0 6))) + 1))), (sv150, byC cA sk150 sa150)] 0).trans rfl) rfl dpJ4_append_bf812 ⟨Nat.le_of_ble_eq_true rfl, Nat.le_of_ble_eq_true rfl⟩ ⟨by show (11) + 1 ≤ 1877; omega, by show (5230) + 1026 ≤ 291880; omega⟩ rfl (Nat.le_of_ble_eq_true rfl) dL_texts_54 (fun r' X' R' hp => ?_)
  obtain ⟨eA, eX, sv152, sk152, sa152, sm152, eW, hL152, hF152, hN152, hK152⟩ := hp
  rw [eA, eX, eW]
  clear eA eX eW r' X' R'
  refine x_widen (k := (12)) (n := (6256)) (by show (11) + 1 ≤ _; omega) (by show (5230) + 1026 ≤ _; omega) ?_
  refine x_in [(sb136, sbC sv137 sm137 (nI 0)), (sv137, byC cA sk137 sa137), (sb138, sbC sv139 sm139 (nI 0)), (sv139, byC cA sk139 sa139)] [(sb140, sbC sv152 sm152 (nI ((((((stN 14) + sb_dg (bsIx (Z 0 0 5))) + 1) + sb_dg (bsIx (Z 0 0 6))) + 1) + sb_dg (bsIx (Z 0 0 7))))), (sv152, byC cA sk152 sa152)] [] (W := [(sb136, sbC sv137 sm137 (nI 0)), (sv137, byC cA sk137 sa137), (sb138, sbC sv139 sm139 (nI 0)), (sv139, byC cA sk139 sa139), (sb140, sbC sv152 sm152 (nI ((((((stN 14) + sb_dg (bsIx (Z 0 0 5))) + 1) + sb_dg (bsIx (Z 0 0 6))) + 1) + sb_dg (bsIx (Z 0 0 7))))), (sv152, byC cA sk152 sa152)]) rfl ?_
  refine x_bipush (v := 32) C dL_texts_57 (by decide) ?_
  obtain ⟨hg156, hf⟩ := bs_if hf
  refine x_out [(sb136, sbC sv137 sm137 (nI 0)), (sv137, byC cA sk137 sa137), (sb138, sbC sv139 sm139 (nI 0)), (sv139, byC cA sk139 sa139)] [(sb140, sbC sv152 sm152 (nI ((((((stN 14) + sb_dg (bsIx (Z 0 0 5))) + 1) + sb_dg (bsIx (Z 0 0 6))) + 1) + sb_dg (bsIx (Z 0 0 7))))), (sv152, byC cA sk152 sa152)] [] rfl ?_
  refine x_callVr (y := yJ4_append_cf468) (As := [.int (nI 32)]) (rest := []) C (cJ4_append_cf468_ok (ch := 32) hL152 hF152 hN152 hK152 hg156 (by decide)) (bsG_in 1459 (by decide +kernel) rfl) wyJ4_append_cf468 ((jd_at _ [(sb140, sbC sv152 sm152 (nI ((((((stN 14) + sb_dg (bsIx (Z 0 0 5))) + 1) + sb_dg (bsIx (Z 0 0 6))) + 1) + sb_dg (bsIx (Z 0 0 7))))), (sv152, byC cA sk152 sa152)] 0).trans rfl) rfl dpJ4_append_cf468 ⟨Nat.le_of_ble_eq_true rfl, Nat.le_of_ble_eq_true rfl⟩ ⟨by show (12) + 1 ≤ 1877; omega, by show (6256) + 1026 ≤ 291880; omega⟩ rfl (Nat.le_of_ble_eq_true rfl) dL_texts_59 (fun r' X' R' hp => ?_)
  obtain ⟨eA, eX, sv155, sk155, sa155, sm155, eW, hL155, hF155, hN155, hK155⟩ := hp
  rw [eA, eX, eW]
  clear eA eX eW r' X' R'
  refine x_widen (k := (13)) (n := (7282)) (by show (12) + 1 ≤ _; omega) (by show (6256) + 1026 ≤ _; omega) ?_
  refine x_in [(sb136, sbC sv137 sm137 (nI 0)), (sv137, byC cA sk137 sa137), (sb138, sbC sv139 sm139 (nI 0)), (sv139, byC cA sk139 sa139)] [(sb140, sbC sv155 sm155 (nI (((((((stN 14) + sb_dg (bsIx (Z 0 0 5))) + 1) + sb_dg (bsIx (Z 0 0 6))) + 1) + sb_dg (bsIx (Z 0 0 7))) + 1))), (sv155, byC cA sk155 sa155)] [] (W := [(sb136, sbC sv137 sm137 (nI 0)), (sv137, byC cA sk137 sa137), (sb138, sbC sv139 sm139 (nI 0)), (sv139, byC cA sk139 sa139), (sb140, sbC sv155 sm155 (nI (((((((stN 14) + sb_dg (bsIx (Z 0 0 5))) + 1) + sb_dg (bsIx (Z 0 0 6))) + 1) + sb_dg (bsIx (Z 0 0 7))) + 1))), (sv155, byC cA sk155 sa155)]) rfl ?_
  refine x_aload_n C dL_texts_62 rfl rfl ?_
  refine xg_L_145 C dL_texts_63 ?_
  obtain ⟨hg158, hf⟩ := bs_if hf
  obtain ⟨hg159, hf⟩ := bs_if hf
  refine x_topi (y := nI (bsIx (Z 0 0 8))) (jd_nat hg158) ?_
  refine x_out [(sb136, sbC sv137 sm137 (nI 0)), (sv137, byC cA sk137 sa137), (sb138, sbC sv139 sm139 (nI 0)), (sv139, byC cA sk139 sa139)] [(sb140, sbC sv155 sm155 (nI (((((((stN 14) + sb_dg (bsIx (Z 0 0 5))) + 1) + sb_dg (bsIx (Z 0 0 6))) + 1) + sb_dg (bsIx (Z 0 0 7))) + 1))), (sv155, byC cA sk155 sa155)] [] rfl ?_
  refine x_callVr (y := yJ4_append_bf812) (As := [.int (nI (bsIx (Z 0 0 8)))]) (rest := []) C (cJ4_append_bf812_ok (w := (bsIx (Z 0 0 8))) hL155 hF155 hN155 hK155 (jd_natlt _) hg159) (bsG_in 1458 (by decide +kernel) rfl) wyJ4_append_bf812 ((jd_at _ [(sb140, sbC sv155 sm155 (nI (((((((stN 14) + sb_dg (bsIx (Z 0 0 5))) + 1) + sb_dg (bsIx (Z 0 0 6))) + 1) + sb_dg (bsIx (Z 0 0 7))) + 1))), (sv155, byC cA sk155 sa155)] 0).trans rfl) rfl dpJ4_append_bf812 ⟨Nat.le_of_ble_eq_true rfl, Nat.le_of_ble_eq_true rfl⟩ ⟨by show (13) + 1 ≤ 1877; omega, by show (7282) + 1026 ≤ 291880; omega⟩ rfl (Nat.le_of_ble_eq_true rfl) dL_texts_66 (fun r' X' R' hp => ?_)
  obtain ⟨eA, eX, sv157, sk157, sa157, sm157, eW, hL157, hF157, hN157, hK157⟩ := hp
  rw [eA, eX, eW]
  clear eA eX eW r' X' R'
  refine x_widen (k := (14)) (n := (8308)) (by show (13) + 1 ≤ _; omega) (by show (7282) + 1026 ≤ _; omega) ?_
  refine x_in [(sb136, sbC sv137 sm137 (nI 0)), (sv137, byC cA sk137 sa137), (sb138, sbC sv139 sm139 (nI 0)), (sv139, byC cA sk139 sa139)] [(sb140, sbC sv157 sm157 (nI ((((((((stN 14) + sb_dg (bsIx (Z 0 0 5))) + 1) + sb_dg (bsIx (Z 0 0 6))) + 1) + sb_dg (bsIx (Z 0 0 7))) + 1) + sb_dg (bsIx (Z 0 0 8))))), (sv157, byC cA sk157 sa157)] [] (W := [(sb136, sbC sv137 sm137 (nI 0)), (sv137, byC cA sk137 sa137), (sb138, sbC sv139 sm139 (nI 0)), (sv139, byC cA sk139 sa139), (sb140, sbC sv157 sm157 (nI ((((((((stN 14) + sb_dg (bsIx (Z 0 0 5))) + 1) + sb_dg (bsIx (Z 0 0 6))) + 1) + sb_dg (bsIx (Z 0 0 7))) + 1) + sb_dg (bsIx (Z 0 0 8))))), (sv157, byC cA sk157 sa157)]) rfl ?_
  refine x_astore (lv' := [(4, .ref sb140), (3, .ref sb138), (2, .ref sb136), (0, .ref (ρ 13 0 0)), (1, .ref (σ 0 0))]) C dL_texts_69 (by decide) rfl ?_
  refine x_iconst (v := 0) C dL_texts_71 (by decide) ?_
  refine x_istore (lv' := [(5, .int (0 : Int32)), (4, .ref sb140), (3, .ref sb138), (2, .ref sb136), (0, .ref (ρ 13 0 0)), (1, .ref (σ 0 0))]) C dL_texts_72 (by decide) rfl ?_
  refine x_sub [4, 5, 3, 2, 1, 0] rfl ?_
  exact qL_texts_74  C hst  8 _ _ _ _ _ _ _ _ _ _ _ _ _ _ _ _ _ _ _ _ _ _ _ _ _ _ _ hL137 hF137 hN137 hK137 hL139 hF139 hN139 hK139 hL157 hF157 hN157 hK157 (by show _ + (8 + _) ≤ _; omega) (by show _ + (8208 + _) ≤ _; omega) hf
